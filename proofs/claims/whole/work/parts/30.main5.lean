theorem vu_at (V : VW) (r j : Nat) (v : Int32) (r' j' : Nat) : vu V r j v r' j' = if r' = r then (if j' = j then v else V r j') else V r' j' := by
  unfold vu
  by_cases h : r' = r
  · rw [if_pos h, if_pos h]; rfl
  · rw [if_neg h, if_neg h]
theorem vu_e {U V : VW} {r i k x : Nat} {v : Int32} (e : U k x = V k x) : vu U r i v k x = vu V r i v k x := by
  rw [vu_at, vu_at]
  by_cases h : k = r
  · subst h
    rw [if_pos rfl, if_pos rfl, e]
  · rw [if_neg h, if_neg h, e]
theorem vu_c {a b r i : Nat} {U V : VW} {v : Int32} (e : EqV a b U V) : EqV a b (vu U r i v) (vu V r i v) :=
  ⟨⟨vu_e e.1.1, vu_e e.1.2.1, vu_e e.1.2.2.1, vu_e e.1.2.2.2⟩, fun j hj => ⟨vu_e (e.2.1 j hj).1, vu_e (e.2.1 j hj).2.1, vu_e (e.2.1 j hj).2.2⟩, fun h hh => ⟨vu_e (e.2.2 h hh).1, vu_e (e.2.2 h hh).2.1, vu_e (e.2.2 h hh).2.2.1, vu_e (e.2.2 h hh).2.2.2.1, vu_e (e.2.2 h hh).2.2.2.2⟩⟩
theorem vu_vu (V : VW) (r i : Nat) (v w : Int32) : vu (vu V r i v) r i w = vu V r i w := by
  funext k x
  simp only [vu_at]
  by_cases h : k = r
  · subst h
    by_cases q : x = i <;> simp [q]
  · simp [h]
def rsF (so sz : Nat → Int32) (V : VW) (s : Int32) : Int32 := if inF s 0 3 then (if so (cl s) = -1 then -11 else if sz (cl s) = V 0 1 then 0 else -2) else -2
def rjF (so sz : Nat → Int32) (V : VW) (s h : Int32) : Int32 := if rsF so sz V s = 0 then (if hrF V h then 0 else -6) else rsF so sz V s
def rjjF (so sz : Nat → Int32) (V : VW) (s h ja : Int32) : Int32 := if rjF so sz V s h = 0 then (if ja < 0 then -5 else if jkF V (ja / 10) then (if 1 < ja - ja / 10 * 10 then -7 else 0) else -5) else rjF so sz V s h
theorem rs_0 {so sz : Nat → Int32} {V : VW} {s : Int32} (h : rsF so sz V s = 0) : ∃ k, k < 4 ∧ s = nI k ∧ ¬ so k = -1 ∧ sz k = V 0 1 := by
  unfold rsF at h
  cases e : inF s 0 3 with
  | false => rw [e, if_neg Bool.false_ne_true] at h; exact absurd h (by decide)
  | true =>
    rw [e, if_pos rfl] at h
    obtain ⟨k, hk, rfl⟩ := in_trueL (n := 3) e (by decide)
    rw [cl_nI (by omega)] at h
    by_cases q : so k = -1
    · rw [if_pos q] at h; exact absurd h (by decide)
    · rw [if_neg q] at h
      by_cases q2 : sz k = V 0 1
      · exact ⟨k, by omega, rfl, q, q2⟩
      · rw [if_neg q2] at h; exact absurd h (by decide)
theorem rj_0 {so sz : Nat → Int32} {V : VW} {s h : Int32} (e : rjF so sz V s h = 0) : rsF so sz V s = 0 ∧ hrF V h = true := by
  unfold rjF at e
  by_cases q : rsF so sz V s = 0
  · rw [if_pos q] at e
    refine ⟨q, ?_⟩
    cases r : hrF V h with
    | true => rfl
    | false => rw [r, if_neg Bool.false_ne_true] at e; exact absurd e (by decide)
  · rw [if_neg q] at e; exact absurd e q
theorem rjj_0 {so sz : Nat → Int32} {V : VW} {s h ja : Int32} (e : rjjF so sz V s h ja = 0) : rjF so sz V s h = 0 ∧ ∃ q, q < 2 ^ 31 ∧ ja = nI q ∧ jkF V (nI (q / 10)) = true ∧ q % 10 ≤ 1 := by
  unfold rjjF at e
  by_cases q : rjF so sz V s h = 0
  · rw [if_pos q] at e
    refine ⟨q, ?_⟩
    by_cases g : ja < 0
    · rw [if_pos g] at e; exact absurd e (by decide)
    · rw [if_neg g] at e
      obtain ⟨z, hz, rfl⟩ := nI_of g
      have e1 : nI z / 10 = nI (z / 10) := pk_div hz (by decide) (by decide)
      have e2 : nI z - nI z / 10 * 10 = nI (z % 10) := pk_rem hz (by decide) (by decide)
      rw [e2, e1] at e
      cases r : jkF V (nI (z / 10)) with
      | false => rw [r, if_neg Bool.false_ne_true] at e; exact absurd e (by decide)
      | true =>
        rw [r, if_pos rfl] at e
        refine ⟨z, hz, rfl, r, ?_⟩
        rcases Nat.lt_or_ge 1 (z % 10) with w | w
        · rw [if_pos (show (1 : Int32) < nI (z % 10) from nI_lt (a := 1) w (by omega))] at e; exact absurd e (by decide)
        · exact w
  · rw [if_neg q] at e; exact absurd e q
def otF (B : BK) (V : VW) (ce : Nat → Int32) (s h : Nat) : Nat → Nat → Int32
  | 0, _ => -1
  | m + 1, j => if ce (40 * s + j) = yF B V j h then otF B V ce s h m (j + 1) else nI j
theorem otF_c {B : BK} {U V : VW} {ce : Nat → Int32} {s h a b : Nat} (e : EqV a b U V) (hh : h < b) : ∀ (m j : Nat), j + m ≤ a → otF B U ce s h m j = otF B V ce s h m j
  | 0, _, _ => rfl
  | m + 1, j, hm => by
    show (if ce (40 * s + j) = yF B U j h then otF B U ce s h m (j + 1) else nI j) = if ce (40 * s + j) = yF B V j h then otF B V ce s h m (j + 1) else nI j
    rw [yF_c e (by omega) hh, otF_c e hh m (j + 1) (by omega)]
def fitF (B : BK) (V : VW) (ce : Nat → Int32) (s h nj : Nat) : Int32 := if otF B V ce s h nj 0 = -1 then 1 else 0
theorem fitF_c {B : BK} {U V : VW} {ce : Nat → Int32} {s h nj b : Nat} (e : EqV nj b U V) (hh : h < b) : fitF B U ce s h nj = fitF B V ce s h nj := by
  unfold fitF
  rw [otF_c e hh nj 0 (by omega)]
def judgeF (B : BK) (V : VW) (so sz ce : Nat → Int32) (nj : Nat) (s h : Int32) : Int32 := if rjF so sz V s h = 0 then otF B V ce (cl s) (cl h) nj 0 else rjF so sz V s h
def whL (B : BK) (V : VW) (ce : Nat → Int32) (s nj : Nat) : Nat → Nat → Int32 → Int32
  | 0, _, b => b
  | m + 1, h, b => whL B V ce s nj m (h + 1) (if otF B V ce s h nj 0 = -1 then b ||| shF h else b)
def whoseF (B : BK) (V : VW) (so sz ce : Nat → Int32) (nj nh : Nat) (s : Int32) : Int32 := if rsF so sz V s = 0 then whL B V ce (cl s) nj nh 0 0 else rsF so sz V s
def biL (B : BK) (V : VW) (ce : Nat → Int32) (s h nj r i : Nat) : Nat → Nat → Int32 → Int32
  | 0, _, b => b
  | m + 1, f, b => biL B V ce s h nj r i m (f + 1) (b ||| (fitF B (vu V r i (nI f)) ce s h nj <<< (nI f &&& 31)))
def humF (B : BK) (V : VW) (so sz ce : Nat → Int32) (nj : Nat) (s h : Int32) : Int32 := if rjF so sz V s h = 0 then biL B V ce (cl s) (cl h) nj 4 (cl h) 10 0 0 else rjF so sz V s h
def lawsF (B : BK) (V : VW) (so sz ce : Nat → Int32) (nj n : Nat) (s h : Int32) : Int32 := if rjF so sz V s h = 0 then biL B V ce (cl s) (cl h) nj 0 13 n 0 0 else rjF so sz V s h
def kindsF (B : BK) (V : VW) (so sz ce : Nat → Int32) (nj : Nat) (s h ja : Int32) : Int32 := if rjjF so sz V s h ja = 0 then (if cl ja % 10 = 0 then biL B V ce (cl s) (cl h) nj 1 (cl ja / 10) 6 0 0 else biL B V ce (cl s) (cl h) nj 2 (cl ja / 10) 10 0 0) else rjjF so sz V s h ja
def weL (B : BK) (V : VW) (ce : Nat → Int32) (s h nj i : Nat) : Nat → Nat → Nat × Int32 → Nat × Int32
  | 0, _, b => b
  | m + 1, f, b => weL B V ce s h nj i m (f + 1) (if fitF B (vu V 3 i (nI f)) ce s h nj = 1 then (b.1 + 1, if b.2 = -1 then nI f else b.2) else b)
def wearF (B : BK) (V : VW) (so sz ce : Nat → Int32) (nj : Nat) (s h ja : Int32) : Int32 := if rjjF so sz V s h ja = 0 then (if cl ja % 10 = 0 then nI (weL B V ce (cl s) (cl h) nj (cl ja / 10) 100 0 (0, -1)).1 else (weL B V ce (cl s) (cl h) nj (cl ja / 10) 100 0 (0, -1)).2) else rjjF so sz V s h ja
def aljF (V : VW) : Int32 := ((1 : Int32) <<< (V 0 1 &&& 31)) - 1
theorem aljF_n {V : VW} {n : Nat} (h : V 0 1 = nI n) (hn : n ≤ 6) : aljF V = nI (aN n - 1) := by
  unfold aljF
  rw [h]
  match n, hn with
  | 0, _ => decide
  | 1, _ => decide
  | 2, _ => decide
  | 3, _ => decide
  | 4, _ => decide
  | 5, _ => decide
  | 6, _ => decide
def heL (B : BK) (V : VW) (ce : Nat → Int32) (s h nj : Nat) : Nat → Nat → Nat × Int32 × Int32 → Nat × Int32 × Int32
  | 0, _, b => b
  | m + 1, f, b => heL B V ce s h nj m (f + 1) (if fitF B (vu V 7 h (nI f)) ce s h nj = 1 then (b.1 + 1, b.2.1 &&& nI f, b.2.2 &&& (nI f ^^^ -1)) else b)
def heaA (B : BK) (V : VW) (ce : Nat → Int32) (nj s h : Nat) : Nat × Int32 × Int32 := heL B V ce s h nj (aN nj) 0 (0, aljF V, aljF V)
def heaF (B : BK) (V : VW) (so sz ce : Nat → Int32) (nj : Nat) (s h what : Int32) : Int32 := if rjF so sz V s h = 0 then (if inF what 0 2 then (if what = 0 then nI (heaA B V ce nj (cl s) (cl h)).1 else if (heaA B V ce nj (cl s) (cl h)).1 = 0 then -1 else if what = 1 then (heaA B V ce nj (cl s) (cl h)).2.1 else (heaA B V ce nj (cl s) (cl h)).2.2) else -7) else rjF so sz V s h
def amL (B : BK) (V : VW) (ce : Nat → Int32) (s h : Nat) : Nat → Nat → Int64 → Int64
  | 0, _, x => x
  | m + 1, j, x => amL B V ce s h m (j + 1) (x + (if 0 < (ce (40 * s + j)).toInt64 - (yF B V j h).toInt64 then (ce (40 * s + j)).toInt64 - (yF B V j h).toInt64 else -((ce (40 * s + j)).toInt64 - (yF B V j h).toInt64)) * (saysF B V 2 (V 3 j) (V 2 j) h).toInt64)
def amissF (B : BK) (V : VW) (so sz ce : Nat → Int32) (nj : Nat) (s h : Int32) : Int64 := if rjF so sz V s h = 0 then amL B V ce (cl s) (cl h) nj 0 0 else NOL
theorem okC_t {μ : PM} {U V : VW} {n t : Nat} (h : okC μ V) (hn : μ.1 1 0 = nI n) (hn6 : n ≤ 6) (ht : t < n) : okC μ (vu U 0 13 (nI t)) := by
  obtain ⟨size, t0, h1, h2, h3, h4⟩ := h
  have e : size = n := (nI_eq (by have := h2.1; omega) (by omega)).mp (h1.symm.trans hn)
  subst e
  exact ⟨size, t, h1, h2, ht, rfl⟩
set_option maxHeartbeats 4000000 in
set_option maxRecDepth 100000 in
theorem T_X7_refusedSheet {l : Launch} {μ : PM} {V : VW} {nm sk : Nat → Int32} {s : Int32} : CT l SC yX7_refusedSheet cX7_refusedSheet 2 (some .int) 3 [.ref 0, .int s] (sc (wr μ 22 V) nm sk) (QI fun x m => x = rsF (μ.1 19) (μ.1 20) V s ∧ m = sc (wr μ 22 V) nm sk) := by
  refine CT.of rfl (Nat.le_of_ble_eq_true rfl) ?_
  show PW l SC RX7 cX7_refusedSheet 2 (some .int) 3 _ 0 [(0, .ref 0), (1, .int s)] [] (sc (wr μ 22 V) nm sk)
  have hw : isW 22 := Or.inl rfl
  refine pw_iload_n dX7_refusedSheet_0 rfl rfl ?_
  refine pw_cSi dX7_refusedSheet_1 ms_X7_291 T_X7_isSheet rfl rfl (Nat.le_of_ble_eq_true rfl) (by decide) (fun x_1 m_1 h_1 => ?_)
  obtain ⟨rfl, rfl⟩ := h_1
  refine pw_if_ne (tgt := 10) dX7_refusedSheet_4 (by decide) (fun c_4 => ?_) (fun c_4 => ?_)
  · skip
    have hb_4 := b2_n c_4
    obtain ⟨s, hs3, rfl⟩ := in_trueL (n := 3) hb_4 (by decide)
    refine pw_aload_n dX7_refusedSheet_10 rfl rfl ?_
    refine pw_getR dX7_refusedSheet_11 fa_X7_61 rfl ?_
    refine pw_iload_n dX7_refusedSheet_14 rfl rfl ?_
    refine pw_cVi dX7_refusedSheet_15 mv_X7_300 ckSheets (T_X5_isMissing (s := s) (by omega)) rfl rfl (Nat.le_of_ble_eq_true rfl) (by decide) (fun x_15 m_15 h_15 => ?_)
    obtain ⟨rfl, rfl⟩ := h_15
    refine pw_if_eq (tgt := 24) dX7_refusedSheet_18 (by decide) (fun c_18 => ?_) (fun c_18 => ?_)
    · skip
      have hb_18 := b2_0 c_18
      have hms : ¬ μ.1 19 s = -1 := of_decide_eq_false (b2_0 c_18)
      refine pw_aload_n dX7_refusedSheet_24 rfl rfl ?_
      refine pw_getR dX7_refusedSheet_25 fa_X7_61 rfl ?_
      refine pw_getR dX7_refusedSheet_28 fa_X7_303 rfl ?_
      refine pw_iload_n dX7_refusedSheet_31 rfl rfl ?_
      refine pw_iald (j := s) dX7_refusedSheet_32 rfl rfl (by omega) ?_
      refine pw_top (y := μ.1 20 s) rfl ?_
      refine pw_aload_n dX7_refusedSheet_33 rfl rfl ?_
      refine pw_getR dX7_refusedSheet_34 fa_X7_28 rfl ?_
      refine pw_getI dX7_refusedSheet_37 fa_X7_99 rfl ?_
      refine pw_top (y := V 0 1) (by rw [rdw0 hw] <;> rfl) ?_
      refine pw_icmp_ne (tgt := 47) dX7_refusedSheet_40 (by decide) (fun c_40 => ?_) (fun c_40 => ?_)
      · skip
        refine pw_bipush (v := (-2)) dX7_refusedSheet_47 rfl ?_
        refine pw_iret dX7_refusedSheet_49 rfl ?_
        exact ⟨by unfold rsF; rw [show inF (nI s) 0 3 = true from hb_4, if_pos rfl, cl_nI (by omega), if_neg hms, if_neg c_40], rfl⟩
      · skip
        refine pw_iconst (v := 0) dX7_refusedSheet_43 rfl ?_
        refine pw_goto (tgt := 49) dX7_refusedSheet_44 (by decide) ?_
        refine pw_iret dX7_refusedSheet_49 rfl ?_
        exact ⟨by unfold rsF; rw [show inF (nI s) 0 3 = true from hb_4, if_pos rfl, cl_nI (by omega), if_neg hms, if_pos c_40], rfl⟩
    · skip
      have hb_18 := b2_n c_18
      have hms : μ.1 19 s = -1 := of_decide_eq_true (b2_n c_18)
      refine pw_bipush (v := (-11)) dX7_refusedSheet_21 rfl ?_
      refine pw_iret dX7_refusedSheet_23 rfl ?_
      exact ⟨by unfold rsF; rw [show inF (nI s) 0 3 = true from hb_4, if_pos rfl, cl_nI (by omega), if_pos hms], rfl⟩
  · skip
    have hb_4 := b2_0 c_4
    refine pw_bipush (v := (-2)) dX7_refusedSheet_7 rfl ?_
    refine pw_iret dX7_refusedSheet_9 rfl ?_
    exact ⟨by unfold rsF; rw [hb_4]; rfl, rfl⟩

set_option maxHeartbeats 4000000 in
set_option maxRecDepth 100000 in
theorem T_X7_refusedJudging {l : Launch} {μ : PM} {V : VW} {nm sk : Nat → Int32} {s h : Int32} : CT l SC yX7_refusedJudging cX7_refusedJudging 4 (some .int) 4 [.ref 0, .int s, .int h] (sc (wr μ 22 V) nm sk) (QI fun x m => x = rjF (μ.1 19) (μ.1 20) V s h ∧ m = sc (wr μ 22 V) nm sk) := by
  refine CT.of rfl (Nat.le_of_ble_eq_true rfl) ?_
  show PW l SC RX7 cX7_refusedJudging 4 (some .int) 4 _ 0 [(0, .ref 0), (1, .int s), (2, .int h)] [] (sc (wr μ 22 V) nm sk)
  have hw : isW 22 := Or.inl rfl
  refine pw_aload_n dX7_refusedJudging_0 rfl rfl ?_
  refine pw_iload_n dX7_refusedJudging_1 rfl rfl ?_
  refine pw_cVi dX7_refusedJudging_2 mv_X7_279 ckMain T_X7_refusedSheet rfl rfl (Nat.le_of_ble_eq_true rfl) (by decide) (fun x_2 m_2 h_2 => ?_)
  obtain ⟨rfl, rfl⟩ := h_2
  refine pw_istore_n (ls2 := [(3, _), (0, _), (1, _), (2, _)]) dX7_refusedJudging_5 rfl (by decide) rfl ?_
  refine pw_iload_n dX7_refusedJudging_6 rfl rfl ?_
  refine pw_if_eq (tgt := 12) dX7_refusedJudging_7 (by decide) (fun c_7 => ?_) (fun c_7 => ?_)
  · skip
    refine pw_aload_n dX7_refusedJudging_12 rfl rfl ?_
    refine pw_getR dX7_refusedJudging_13 fa_X7_28 rfl ?_
    refine pw_iload_n dX7_refusedJudging_16 rfl rfl ?_
    refine pw_cVi dX7_refusedJudging_17 mv_X7_127 ckNow (T_X6_hasHearer hw) rfl rfl (Nat.le_of_ble_eq_true rfl) (by decide) (fun x_17 m_17 h_17 => ?_)
    obtain ⟨rfl, rfl⟩ := h_17
    refine pw_if_eq (tgt := 27) dX7_refusedJudging_20 (by decide) (fun c_20 => ?_) (fun c_20 => ?_)
    · skip
      have hb_20 := b2_0 c_20
      refine pw_bipush (v := (-6)) dX7_refusedJudging_27 rfl ?_
      refine pw_iret dX7_refusedJudging_29 rfl ?_
      exact ⟨by unfold rjF hrF; rw [if_pos c_7, hb_20]; rfl, rfl⟩
    · skip
      have hb_20 := b2_n c_20
      refine pw_iconst (v := 0) dX7_refusedJudging_23 rfl ?_
      refine pw_goto (tgt := 29) dX7_refusedJudging_24 (by decide) ?_
      refine pw_iret dX7_refusedJudging_29 rfl ?_
      exact ⟨by unfold rjF hrF; rw [if_pos c_7, hb_20]; rfl, rfl⟩
  · skip
    refine pw_iload_n dX7_refusedJudging_10 rfl rfl ?_
    refine pw_iret dX7_refusedJudging_11 rfl ?_
    exact ⟨by unfold rjF; rw [if_neg c_7], rfl⟩

set_option maxHeartbeats 4000000 in
set_option maxRecDepth 100000 in
theorem T_X7_refusedJudgingJoke {l : Launch} {μ : PM} {V : VW} {nm sk : Nat → Int32} {s h ja : Int32} : CT l SC yX7_refusedJudgingJoke cX7_refusedJudgingJoke 5 (some .int) 5 [.ref 0, .int s, .int h, .int ja] (sc (wr μ 22 V) nm sk) (QI fun x m => x = rjjF (μ.1 19) (μ.1 20) V s h ja ∧ m = sc (wr μ 22 V) nm sk) := by
  refine CT.of rfl (Nat.le_of_ble_eq_true rfl) ?_
  show PW l SC RX7 cX7_refusedJudgingJoke 5 (some .int) 5 _ 0 [(0, .ref 0), (1, .int s), (2, .int h), (3, .int ja)] [] (sc (wr μ 22 V) nm sk)
  have hw : isW 22 := Or.inl rfl
  refine pw_aload_n dX7_refusedJudgingJoke_0 rfl rfl ?_
  refine pw_iload_n dX7_refusedJudgingJoke_1 rfl rfl ?_
  refine pw_iload_n dX7_refusedJudgingJoke_2 rfl rfl ?_
  refine pw_cVi dX7_refusedJudgingJoke_3 mv_X7_260 ckMain T_X7_refusedJudging rfl rfl (Nat.le_of_ble_eq_true rfl) (by decide) (fun x_3 m_3 h_3 => ?_)
  obtain ⟨rfl, rfl⟩ := h_3
  refine pw_istore (ls2 := [(4, _), (0, _), (1, _), (2, _), (3, _)]) dX7_refusedJudgingJoke_6 (by decide) rfl ?_
  refine pw_iload dX7_refusedJudgingJoke_8 rfl ?_
  refine pw_if_eq (tgt := 16) dX7_refusedJudgingJoke_10 (by decide) (fun c_10 => ?_) (fun c_10 => ?_)
  · skip
    refine pw_iload_n dX7_refusedJudgingJoke_16 rfl rfl ?_
    refine pw_if_lt (tgt := 34) dX7_refusedJudgingJoke_17 (by decide) (fun c_17 => ?_) (fun c_17 => ?_)
    · skip
      refine pw_bipush (v := (-5)) dX7_refusedJudgingJoke_34 rfl ?_
      refine pw_iret dX7_refusedJudgingJoke_36 rfl ?_
      exact ⟨by unfold rjjF; rw [if_pos c_10, if_pos c_17], rfl⟩
    · skip
      refine pw_aload_n dX7_refusedJudgingJoke_20 rfl rfl ?_
      refine pw_getR dX7_refusedJudgingJoke_21 fa_X7_28 rfl ?_
      refine pw_iload_n dX7_refusedJudgingJoke_24 rfl rfl ?_
      refine pw_bipush (v := 10) dX7_refusedJudgingJoke_25 rfl ?_
      refine pw_idiv dX7_refusedJudgingJoke_27 (by decide) ?_
      refine pw_cVi dX7_refusedJudgingJoke_28 mv_X7_138 ckNow (T_X6_hasJoke hw) rfl rfl (Nat.le_of_ble_eq_true rfl) (by decide) (fun x_28 m_28 h_28 => ?_)
      obtain ⟨rfl, rfl⟩ := h_28
      refine pw_if_ne (tgt := 37) dX7_refusedJudgingJoke_31 (by decide) (fun c_31 => ?_) (fun c_31 => ?_)
      · skip
        have hb_31 := b2_n c_31
        refine pw_iload_n dX7_refusedJudgingJoke_37 rfl rfl ?_
        refine pw_bipush (v := 10) dX7_refusedJudgingJoke_38 rfl ?_
        refine pw_irem dX7_refusedJudgingJoke_40 (by decide) ?_
        refine pw_iconst (v := 1) dX7_refusedJudgingJoke_41 rfl ?_
        refine pw_icmp_gt (tgt := 49) dX7_refusedJudgingJoke_42 (by decide) (fun c_42 => ?_) (fun c_42 => ?_)
        · skip
          refine pw_bipush (v := (-7)) dX7_refusedJudgingJoke_49 rfl ?_
          refine pw_iret dX7_refusedJudgingJoke_51 rfl ?_
          exact ⟨by unfold rjjF jkF; rw [if_pos c_10, if_neg c_17, hb_31, if_pos rfl, if_pos c_42], rfl⟩
        · skip
          refine pw_iconst (v := 0) dX7_refusedJudgingJoke_45 rfl ?_
          refine pw_goto (tgt := 51) dX7_refusedJudgingJoke_46 (by decide) ?_
          refine pw_iret dX7_refusedJudgingJoke_51 rfl ?_
          exact ⟨by unfold rjjF jkF; rw [if_pos c_10, if_neg c_17, hb_31, if_pos rfl, if_neg c_42], rfl⟩
      · skip
        have hb_31 := b2_0 c_31
        refine pw_bipush (v := (-5)) dX7_refusedJudgingJoke_34 rfl ?_
        refine pw_iret dX7_refusedJudgingJoke_36 rfl ?_
        exact ⟨by unfold rjjF jkF; rw [if_pos c_10, if_neg c_17, hb_31]; rfl, rfl⟩
  · skip
    refine pw_iload dX7_refusedJudgingJoke_13 rfl ?_
    refine pw_iret dX7_refusedJudgingJoke_15 rfl ?_
    exact ⟨by unfold rjjF; rw [if_neg c_10], rfl⟩

set_option maxHeartbeats 4000000 in
set_option maxRecDepth 100000 in
theorem T_X7_otherwise {l : Launch} {μ : PM} {w : Nat} {V : VW} {nm sk : Nat → Int32} {nj s h : Nat} (hw : isW w) (hc : okC μ V) (h1 : V 0 1 = nI nj) (hj5 : nj ≤ 5) (hh : h < 6) (hs : s < 4) (hz : μ.1 20 s = nI nj) : CT l SC yX7_otherwise cX7_otherwise 5 (some .int) 6 [.ref 0, .ref w, .int (nI s), .int (nI h)] (sc (wr μ w V) nm sk) (QI fun x m => x = otF (bk μ) V (μ.1 21) s h nj 0 ∧ ∃ nm2 sk2, m = sc (wr μ w V) nm2 sk2) := by
  refine CT.of rfl (Nat.le_of_ble_eq_true rfl) ?_
  show PW l SC RX7 cX7_otherwise 5 (some .int) 6 _ 0 [(0, .ref 0), (1, .ref w), (2, .int (nI s)), (3, .int (nI h))] [] (sc (wr μ w V) nm sk)
  have hw22 := isW_ge hw
  refine pw_iconst (v := 0) dX7_otherwise_0 rfl ?_
  refine pw_istore (ls2 := [(4, _), (0, _), (1, _), (2, _), (3, _)]) dX7_otherwise_1 (by decide) rfl ?_
  have L_3 : ∀ (fu_3 : Nat) (j : Nat) (nm sk : Nat → Int32), (j ≤ nj) → (otF (bk μ) V (μ.1 21) s h (nj - j) j = otF (bk μ) V (μ.1 21) s h nj 0) → nj - j < fu_3 → PW l SC RX7 cX7_otherwise 5 (some .int) 6 (QI fun x m => x = otF (bk μ) V (μ.1 21) s h nj 0 ∧ ∃ nm2 sk2, m = sc (wr μ w V) nm2 sk2) 3 [(0, .ref 0), (1, .ref w), (2, .int (nI s)), (3, .int (nI h)), (4, .int (nI j))] [] (sc (wr μ w V) nm sk) := by
    intro fu_3
    induction fu_3 with
    | zero =>
      intro j nm sk hj hx hm_3
      exact absurd hm_3 (Nat.not_lt_zero _)
    | succ fu_3 ih_3 =>
      intro j nm sk hj hx hm_3
      refine pw_iload dX7_otherwise_3 rfl ?_
      refine pw_aload_n dX7_otherwise_5 rfl rfl ?_
      refine pw_getI dX7_otherwise_6 fa_X7_99 (gkW hw rfl) ?_
      refine pw_top (y := nI nj) (by rw [rdw0 hw]; exact h1) ?_
      refine pw_icmp_ge (tgt := 41) dX7_otherwise_9 (by decide) (fun c_9 => ?_) (fun c_9 => ?_)
      · skip
        have hge := nI_geD (by omega) c_9
        refine pw_iconst (v := (-1)) dX7_otherwise_41 rfl ?_
        refine pw_iret dX7_otherwise_42 rfl ?_
        exact ⟨by rw [← hx, show nj - j = 0 by omega]; rfl, _, _, rfl⟩
      · skip
        have hlt := nI_ltD (by omega) c_9
        refine pw_aload_n dX7_otherwise_12 rfl rfl ?_
        refine pw_getR dX7_otherwise_13 fa_X7_61 rfl ?_
        refine pw_iload_n dX7_otherwise_16 rfl rfl ?_
        refine pw_iload dX7_otherwise_17 rfl ?_
        refine pw_cVi dX7_otherwise_19 mv_X7_282 ckSheets (T_X5_number (s := s) (sz := nj) hs (by rw [rd_sc (by decide) (by decide), rd_wrO (by omega)]; exact hz) (by omega)) rfl rfl (Nat.le_of_ble_eq_true rfl) (by decide) (fun x_19 m_19 h_19 => ?_)
        obtain ⟨rfl, rfl⟩ := h_19
        refine pw_top (y := μ.1 21 (40 * s + j)) (by rw [rd_sc (by decide) (by decide), rd_wrO (by omega)]; unfold numF; rw [in_t hlt (by omega), if_pos rfl, nI_clamp (by omega)]) ?_
        refine pw_aload_n dX7_otherwise_22 rfl rfl ?_
        refine pw_iload dX7_otherwise_23 rfl ?_
        refine pw_iload_n dX7_otherwise_25 rfl rfl ?_
        refine pw_cVi dX7_otherwise_26 mv_X7_181 (ckW hw) (T_X6_worth (j := j) (h := h) hw hc (by omega) hh) rfl rfl (Nat.le_of_ble_eq_true rfl) (by decide) (fun x_26 m_26 h_26 => ?_)
        obtain ⟨rfl, nm1, sk1, rfl⟩ := h_26
        refine pw_icmp_eq (tgt := 35) dX7_otherwise_29 (by decide) (fun c_29 => ?_) (fun c_29 => ?_)
        · skip
          refine pw_iinc (ls2 := [(4, _), (0, _), (1, _), (2, _), (3, _)]) (v := nI (j + 1)) dX7_otherwise_35 rfl (inc1 j) (by decide) rfl ?_
          refine pw_goto (tgt := 3) dX7_otherwise_38 (by decide) ?_
          refine pw_sub [1, 2, 3, 4, 0] rfl ?_
          exact ih_3 (j + 1) nm1 sk1 hlt (by rw [← hx, show nj - j = (nj - (j + 1)) + 1 by omega]; show _ = if _ then _ else _; rw [if_pos c_29]) (by omega)
        · skip
          refine pw_iload dX7_otherwise_32 rfl ?_
          refine pw_iret dX7_otherwise_34 rfl ?_
          exact ⟨by rw [← hx, show nj - j = (nj - (j + 1)) + 1 by omega]; show _ = if _ then _ else _; rw [if_neg c_29], _, _, rfl⟩
  refine pw_sub [1, 2, 3, 4, 0] rfl ?_
  exact L_3 (nj + 1) 0 nm sk (Nat.zero_le _) rfl (by omega)

theorem ot2 {l : Launch} {μ : PM} {V T : VW} {nm sk : Nat → Int32} {nj s h : Nat} (hc : okC μ T) (h1 : T 0 1 = nI nj) (hj5 : nj ≤ 5) (hh : h < 6) (hs : s < 4) (hz : μ.1 20 s = nI nj) : CT l SC yX7_otherwise cX7_otherwise 5 (some .int) 6 [.ref 0, .ref 32, .int (nI s), .int (nI h)] (sc (wr (wr μ 22 V) 32 T) nm sk) (QI fun x m => x = otF (bk μ) T (μ.1 21) s h nj 0 ∧ ∃ nm2 sk2, m = sc (wr (wr μ 22 V) 32 T) nm2 sk2) := by
  have q := T_X7_otherwise (l := l) (μ := wr μ 22 V) (nm := nm) (sk := sk) (s := s) w32 (okC_wr w22 hc) h1 hj5 hh hs (by rw [rd_wrO (by omega)]; exact hz)
  rw [bk_wr w22, show (wr μ 22 V).1 21 = μ.1 21 from rd_wrO (by omega)] at q
  exact q
theorem rjN {l : Launch} {μ : PM} {V T : VW} {nm sk : Nat → Int32} {s h : Int32} : CT l SC yX7_refusedJudging cX7_refusedJudging 4 (some .int) 4 [.ref 0, .int s, .int h] (sc (wr (wr μ 22 V) 32 T) nm sk) (QI fun x m => x = rjF (μ.1 19) (μ.1 20) V s h ∧ m = sc (wr (wr μ 22 V) 32 T) nm sk) := by
  have q := T_X7_refusedJudging (l := l) (μ := wr μ 32 T) (V := V) (nm := nm) (sk := sk) (s := s) (h := h)
  rw [wr_comm] at q
  exact q
theorem rjjN {l : Launch} {μ : PM} {V T : VW} {nm sk : Nat → Int32} {s h ja : Int32} : CT l SC yX7_refusedJudgingJoke cX7_refusedJudgingJoke 5 (some .int) 5 [.ref 0, .int s, .int h, .int ja] (sc (wr (wr μ 22 V) 32 T) nm sk) (QI fun x m => x = rjjF (μ.1 19) (μ.1 20) V s h ja ∧ m = sc (wr (wr μ 22 V) 32 T) nm sk) := by
  have q := T_X7_refusedJudgingJoke (l := l) (μ := wr μ 32 T) (V := V) (nm := nm) (sk := sk) (s := s) (h := h) (ja := ja)
  rw [wr_comm] at q
  exact q
theorem ajN {l : Launch} {μ : PM} {V T : VW} {nm sk : Nat → Int32} : CT l SC yX6_allJokes cX6_allJokes 1 (some .int) 1 [.ref 22] (sc (wr (wr μ 22 V) 32 T) nm sk) (QI fun x m => x = aljF V ∧ m = sc (wr (wr μ 22 V) 32 T) nm sk) := by
  have q := T_X6_allJokes (l := l) (μ := wr μ 32 T) (V := V) (nm := nm) (sk := sk) w22
  rw [wr_comm] at q
  exact q

set_option maxHeartbeats 4000000 in
set_option maxRecDepth 100000 in
theorem T_X7_thoughtFits {l : Launch} {μ : PM} {V T : VW} {nm sk : Nat → Int32} {nj s h : Nat} (hc : okC μ T) (h1 : T 0 1 = nI nj) (hj5 : nj ≤ 5) (hh : h < 6) (hs : s < 4) (hz : μ.1 20 s = nI nj) : CT l SC yX7_thoughtFits cX7_thoughtFits 3 (some .int) 7 [.ref 0, .int (nI s), .int (nI h)] (sc (wr (wr μ 22 V) 32 T) nm sk) (QI fun x m => x = fitF (bk μ) T (μ.1 21) s h nj ∧ ∃ nm2 sk2, m = sc (wr (wr μ 22 V) 32 T) nm2 sk2) := by
  refine CT.of rfl (Nat.le_of_ble_eq_true rfl) ?_
  show PW l SC RX7 cX7_thoughtFits 3 (some .int) 7 _ 0 [(0, .ref 0), (1, .int (nI s)), (2, .int (nI h))] [] (sc (wr (wr μ 22 V) 32 T) nm sk)
  refine pw_aload_n dX7_thoughtFits_0 rfl rfl ?_
  refine pw_aload_n dX7_thoughtFits_1 rfl rfl ?_
  refine pw_getR dX7_thoughtFits_2 fa_X7_32 rfl ?_
  refine pw_iload_n dX7_thoughtFits_5 rfl rfl ?_
  refine pw_iload_n dX7_thoughtFits_6 rfl rfl ?_
  refine pw_cVi dX7_thoughtFits_7 mv_X7_263 ckMain (ot2 hc h1 hj5 hh hs hz) rfl rfl (Nat.le_of_ble_eq_true rfl) (by decide) (fun x_7 m_7 h_7 => ?_)
  obtain ⟨rfl, nm1, sk1, rfl⟩ := h_7
  refine pw_iconst (v := (-1)) dX7_thoughtFits_10 rfl ?_
  refine pw_icmp_ne (tgt := 18) dX7_thoughtFits_11 (by decide) (fun c_11 => ?_) (fun c_11 => ?_)
  · skip
    refine pw_iconst (v := 0) dX7_thoughtFits_18 rfl ?_
    refine pw_iret dX7_thoughtFits_19 rfl ?_
    exact ⟨by unfold fitF; rw [if_neg c_11], _, _, rfl⟩
  · skip
    refine pw_iconst (v := 1) dX7_thoughtFits_14 rfl ?_
    refine pw_goto (tgt := 19) dX7_thoughtFits_15 (by decide) ?_
    refine pw_iret dX7_thoughtFits_19 rfl ?_
    exact ⟨by unfold fitF; rw [if_pos c_11], _, _, rfl⟩

set_option maxHeartbeats 4000000 in
set_option maxRecDepth 100000 in
theorem T_X7_judge {l : Launch} {μ : PM} {V : VW} {nm sk : Nat → Int32} {nj nh : Nat} {s h : Int32} (hc : okC μ V) (h1 : V 0 1 = nI nj) (hj5 : nj ≤ 5) (h5 : V 0 5 = nI nh) (hh6 : nh ≤ 6) : CT l SC yX7_judge cX7_judge 4 (some .int) 7 [.ref 0, .int s, .int h] (sc (wr μ 22 V) nm sk) (QI fun x m => x = judgeF (bk μ) V (μ.1 19) (μ.1 20) (μ.1 21) nj s h ∧ ∃ nm2 sk2, m = sc (wr μ 22 (V)) nm2 sk2) := by
  refine CT.of rfl (Nat.le_of_ble_eq_true rfl) ?_
  show PW l SC RX7 cX7_judge 4 (some .int) 7 _ 0 [(0, .ref 0), (1, .int s), (2, .int h)] [] (sc (wr μ 22 V) nm sk)
  have hw : isW 22 := Or.inl rfl
  refine pw_aload_n dX7_judge_0 rfl rfl ?_
  refine pw_iload_n dX7_judge_1 rfl rfl ?_
  refine pw_iload_n dX7_judge_2 rfl rfl ?_
  refine pw_cVi dX7_judge_3 mv_X7_260 ckMain T_X7_refusedJudging rfl rfl (Nat.le_of_ble_eq_true rfl) (by decide) (fun x_3 m_3 h_3 => ?_)
  obtain ⟨rfl, rfl⟩ := h_3
  refine pw_istore_n (ls2 := [(3, _), (0, _), (1, _), (2, _)]) dX7_judge_6 rfl (by decide) rfl ?_
  refine pw_iload_n dX7_judge_7 rfl rfl ?_
  refine pw_if_eq (tgt := 15) dX7_judge_8 (by decide) (fun c_8 => ?_) (fun c_8 => ?_)
  · skip
    have hr0 : rjF (μ.1 19) (μ.1 20) V s h = 0 := c_8
    obtain ⟨hr1, hhr⟩ := rj_0 hr0
    obtain ⟨s, hs4, rfl, hso, hsz⟩ := rs_0 hr1
    rw [h1] at hsz
    obtain ⟨h, hlh, hsh, rfl⟩ := hr_of h5 hh6 hhr
    refine pw_aload_n dX7_judge_15 rfl rfl ?_
    refine pw_aload_n dX7_judge_16 rfl rfl ?_
    refine pw_getR dX7_judge_17 fa_X7_28 rfl ?_
    refine pw_iload_n dX7_judge_20 rfl rfl ?_
    refine pw_iload_n dX7_judge_21 rfl rfl ?_
    refine pw_cVi dX7_judge_22 mv_X7_263 ckMain (T_X7_otherwise hw hc h1 hj5 hsh hs4 hsz) rfl rfl (Nat.le_of_ble_eq_true rfl) (by decide) (fun x_22 m_22 h_22 => ?_)
    obtain ⟨rfl, nm1, sk1, rfl⟩ := h_22
    refine pw_iret dX7_judge_25 rfl ?_
    exact ⟨by unfold judgeF; rw [if_pos hr0, cl_nI (show s < 2 ^ 31 by omega), cl_nI (show h < 2 ^ 31 by omega)], _, _, rfl⟩
  · skip
    refine pw_iload_n dX7_judge_11 rfl rfl ?_
    refine pw_goto (tgt := 25) dX7_judge_12 (by decide) ?_
    refine pw_iret dX7_judge_25 rfl ?_
    exact ⟨by unfold judgeF; rw [if_neg c_8], _, _, rfl⟩

set_option maxHeartbeats 4000000 in
set_option maxRecDepth 100000 in
theorem T_X7_whose {l : Launch} {μ : PM} {V : VW} {nm sk : Nat → Int32} {nj nh : Nat} {s : Int32} (hc : okC μ V) (h1 : V 0 1 = nI nj) (hj5 : nj ≤ 5) (h5 : V 0 5 = nI nh) (hh6 : nh ≤ 6) : CT l SC yX7_whose cX7_whose 5 (some .int) 7 [.ref 0, .int s] (sc (wr μ 22 V) nm sk) (QI fun x m => x = whoseF (bk μ) V (μ.1 19) (μ.1 20) (μ.1 21) nj nh s ∧ ∃ nm2 sk2, m = sc (wr μ 22 (V)) nm2 sk2) := by
  refine CT.of rfl (Nat.le_of_ble_eq_true rfl) ?_
  show PW l SC RX7 cX7_whose 5 (some .int) 7 _ 0 [(0, .ref 0), (1, .int s)] [] (sc (wr μ 22 V) nm sk)
  have hw : isW 22 := Or.inl rfl
  refine pw_aload_n dX7_whose_0 rfl rfl ?_
  refine pw_iload_n dX7_whose_1 rfl rfl ?_
  refine pw_cVi dX7_whose_2 mv_X7_279 ckMain T_X7_refusedSheet rfl rfl (Nat.le_of_ble_eq_true rfl) (by decide) (fun x_2 m_2 h_2 => ?_)
  obtain ⟨rfl, rfl⟩ := h_2
  refine pw_istore_n (ls2 := [(2, _), (0, _), (1, _)]) dX7_whose_5 rfl (by decide) rfl ?_
  refine pw_iload_n dX7_whose_6 rfl rfl ?_
  refine pw_if_eq (tgt := 12) dX7_whose_7 (by decide) (fun c_7 => ?_) (fun c_7 => ?_)
  · skip
    have hr0 : rsF (μ.1 19) (μ.1 20) V s = 0 := c_7
    obtain ⟨s, hs4, rfl, hso, hsz⟩ := rs_0 hr0
    rw [h1] at hsz
    refine pw_iconst (v := 0) dX7_whose_12 rfl ?_
    refine pw_istore_n (ls2 := [(3, _), (2, _), (0, _), (1, _)]) dX7_whose_13 rfl (by decide) rfl ?_
    refine pw_iconst (v := 0) dX7_whose_14 rfl ?_
    refine pw_istore (ls2 := [(4, _), (3, _), (2, _), (0, _), (1, _)]) dX7_whose_15 (by decide) rfl ?_
    have L_17 : ∀ (fu_17 : Nat) (i : Nat) (x : Int32) (nm sk : Nat → Int32), (i ≤ nh) → (whL (bk μ) V (μ.1 21) s nj (nh - i) i x = whL (bk μ) V (μ.1 21) s nj nh 0 0) → nh - i < fu_17 → PW l SC RX7 cX7_whose 5 (some .int) 7 (QI fun x m => x = whoseF (bk μ) V (μ.1 19) (μ.1 20) (μ.1 21) nj nh (nI s) ∧ ∃ nm2 sk2, m = sc (wr μ 22 (V)) nm2 sk2) 17 [(0, .ref 0), (1, .int (nI s)), (3, .int x), (4, .int (nI i))] [] (sc (wr μ 22 V) nm sk) := by
      intro fu_17
      induction fu_17 with
      | zero =>
        intro i x nm sk hi hx hm_17
        exact absurd hm_17 (Nat.not_lt_zero _)
      | succ fu_17 ih_17 =>
        intro i x nm sk hi hx hm_17
        refine pw_iload dX7_whose_17 rfl ?_
        refine pw_aload_n dX7_whose_19 rfl rfl ?_
        refine pw_getR dX7_whose_20 fa_X7_28 rfl ?_
        refine pw_getI dX7_whose_23 fa_X7_103 rfl ?_
        refine pw_top (y := nI nh) (by rw [rdw0 hw]; exact h5) ?_
        refine pw_icmp_ge (tgt := 57) dX7_whose_26 (by decide) (fun c_26 => ?_) (fun c_26 => ?_)
        · skip
          have hge := nI_geD (by omega) c_26
          refine pw_iload_n dX7_whose_57 rfl rfl ?_
          refine pw_iret dX7_whose_58 rfl ?_
          have e0 : nh - i = 0 := by omega
          rw [e0] at hx
          change x = _ at hx
          exact ⟨by unfold whoseF; rw [if_pos hr0, cl_nI (show s < 2 ^ 31 by omega), hx], _, _, rfl⟩
        · skip
          have hlt := nI_ltD (by omega) c_26
          refine pw_aload_n dX7_whose_29 rfl rfl ?_
          refine pw_aload_n dX7_whose_30 rfl rfl ?_
          refine pw_getR dX7_whose_31 fa_X7_28 rfl ?_
          refine pw_iload_n dX7_whose_34 rfl rfl ?_
          refine pw_iload dX7_whose_35 rfl ?_
          refine pw_cVi dX7_whose_37 mv_X7_263 ckMain (T_X7_otherwise (h := i) hw hc h1 hj5 (by omega) hs4 hsz) rfl rfl (Nat.le_of_ble_eq_true rfl) (by decide) (fun x_37 m_37 h_37 => ?_)
          obtain ⟨rfl, nm1, sk1, rfl⟩ := h_37
          refine pw_iconst (v := (-1)) dX7_whose_40 rfl ?_
          refine pw_icmp_ne (tgt := 51) dX7_whose_41 (by decide) (fun c_41 => ?_) (fun c_41 => ?_)
          · skip
            refine pw_iinc (ls2 := [(4, _), (0, _), (1, _), (3, _)]) (v := nI (i + 1)) dX7_whose_51 rfl (inc1 i) (by decide) rfl ?_
            refine pw_goto (tgt := 17) dX7_whose_54 (by decide) ?_
            refine pw_sub [1, 2, 3, 0] rfl ?_
            exact ih_17 (i + 1) _ nm1 sk1 hlt (by rw [← hx, show nh - i = (nh - (i + 1)) + 1 by omega]; show _ = whL (bk μ) V (μ.1 21) s nj _ (i + 1) (if _ then _ else _); rw [if_neg c_41]) (by omega)
          · skip
            refine pw_iload_n dX7_whose_44 rfl rfl ?_
            refine pw_iconst (v := 1) dX7_whose_45 rfl ?_
            refine pw_iload dX7_whose_46 rfl ?_
            refine pw_ishl dX7_whose_48 ?_
            refine pw_ior dX7_whose_49 ?_
            refine pw_istore_n (ls2 := [(3, _), (0, _), (1, _), (4, _)]) dX7_whose_50 rfl (by decide) rfl ?_
            refine pw_iinc (ls2 := [(4, _), (3, _), (0, _), (1, _)]) (v := nI (i + 1)) dX7_whose_51 rfl (inc1 i) (by decide) rfl ?_
            refine pw_goto (tgt := 17) dX7_whose_54 (by decide) ?_
            refine pw_sub [2, 3, 1, 0] rfl ?_
            exact ih_17 (i + 1) _ nm1 sk1 hlt (by rw [← hx, show nh - i = (nh - (i + 1)) + 1 by omega]; show _ = whL (bk μ) V (μ.1 21) s nj _ (i + 1) (if _ then _ else _); rw [if_pos c_41]; rfl) (by omega)
    refine pw_sub [3, 4, 1, 0] rfl ?_
    exact L_17 (nh + 1) 0 0 nm sk (Nat.zero_le _) rfl (by omega)
  · skip
    refine pw_iload_n dX7_whose_10 rfl rfl ?_
    refine pw_iret dX7_whose_11 rfl ?_
    exact ⟨by unfold whoseF; rw [if_neg c_7], _, _, rfl⟩

set_option maxHeartbeats 4000000 in
set_option maxRecDepth 100000 in
theorem T_X7_humours {l : Launch} {μ : PM} {V T : VW} {nm sk : Nat → Int32} {nj nh : Nat} {s h : Int32} (hc : okC μ V) (h1 : V 0 1 = nI nj) (hj5 : nj ≤ 5) (h5 : V 0 5 = nI nh) (hh6 : nh ≤ 6) : CT l SC yX7_humours cX7_humours 6 (some .int) 8 [.ref 0, .int s, .int h] (sc (wr (wr μ 22 V) 32 T) nm sk) (QI fun x m => x = humF (bk μ) V (μ.1 19) (μ.1 20) (μ.1 21) nj s h ∧ ∃ T2 nm2 sk2, m = sc (wr (wr μ 22 V) 32 T2) nm2 sk2) := by
  refine CT.of rfl (Nat.le_of_ble_eq_true rfl) ?_
  show PW l SC RX7 cX7_humours 6 (some .int) 8 _ 0 [(0, .ref 0), (1, .int s), (2, .int h)] [] (sc (wr (wr μ 22 V) 32 T) nm sk)
  refine pw_aload_n dX7_humours_0 rfl rfl ?_
  refine pw_iload_n dX7_humours_1 rfl rfl ?_
  refine pw_iload_n dX7_humours_2 rfl rfl ?_
  refine pw_cVi dX7_humours_3 mv_X7_260 ckMain rjN rfl rfl (Nat.le_of_ble_eq_true rfl) (by decide) (fun x_3 m_3 h_3 => ?_)
  obtain ⟨rfl, rfl⟩ := h_3
  refine pw_istore_n (ls2 := [(3, _), (0, _), (1, _), (2, _)]) dX7_humours_6 rfl (by decide) rfl ?_
  refine pw_iload_n dX7_humours_7 rfl rfl ?_
  refine pw_if_eq (tgt := 13) dX7_humours_8 (by decide) (fun c_8 => ?_) (fun c_8 => ?_)
  · skip
    have hr0 : rjF (μ.1 19) (μ.1 20) V s h = 0 := c_8
    obtain ⟨hr1, hhr⟩ := rj_0 hr0
    obtain ⟨s, hs4, rfl, hso, hsz⟩ := rs_0 hr1
    rw [h1] at hsz
    obtain ⟨h, hlh, hsh, rfl⟩ := hr_of h5 hh6 hhr
    refine pw_aload_n dX7_humours_13 rfl rfl ?_
    refine pw_getR dX7_humours_14 fa_X7_32 rfl ?_
    refine pw_aload_n dX7_humours_17 rfl rfl ?_
    refine pw_getR dX7_humours_18 fa_X7_28 rfl ?_
    refine pw_cVv dX7_humours_21 mv_X7_197 ckThought (T_X6_copyFrom i32_22) rfl rfl (Nat.le_of_ble_eq_true rfl) (by decide) (fun m_21 h_21 => ?_)
    obtain rfl := h_21
    refine pw_iconst (v := 0) dX7_humours_24 rfl ?_
    refine pw_istore (ls2 := [(4, _), (3, _), (0, _), (1, _), (2, _)]) dX7_humours_25 (by decide) rfl ?_
    refine pw_iconst (v := 0) dX7_humours_27 rfl ?_
    refine pw_istore (ls2 := [(5, _), (4, _), (3, _), (0, _), (1, _), (2, _)]) dX7_humours_28 (by decide) rfl ?_
    have L_30 : ∀ (fu_30 : Nat) (f : Nat) (x : Int32) (U : VW) (nm sk : Nat → Int32), (f ≤ 10) → (U 0 13 = V 0 13) → (U 0 1 = nI nj) → (∀ v, EqV 5 6 (vu U 4 h v) (vu V 4 h v)) → (biL (bk μ) V (μ.1 21) s h nj 4 h (10 - f) f x = biL (bk μ) V (μ.1 21) s h nj 4 h 10 0 0) → 10 - f < fu_30 → PW l SC RX7 cX7_humours 6 (some .int) 8 (QI fun x m => x = humF (bk μ) V (μ.1 19) (μ.1 20) (μ.1 21) nj (nI s) (nI h) ∧ ∃ T2 nm2 sk2, m = sc (wr (wr μ 22 V) 32 T2) nm2 sk2) 30 [(0, .ref 0), (1, .int (nI s)), (2, .int (nI h)), (4, .int x), (5, .int (nI f))] [] (sc (wr (wr μ 22 V) 32 U) nm sk) := by
      intro fu_30
      induction fu_30 with
      | zero =>
        intro f x U nm sk hi hE0 hE1 hE hx hm_30
        exact absurd hm_30 (Nat.not_lt_zero _)
      | succ fu_30 ih_30 =>
        intro f x U nm sk hi hE0 hE1 hE hx hm_30
        refine pw_iload dX7_humours_30 rfl ?_
        refine pw_bipush (v := 9) dX7_humours_32 rfl ?_
        refine pw_icmp_gt (tgt := 68) dX7_humours_34 (by decide) (fun c_34 => ?_) (fun c_34 => ?_)
        · skip
          have hge := (nI_ltI (a := 9) (b := f) (by decide) (by omega)).mp c_34
          refine pw_iload dX7_humours_68 rfl ?_
          refine pw_iret dX7_humours_70 rfl ?_
          have e0 : 10 - f = 0 := by omega
          rw [e0] at hx
          change x = _ at hx
          exact ⟨by unfold humF; rw [if_pos hr0, cl_nI (show s < 2 ^ 31 by omega), cl_nI (show h < 2 ^ 31 by omega), hx], _, _, _, rfl⟩
        · skip
          have hlt : f < 10 := by
            rcases Nat.lt_or_ge f 10 with q | q
            · exact q
            · exact absurd (nI_lt (show 9 < f by omega) (by omega)) c_34
          refine pw_aload_n dX7_humours_37 rfl rfl ?_
          refine pw_getR dX7_humours_38 fa_X7_32 rfl ?_
          refine pw_getR dX7_humours_41 fa_X7_267 rfl ?_
          refine pw_iload_n dX7_humours_44 rfl rfl ?_
          refine pw_iload dX7_humours_45 rfl ?_
          refine pw_iast (j := h) dX7_humours_47 rfl rfl hsh ?_
          refine pw_mem (siw (w := 32) (r := 4) w32 (by decide)) ?_
          refine pw_iload dX7_humours_48 rfl ?_
          refine pw_aload_n dX7_humours_50 rfl rfl ?_
          refine pw_iload_n dX7_humours_51 rfl rfl ?_
          refine pw_iload_n dX7_humours_52 rfl rfl ?_
          refine pw_cVi dX7_humours_53 mv_X7_270 ckMain (T_X7_thoughtFits (T := vu U 4 h (nI f)) (okC_V hc hE0) hE1 hj5 hsh hs4 hsz) rfl rfl (Nat.le_of_ble_eq_true rfl) (by decide) (fun x_53 m_53 h_53 => ?_)
          obtain ⟨rfl, nm1, sk1, rfl⟩ := h_53
          refine pw_iload dX7_humours_56 rfl ?_
          refine pw_ishl dX7_humours_58 ?_
          refine pw_ior dX7_humours_59 ?_
          refine pw_istore (ls2 := [(4, _), (0, _), (1, _), (2, _), (5, _)]) dX7_humours_60 (by decide) rfl ?_
          refine pw_iinc (ls2 := [(5, _), (4, _), (0, _), (1, _), (2, _)]) (v := nI (f + 1)) dX7_humours_62 rfl (inc1 f) (by decide) rfl ?_
          refine pw_goto (tgt := 30) dX7_humours_65 (by decide) ?_
          refine pw_sub [2, 3, 4, 1, 0] rfl ?_
          exact ih_30 (f + 1) _ _ nm1 sk1 hlt hE0 hE1 (fun v => by rw [vu_vu]; exact hE v) (by rw [← hx, show 10 - f = (10 - (f + 1)) + 1 by omega]; show _ = biL (bk μ) V (μ.1 21) s h nj 4 h _ (f + 1) (x ||| (fitF (bk μ) (vu V 4 h (nI f)) (μ.1 21) s h nj <<< (nI f &&& 31))); rw [← fitF_c (EqV_mono hj5 (Nat.le_refl 6) (hE (nI f))) hsh]) (by omega)
    refine pw_sub [3, 4, 5, 1, 0] rfl ?_
    exact L_30 (10 + 1) 0 0 _ nm sk (Nat.zero_le _) rfl h1 (fun v => vu_c cp_E) rfl (by omega)
  · skip
    refine pw_iload_n dX7_humours_11 rfl rfl ?_
    refine pw_iret dX7_humours_12 rfl ?_
    exact ⟨by unfold humF; rw [if_neg c_8], _, _, _, rfl⟩

set_option maxHeartbeats 4000000 in
set_option maxRecDepth 100000 in
theorem T_X7_laws {l : Launch} {μ : PM} {V T : VW} {nm sk : Nat → Int32} {nj nh n : Nat} {s h : Int32} (hc : okC μ V) (h1 : V 0 1 = nI nj) (hj5 : nj ≤ 5) (h5 : V 0 5 = nI nh) (hh6 : nh ≤ 6) (hn : μ.1 1 0 = nI n) (hn6 : n ≤ 6) : CT l SC yX7_laws cX7_laws 6 (some .int) 8 [.ref 0, .int s, .int h] (sc (wr (wr μ 22 V) 32 T) nm sk) (QI fun x m => x = lawsF (bk μ) V (μ.1 19) (μ.1 20) (μ.1 21) nj n s h ∧ ∃ T2 nm2 sk2, m = sc (wr (wr μ 22 V) 32 T2) nm2 sk2) := by
  refine CT.of rfl (Nat.le_of_ble_eq_true rfl) ?_
  show PW l SC RX7 cX7_laws 6 (some .int) 8 _ 0 [(0, .ref 0), (1, .int s), (2, .int h)] [] (sc (wr (wr μ 22 V) 32 T) nm sk)
  refine pw_aload_n dX7_laws_0 rfl rfl ?_
  refine pw_iload_n dX7_laws_1 rfl rfl ?_
  refine pw_iload_n dX7_laws_2 rfl rfl ?_
  refine pw_cVi dX7_laws_3 mv_X7_260 ckMain rjN rfl rfl (Nat.le_of_ble_eq_true rfl) (by decide) (fun x_3 m_3 h_3 => ?_)
  obtain ⟨rfl, rfl⟩ := h_3
  refine pw_istore_n (ls2 := [(3, _), (0, _), (1, _), (2, _)]) dX7_laws_6 rfl (by decide) rfl ?_
  refine pw_iload_n dX7_laws_7 rfl rfl ?_
  refine pw_if_eq (tgt := 13) dX7_laws_8 (by decide) (fun c_8 => ?_) (fun c_8 => ?_)
  · skip
    have hr0 : rjF (μ.1 19) (μ.1 20) V s h = 0 := c_8
    obtain ⟨hr1, hhr⟩ := rj_0 hr0
    obtain ⟨s, hs4, rfl, hso, hsz⟩ := rs_0 hr1
    rw [h1] at hsz
    obtain ⟨h, hlh, hsh, rfl⟩ := hr_of h5 hh6 hhr
    refine pw_aload_n dX7_laws_13 rfl rfl ?_
    refine pw_getR dX7_laws_14 fa_X7_32 rfl ?_
    refine pw_aload_n dX7_laws_17 rfl rfl ?_
    refine pw_getR dX7_laws_18 fa_X7_28 rfl ?_
    refine pw_cVv dX7_laws_21 mv_X7_197 ckThought (T_X6_copyFrom i32_22) rfl rfl (Nat.le_of_ble_eq_true rfl) (by decide) (fun m_21 h_21 => ?_)
    obtain rfl := h_21
    refine pw_iconst (v := 0) dX7_laws_24 rfl ?_
    refine pw_istore (ls2 := [(4, _), (3, _), (0, _), (1, _), (2, _)]) dX7_laws_25 (by decide) rfl ?_
    refine pw_iconst (v := 0) dX7_laws_27 rfl ?_
    refine pw_istore (ls2 := [(5, _), (4, _), (3, _), (0, _), (1, _), (2, _)]) dX7_laws_28 (by decide) rfl ?_
    have L_30 : ∀ (fu_30 : Nat) (f : Nat) (x : Int32) (U : VW) (nm sk : Nat → Int32), (f ≤ n) → (True) → (U 0 1 = nI nj) → (∀ v, EqV 5 6 (vu U 0 13 v) (vu V 0 13 v)) → (biL (bk μ) V (μ.1 21) s h nj 0 13 (n - f) f x = biL (bk μ) V (μ.1 21) s h nj 0 13 n 0 0) → n - f < fu_30 → PW l SC RX7 cX7_laws 6 (some .int) 8 (QI fun x m => x = lawsF (bk μ) V (μ.1 19) (μ.1 20) (μ.1 21) nj n (nI s) (nI h) ∧ ∃ T2 nm2 sk2, m = sc (wr (wr μ 22 V) 32 T2) nm2 sk2) 30 [(0, .ref 0), (1, .int (nI s)), (2, .int (nI h)), (4, .int x), (5, .int (nI f))] [] (sc (wr (wr μ 22 V) 32 U) nm sk) := by
      intro fu_30
      induction fu_30 with
      | zero =>
        intro f x U nm sk hi hE0 hE1 hE hx hm_30
        exact absurd hm_30 (Nat.not_lt_zero _)
      | succ fu_30 ih_30 =>
        intro f x U nm sk hi hE0 hE1 hE hx hm_30
        refine pw_iload dX7_laws_30 rfl ?_
        refine pw_aload_n dX7_laws_32 rfl rfl ?_
        refine pw_getR dX7_laws_33 fa_X7_10 rfl ?_
        refine pw_getI dX7_laws_36 fa_X7_109 rfl ?_
        refine pw_top (y := nI n) hn ?_
        refine pw_icmp_ge (tgt := 71) dX7_laws_39 (by decide) (fun c_39 => ?_) (fun c_39 => ?_)
        · skip
          have hge := nI_geD (by omega) c_39
          refine pw_iload dX7_laws_71 rfl ?_
          refine pw_iret dX7_laws_73 rfl ?_
          have e0 : n - f = 0 := by omega
          rw [e0] at hx
          change x = _ at hx
          exact ⟨by unfold lawsF; rw [if_pos hr0, cl_nI (show s < 2 ^ 31 by omega), cl_nI (show h < 2 ^ 31 by omega), hx], _, _, _, rfl⟩
        · skip
          have hlt := nI_ltD (by omega) c_39
          refine pw_aload_n dX7_laws_42 rfl rfl ?_
          refine pw_getR dX7_laws_43 fa_X7_32 rfl ?_
          refine pw_iload dX7_laws_46 rfl ?_
          refine pw_putI dX7_laws_48 fa_X7_112 rfl ?_
          refine pw_mem (siw0 w32) ?_
          refine pw_iload dX7_laws_51 rfl ?_
          refine pw_aload_n dX7_laws_53 rfl rfl ?_
          refine pw_iload_n dX7_laws_54 rfl rfl ?_
          refine pw_iload_n dX7_laws_55 rfl rfl ?_
          refine pw_cVi dX7_laws_56 mv_X7_270 ckMain (T_X7_thoughtFits (T := vu U 0 13 (nI f)) (okC_t hc hn (by omega) hlt) hE1 hj5 hsh hs4 hsz) rfl rfl (Nat.le_of_ble_eq_true rfl) (by decide) (fun x_56 m_56 h_56 => ?_)
          obtain ⟨rfl, nm1, sk1, rfl⟩ := h_56
          refine pw_iload dX7_laws_59 rfl ?_
          refine pw_ishl dX7_laws_61 ?_
          refine pw_ior dX7_laws_62 ?_
          refine pw_istore (ls2 := [(4, _), (0, _), (1, _), (2, _), (5, _)]) dX7_laws_63 (by decide) rfl ?_
          refine pw_iinc (ls2 := [(5, _), (4, _), (0, _), (1, _), (2, _)]) (v := nI (f + 1)) dX7_laws_65 rfl (inc1 f) (by decide) rfl ?_
          refine pw_goto (tgt := 30) dX7_laws_68 (by decide) ?_
          refine pw_sub [2, 3, 4, 1, 0] rfl ?_
          exact ih_30 (f + 1) _ _ nm1 sk1 hlt trivial hE1 (fun v => by rw [vu_vu]; exact hE v) (by rw [← hx, show n - f = (n - (f + 1)) + 1 by omega]; show _ = biL (bk μ) V (μ.1 21) s h nj 0 13 _ (f + 1) (x ||| (fitF (bk μ) (vu V 0 13 (nI f)) (μ.1 21) s h nj <<< (nI f &&& 31))); rw [← fitF_c (EqV_mono hj5 (Nat.le_refl 6) (hE (nI f))) hsh]) (by omega)
    refine pw_sub [3, 4, 5, 1, 0] rfl ?_
    exact L_30 (n + 1) 0 0 _ nm sk (Nat.zero_le _) trivial h1 (fun v => vu_c cp_E) rfl (by omega)
  · skip
    refine pw_iload_n dX7_laws_11 rfl rfl ?_
    refine pw_iret dX7_laws_12 rfl ?_
    exact ⟨by unfold lawsF; rw [if_neg c_8], _, _, _, rfl⟩

set_option maxHeartbeats 4000000 in
set_option maxRecDepth 100000 in
theorem T_X7_kinds {l : Launch} {μ : PM} {V T : VW} {nm sk : Nat → Int32} {nj nh : Nat} {s h ja : Int32} (hc : okC μ V) (h1 : V 0 1 = nI nj) (hj5 : nj ≤ 5) (h5 : V 0 5 = nI nh) (hh6 : nh ≤ 6) : CT l SC yX7_kinds cX7_kinds 8 (some .int) 8 [.ref 0, .int s, .int h, .int ja] (sc (wr (wr μ 22 V) 32 T) nm sk) (QI fun x m => x = kindsF (bk μ) V (μ.1 19) (μ.1 20) (μ.1 21) nj s h ja ∧ ∃ T2 nm2 sk2, m = sc (wr (wr μ 22 V) 32 T2) nm2 sk2) := by
  refine CT.of rfl (Nat.le_of_ble_eq_true rfl) ?_
  show PW l SC RX7 cX7_kinds 8 (some .int) 8 _ 0 [(0, .ref 0), (1, .int s), (2, .int h), (3, .int ja)] [] (sc (wr (wr μ 22 V) 32 T) nm sk)
  refine pw_aload_n dX7_kinds_0 rfl rfl ?_
  refine pw_iload_n dX7_kinds_1 rfl rfl ?_
  refine pw_iload_n dX7_kinds_2 rfl rfl ?_
  refine pw_iload_n dX7_kinds_3 rfl rfl ?_
  refine pw_cVi dX7_kinds_4 mv_X7_276 ckMain rjjN rfl rfl (Nat.le_of_ble_eq_true rfl) (by decide) (fun x_4 m_4 h_4 => ?_)
  obtain ⟨rfl, rfl⟩ := h_4
  refine pw_istore (ls2 := [(4, _), (0, _), (1, _), (2, _), (3, _)]) dX7_kinds_7 (by decide) rfl ?_
  refine pw_iload dX7_kinds_9 rfl ?_
  refine pw_if_eq (tgt := 17) dX7_kinds_11 (by decide) (fun c_11 => ?_) (fun c_11 => ?_)
  · skip
    have hr0 : rjjF (μ.1 19) (μ.1 20) V s h ja = 0 := c_11
    obtain ⟨hr2, q, hq31, rfl, hjq, hq1⟩ := rjj_0 hr0
    obtain ⟨hr1, hhr⟩ := rj_0 hr2
    obtain ⟨s, hs4, rfl, hso, hsz⟩ := rs_0 hr1
    rw [h1] at hsz
    obtain ⟨h, hlh, hsh, rfl⟩ := hr_of h5 hh6 hhr
    obtain ⟨j, hlj, hsj, ej⟩ := jk_of h1 hj5 hjq
    have ej2 : q / 10 = j := (nI_eq (by omega) (by omega)).mp ej
    refine pw_iload_n dX7_kinds_17 rfl rfl ?_
    refine pw_bipush (v := 10) dX7_kinds_18 rfl ?_
    refine pw_idiv dX7_kinds_20 (by decide) ?_
    refine pw_top (y := nI j) ((pk_div hq31 (by decide) (by decide)).trans (by rw [ej2])) ?_
    refine pw_istore (ls2 := [(5, _), (4, _), (0, _), (1, _), (2, _), (3, _)]) dX7_kinds_21 (by decide) rfl ?_
    refine pw_aload_n dX7_kinds_23 rfl rfl ?_
    refine pw_getR dX7_kinds_24 fa_X7_32 rfl ?_
    refine pw_aload_n dX7_kinds_27 rfl rfl ?_
    refine pw_getR dX7_kinds_28 fa_X7_28 rfl ?_
    refine pw_cVv dX7_kinds_31 mv_X7_197 ckThought (T_X6_copyFrom i32_22) rfl rfl (Nat.le_of_ble_eq_true rfl) (by decide) (fun m_31 h_31 => ?_)
    obtain rfl := h_31
    refine pw_iconst (v := 0) dX7_kinds_34 rfl ?_
    refine pw_istore (ls2 := [(6, _), (5, _), (4, _), (0, _), (1, _), (2, _), (3, _)]) dX7_kinds_35 (by decide) rfl ?_
    refine pw_iload_n dX7_kinds_37 rfl rfl ?_
    refine pw_bipush (v := 10) dX7_kinds_38 rfl ?_
    refine pw_irem dX7_kinds_40 (by decide) ?_
    refine pw_top (y := nI (q % 10)) (pk_rem hq31 (by decide) (by decide)) ?_
    refine pw_if_ne (tgt := 89) dX7_kinds_41 (by decide) (fun c_41 => ?_) (fun c_41 => ?_)
    · skip
      have hm1 : ¬ q % 10 = 0 := fun e => c_41 (by rw [e]; rfl)
      refine pw_iconst (v := 0) dX7_kinds_89 rfl ?_
      refine pw_istore (ls2 := [(7, _), (6, _), (5, _), (4, _), (0, _), (1, _), (2, _), (3, _)]) dX7_kinds_90 (by decide) rfl ?_
      have L_92 : ∀ (fu_92 : Nat) (f : Nat) (x : Int32) (U : VW) (nm sk : Nat → Int32), (f ≤ 10) → (U 0 13 = V 0 13) → (U 0 1 = nI nj) → (∀ v, EqV 5 6 (vu U 2 j v) (vu V 2 j v)) → (biL (bk μ) V (μ.1 21) s h nj 2 j (10 - f) f x = biL (bk μ) V (μ.1 21) s h nj 2 j 10 0 0) → 10 - f < fu_92 → PW l SC RX7 cX7_kinds 8 (some .int) 8 (QI fun x m => x = kindsF (bk μ) V (μ.1 19) (μ.1 20) (μ.1 21) nj (nI s) (nI h) (nI q) ∧ ∃ T2 nm2 sk2, m = sc (wr (wr μ 22 V) 32 T2) nm2 sk2) 92 [(0, .ref 0), (1, .int (nI s)), (2, .int (nI h)), (5, .int (nI j)), (6, .int x), (7, .int (nI f))] [] (sc (wr (wr μ 22 V) 32 U) nm sk) := by
        intro fu_92
        induction fu_92 with
        | zero =>
          intro f x U nm sk hi hE0 hE1 hE hx hm_92
          exact absurd hm_92 (Nat.not_lt_zero _)
        | succ fu_92 ih_92 =>
          intro f x U nm sk hi hE0 hE1 hE hx hm_92
          refine pw_iload dX7_kinds_92 rfl ?_
          refine pw_bipush (v := 9) dX7_kinds_94 rfl ?_
          refine pw_icmp_gt (tgt := 131) dX7_kinds_96 (by decide) (fun c_96 => ?_) (fun c_96 => ?_)
          · skip
            have hge := (nI_ltI (a := 9) (b := f) (by decide) (by omega)).mp c_96
            refine pw_iload dX7_kinds_131 rfl ?_
            refine pw_iret dX7_kinds_133 rfl ?_
            have e0 : 10 - f = 0 := by omega
            rw [e0] at hx
            change x = _ at hx
            exact ⟨by unfold kindsF; rw [if_pos hr0, cl_nI hq31, cl_nI (show s < 2 ^ 31 by omega), cl_nI (show h < 2 ^ 31 by omega), ej2, if_neg hm1, hx], _, _, _, rfl⟩
          · skip
            have hlt : f < 10 := by
              rcases Nat.lt_or_ge f 10 with q2 | q2
              · exact q2
              · exact absurd (nI_lt (show 9 < f by omega) (by omega)) c_96
            refine pw_aload_n dX7_kinds_99 rfl rfl ?_
            refine pw_getR dX7_kinds_100 fa_X7_32 rfl ?_
            refine pw_getR dX7_kinds_103 fa_X7_144 rfl ?_
            refine pw_iload dX7_kinds_106 rfl ?_
            refine pw_iload dX7_kinds_108 rfl ?_
            refine pw_iast (j := j) dX7_kinds_110 rfl rfl hsj ?_
            refine pw_mem (siw (w := 32) (r := 2) w32 (by decide)) ?_
            refine pw_iload dX7_kinds_111 rfl ?_
            refine pw_aload_n dX7_kinds_113 rfl rfl ?_
            refine pw_iload_n dX7_kinds_114 rfl rfl ?_
            refine pw_iload_n dX7_kinds_115 rfl rfl ?_
            refine pw_cVi dX7_kinds_116 mv_X7_270 ckMain (T_X7_thoughtFits (T := vu U 2 j (nI f)) (okC_V hc hE0) hE1 hj5 hsh hs4 hsz) rfl rfl (Nat.le_of_ble_eq_true rfl) (by decide) (fun x_116 m_116 h_116 => ?_)
            obtain ⟨rfl, nm1, sk1, rfl⟩ := h_116
            refine pw_iload dX7_kinds_119 rfl ?_
            refine pw_ishl dX7_kinds_121 ?_
            refine pw_ior dX7_kinds_122 ?_
            refine pw_istore (ls2 := [(6, _), (0, _), (1, _), (2, _), (5, _), (7, _)]) dX7_kinds_123 (by decide) rfl ?_
            refine pw_iinc (ls2 := [(7, _), (6, _), (0, _), (1, _), (2, _), (5, _)]) (v := nI (f + 1)) dX7_kinds_125 rfl (inc1 f) (by decide) rfl ?_
            refine pw_goto (tgt := 92) dX7_kinds_128 (by decide) ?_
            refine pw_sub [2, 3, 4, 5, 1, 0] rfl ?_
            exact ih_92 (f + 1) _ _ nm1 sk1 hlt hE0 hE1 (fun v => by rw [vu_vu]; exact hE v) (by rw [← hx, show 10 - f = (10 - (f + 1)) + 1 by omega]; show _ = biL (bk μ) V (μ.1 21) s h nj 2 j _ (f + 1) (x ||| (fitF (bk μ) (vu V 2 j (nI f)) (μ.1 21) s h nj <<< (nI f &&& 31))); rw [← fitF_c (EqV_mono hj5 (Nat.le_refl 6) (hE (nI f))) hsh]) (by omega)
      refine pw_sub [4, 5, 6, 2, 1, 0] rfl ?_
      exact L_92 (10 + 1) 0 0 _ nm sk (Nat.zero_le _) rfl h1 (fun v => vu_c cp_E) rfl (by omega)
    · skip
      have hm0 : q % 10 = 0 := (nI_eq (b := 0) (by omega) (by decide)).mp c_41
      refine pw_iconst (v := 0) dX7_kinds_44 rfl ?_
      refine pw_istore (ls2 := [(7, _), (6, _), (5, _), (4, _), (0, _), (1, _), (2, _), (3, _)]) dX7_kinds_45 (by decide) rfl ?_
      have L_47 : ∀ (fu_47 : Nat) (f : Nat) (x : Int32) (U : VW) (nm sk : Nat → Int32), (f ≤ 6) → (U 0 13 = V 0 13) → (U 0 1 = nI nj) → (∀ v, EqV 5 6 (vu U 1 j v) (vu V 1 j v)) → (biL (bk μ) V (μ.1 21) s h nj 1 j (6 - f) f x = biL (bk μ) V (μ.1 21) s h nj 1 j 6 0 0) → 6 - f < fu_47 → PW l SC RX7 cX7_kinds 8 (some .int) 8 (QI fun x m => x = kindsF (bk μ) V (μ.1 19) (μ.1 20) (μ.1 21) nj (nI s) (nI h) (nI q) ∧ ∃ T2 nm2 sk2, m = sc (wr (wr μ 22 V) 32 T2) nm2 sk2) 47 [(0, .ref 0), (1, .int (nI s)), (2, .int (nI h)), (5, .int (nI j)), (6, .int x), (7, .int (nI f))] [] (sc (wr (wr μ 22 V) 32 U) nm sk) := by
        intro fu_47
        induction fu_47 with
        | zero =>
          intro f x U nm sk hi hE0 hE1 hE hx hm_47
          exact absurd hm_47 (Nat.not_lt_zero _)
        | succ fu_47 ih_47 =>
          intro f x U nm sk hi hE0 hE1 hE hx hm_47
          refine pw_iload dX7_kinds_47 rfl ?_
          refine pw_bipush (v := 6) dX7_kinds_49 rfl ?_
          refine pw_icmp_ge (tgt := 86) dX7_kinds_51 (by decide) (fun c_51 => ?_) (fun c_51 => ?_)
          · skip
            have hge := nI_geD (n := 6) (by decide) c_51
            refine pw_goto (tgt := 131) dX7_kinds_86 (by decide) ?_
            refine pw_iload dX7_kinds_131 rfl ?_
            refine pw_iret dX7_kinds_133 rfl ?_
            have e0 : 6 - f = 0 := by omega
            rw [e0] at hx
            change x = _ at hx
            exact ⟨by unfold kindsF; rw [if_pos hr0, cl_nI hq31, cl_nI (show s < 2 ^ 31 by omega), cl_nI (show h < 2 ^ 31 by omega), ej2, if_pos hm0, hx], _, _, _, rfl⟩
          · skip
            have hlt := nI_ltD (n := 6) (by omega) c_51
            refine pw_aload_n dX7_kinds_54 rfl rfl ?_
            refine pw_getR dX7_kinds_55 fa_X7_32 rfl ?_
            refine pw_getR dX7_kinds_58 fa_X7_141 rfl ?_
            refine pw_iload dX7_kinds_61 rfl ?_
            refine pw_iload dX7_kinds_63 rfl ?_
            refine pw_iast (j := j) dX7_kinds_65 rfl rfl hsj ?_
            refine pw_mem (siw (w := 32) (r := 1) w32 (by decide)) ?_
            refine pw_iload dX7_kinds_66 rfl ?_
            refine pw_aload_n dX7_kinds_68 rfl rfl ?_
            refine pw_iload_n dX7_kinds_69 rfl rfl ?_
            refine pw_iload_n dX7_kinds_70 rfl rfl ?_
            refine pw_cVi dX7_kinds_71 mv_X7_270 ckMain (T_X7_thoughtFits (T := vu U 1 j (nI f)) (okC_V hc hE0) hE1 hj5 hsh hs4 hsz) rfl rfl (Nat.le_of_ble_eq_true rfl) (by decide) (fun x_71 m_71 h_71 => ?_)
            obtain ⟨rfl, nm1, sk1, rfl⟩ := h_71
            refine pw_iload dX7_kinds_74 rfl ?_
            refine pw_ishl dX7_kinds_76 ?_
            refine pw_ior dX7_kinds_77 ?_
            refine pw_istore (ls2 := [(6, _), (0, _), (1, _), (2, _), (5, _), (7, _)]) dX7_kinds_78 (by decide) rfl ?_
            refine pw_iinc (ls2 := [(7, _), (6, _), (0, _), (1, _), (2, _), (5, _)]) (v := nI (f + 1)) dX7_kinds_80 rfl (inc1 f) (by decide) rfl ?_
            refine pw_goto (tgt := 47) dX7_kinds_83 (by decide) ?_
            refine pw_sub [2, 3, 4, 5, 1, 0] rfl ?_
            exact ih_47 (f + 1) _ _ nm1 sk1 hlt hE0 hE1 (fun v => by rw [vu_vu]; exact hE v) (by rw [← hx, show 6 - f = (6 - (f + 1)) + 1 by omega]; show _ = biL (bk μ) V (μ.1 21) s h nj 1 j _ (f + 1) (x ||| (fitF (bk μ) (vu V 1 j (nI f)) (μ.1 21) s h nj <<< (nI f &&& 31))); rw [← fitF_c (EqV_mono hj5 (Nat.le_refl 6) (hE (nI f))) hsh]) (by omega)
      refine pw_sub [4, 5, 6, 2, 1, 0] rfl ?_
      exact L_47 (6 + 1) 0 0 _ nm sk (Nat.zero_le _) rfl h1 (fun v => vu_c cp_E) rfl (by omega)
  · skip
    refine pw_iload dX7_kinds_14 rfl ?_
    refine pw_iret dX7_kinds_16 rfl ?_
    exact ⟨by unfold kindsF; rw [if_neg c_11], _, _, _, rfl⟩

set_option maxHeartbeats 4000000 in
set_option maxRecDepth 100000 in
theorem T_X7_wear {l : Launch} {μ : PM} {V T : VW} {nm sk : Nat → Int32} {nj nh : Nat} {s h ja : Int32} (hc : okC μ V) (h1 : V 0 1 = nI nj) (hj5 : nj ≤ 5) (h5 : V 0 5 = nI nh) (hh6 : nh ≤ 6) : CT l SC yX7_wear cX7_wear 9 (some .int) 8 [.ref 0, .int s, .int h, .int ja] (sc (wr (wr μ 22 V) 32 T) nm sk) (QI fun x m => x = wearF (bk μ) V (μ.1 19) (μ.1 20) (μ.1 21) nj s h ja ∧ ∃ T2 nm2 sk2, m = sc (wr (wr μ 22 V) 32 T2) nm2 sk2) := by
  refine CT.of rfl (Nat.le_of_ble_eq_true rfl) ?_
  show PW l SC RX7 cX7_wear 9 (some .int) 8 _ 0 [(0, .ref 0), (1, .int s), (2, .int h), (3, .int ja)] [] (sc (wr (wr μ 22 V) 32 T) nm sk)
  refine pw_aload_n dX7_wear_0 rfl rfl ?_
  refine pw_iload_n dX7_wear_1 rfl rfl ?_
  refine pw_iload_n dX7_wear_2 rfl rfl ?_
  refine pw_iload_n dX7_wear_3 rfl rfl ?_
  refine pw_cVi dX7_wear_4 mv_X7_276 ckMain rjjN rfl rfl (Nat.le_of_ble_eq_true rfl) (by decide) (fun x_4 m_4 h_4 => ?_)
  obtain ⟨rfl, rfl⟩ := h_4
  refine pw_istore (ls2 := [(4, _), (0, _), (1, _), (2, _), (3, _)]) dX7_wear_7 (by decide) rfl ?_
  refine pw_iload dX7_wear_9 rfl ?_
  refine pw_if_eq (tgt := 17) dX7_wear_11 (by decide) (fun c_11 => ?_) (fun c_11 => ?_)
  · skip
    have hr0 : rjjF (μ.1 19) (μ.1 20) V s h ja = 0 := c_11
    obtain ⟨hr2, q, hq31, rfl, hjq, hq1⟩ := rjj_0 hr0
    obtain ⟨hr1, hhr⟩ := rj_0 hr2
    obtain ⟨s, hs4, rfl, hso, hsz⟩ := rs_0 hr1
    rw [h1] at hsz
    obtain ⟨h, hlh, hsh, rfl⟩ := hr_of h5 hh6 hhr
    obtain ⟨j, hlj, hsj, ej⟩ := jk_of h1 hj5 hjq
    have ej2 : q / 10 = j := (nI_eq (by omega) (by omega)).mp ej
    refine pw_iload_n dX7_wear_17 rfl rfl ?_
    refine pw_bipush (v := 10) dX7_wear_18 rfl ?_
    refine pw_idiv dX7_wear_20 (by decide) ?_
    refine pw_top (y := nI j) ((pk_div hq31 (by decide) (by decide)).trans (by rw [ej2])) ?_
    refine pw_istore (ls2 := [(5, _), (4, _), (0, _), (1, _), (2, _), (3, _)]) dX7_wear_21 (by decide) rfl ?_
    refine pw_aload_n dX7_wear_23 rfl rfl ?_
    refine pw_getR dX7_wear_24 fa_X7_32 rfl ?_
    refine pw_aload_n dX7_wear_27 rfl rfl ?_
    refine pw_getR dX7_wear_28 fa_X7_28 rfl ?_
    refine pw_cVv dX7_wear_31 mv_X7_197 ckThought (T_X6_copyFrom i32_22) rfl rfl (Nat.le_of_ble_eq_true rfl) (by decide) (fun m_31 h_31 => ?_)
    obtain rfl := h_31
    refine pw_iconst (v := 0) dX7_wear_34 rfl ?_
    refine pw_istore (ls2 := [(6, _), (5, _), (4, _), (0, _), (1, _), (2, _), (3, _)]) dX7_wear_35 (by decide) rfl ?_
    refine pw_iconst (v := (-1)) dX7_wear_37 rfl ?_
    refine pw_istore (ls2 := [(7, _), (6, _), (5, _), (4, _), (0, _), (1, _), (2, _), (3, _)]) dX7_wear_38 (by decide) rfl ?_
    refine pw_iconst (v := 0) dX7_wear_40 rfl ?_
    refine pw_istore (ls2 := [(8, _), (7, _), (6, _), (5, _), (4, _), (0, _), (1, _), (2, _), (3, _)]) dX7_wear_41 (by decide) rfl ?_
    have L_43 : ∀ (fu_43 : Nat) (f c : Nat) (x : Int32) (U : VW) (nm sk : Nat → Int32), (f ≤ 100) → (c ≤ f) → (U 0 13 = V 0 13) → (U 0 1 = nI nj) → (∀ v, EqV 5 6 (vu U 3 j v) (vu V 3 j v)) → (weL (bk μ) V (μ.1 21) s h nj j (100 - f) f (c, x) = weL (bk μ) V (μ.1 21) s h nj j 100 0 (0, -1)) → 100 - f < fu_43 → PW l SC RX7 cX7_wear 9 (some .int) 8 (QI fun x m => x = wearF (bk μ) V (μ.1 19) (μ.1 20) (μ.1 21) nj (nI s) (nI h) (nI q) ∧ ∃ T2 nm2 sk2, m = sc (wr (wr μ 22 V) 32 T2) nm2 sk2) 43 [(0, .ref 0), (1, .int (nI s)), (2, .int (nI h)), (3, .int (nI q)), (5, .int (nI j)), (6, .int (nI c)), (7, .int x), (8, .int (nI f))] [] (sc (wr (wr μ 22 V) 32 U) nm sk) := by
      intro fu_43
      induction fu_43 with
      | zero =>
        intro f c x U nm sk hi hcf hE0 hE1 hE hx hm_43
        exact absurd hm_43 (Nat.not_lt_zero _)
      | succ fu_43 ih_43 =>
        intro f c x U nm sk hi hcf hE0 hE1 hE hx hm_43
        refine pw_iload dX7_wear_43 rfl ?_
        refine pw_bipush (v := 99) dX7_wear_45 rfl ?_
        refine pw_icmp_gt (tgt := 96) dX7_wear_47 (by decide) (fun c_47 => ?_) (fun c_47 => ?_)
        · skip
          have hge := (nI_ltI (a := 99) (b := f) (by decide) (by omega)).mp c_47
          refine pw_iload_n dX7_wear_96 rfl rfl ?_
          refine pw_bipush (v := 10) dX7_wear_97 rfl ?_
          refine pw_irem dX7_wear_99 (by decide) ?_
          refine pw_top (y := nI (q % 10)) (pk_rem hq31 (by decide) (by decide)) ?_
          refine pw_if_ne (tgt := 108) dX7_wear_100 (by decide) (fun c_100 => ?_) (fun c_100 => ?_)
          · skip
            have hm1 : ¬ q % 10 = 0 := fun e => c_100 (by rw [e]; rfl)
            refine pw_iload dX7_wear_108 rfl ?_
            refine pw_iret dX7_wear_110 rfl ?_
            have e0 : 100 - f = 0 := by omega
            rw [e0] at hx
            change (c, x) = _ at hx
            exact ⟨by unfold wearF; rw [if_pos hr0, cl_nI hq31, cl_nI (show s < 2 ^ 31 by omega), cl_nI (show h < 2 ^ 31 by omega), ej2, if_neg hm1, ← hx], _, _, _, rfl⟩
          · skip
            have hm0 : q % 10 = 0 := (nI_eq (b := 0) (by omega) (by decide)).mp c_100
            refine pw_iload dX7_wear_103 rfl ?_
            refine pw_goto (tgt := 110) dX7_wear_105 (by decide) ?_
            refine pw_iret dX7_wear_110 rfl ?_
            have e0 : 100 - f = 0 := by omega
            rw [e0] at hx
            change (c, x) = _ at hx
            exact ⟨by unfold wearF; rw [if_pos hr0, cl_nI hq31, cl_nI (show s < 2 ^ 31 by omega), cl_nI (show h < 2 ^ 31 by omega), ej2, if_pos hm0, ← hx], _, _, _, rfl⟩
        · skip
          have hlt : f < 100 := by
            rcases Nat.lt_or_ge f 100 with q2 | q2
            · exact q2
            · exact absurd (nI_lt (show 99 < f by omega) (by omega)) c_47
          refine pw_aload_n dX7_wear_50 rfl rfl ?_
          refine pw_getR dX7_wear_51 fa_X7_32 rfl ?_
          refine pw_getR dX7_wear_54 fa_X7_147 rfl ?_
          refine pw_iload dX7_wear_57 rfl ?_
          refine pw_iload dX7_wear_59 rfl ?_
          refine pw_iast (j := j) dX7_wear_61 rfl rfl hsj ?_
          refine pw_mem (siw (w := 32) (r := 3) w32 (by decide)) ?_
          refine pw_aload_n dX7_wear_62 rfl rfl ?_
          refine pw_iload_n dX7_wear_63 rfl rfl ?_
          refine pw_iload_n dX7_wear_64 rfl rfl ?_
          refine pw_cVi dX7_wear_65 mv_X7_270 ckMain (T_X7_thoughtFits (T := vu U 3 j (nI f)) (okC_V hc hE0) hE1 hj5 hsh hs4 hsz) rfl rfl (Nat.le_of_ble_eq_true rfl) (by decide) (fun x_65 m_65 h_65 => ?_)
          obtain ⟨rfl, nm1, sk1, rfl⟩ := h_65
          refine pw_iconst (v := 1) dX7_wear_68 rfl ?_
          have hfc := fitF_c (B := bk μ) (ce := μ.1 21) (s := s) (EqV_mono hj5 (Nat.le_refl 6) (hE (nI f))) hsh
          rw [hfc]
          refine pw_icmp_ne (tgt := 90) dX7_wear_69 (by decide) (fun c_69 => ?_) (fun c_69 => ?_)
          · skip
            refine pw_iinc (ls2 := [(8, _), (0, _), (1, _), (2, _), (3, _), (5, _), (6, _), (7, _)]) (v := nI (f + 1)) dX7_wear_90 rfl (inc1 f) (by decide) rfl ?_
            refine pw_goto (tgt := 43) dX7_wear_93 (by decide) ?_
            refine pw_sub [1, 2, 3, 4, 5, 6, 7, 0] rfl ?_
            exact ih_43 (f + 1) _ _ _ nm1 sk1 hlt (by omega) hE0 hE1 (fun v => by rw [vu_vu]; exact hE v) (by rw [← hx, show 100 - f = (100 - (f + 1)) + 1 by omega]; show _ = weL (bk μ) V (μ.1 21) s h nj j _ (f + 1) (if _ then (c + 1, if x = -1 then nI f else x) else (c, x)); rw [if_neg c_69]) (by omega)
          · skip
            refine pw_iinc (ls2 := [(6, _), (0, _), (1, _), (2, _), (3, _), (5, _), (7, _), (8, _)]) (v := nI (c + 1)) dX7_wear_72 rfl (inc1 c) (by decide) rfl ?_
            refine pw_iload dX7_wear_75 rfl ?_
            refine pw_iconst (v := (-1)) dX7_wear_77 rfl ?_
            refine pw_icmp_ne (tgt := 86) dX7_wear_78 (by decide) (fun c_78 => ?_) (fun c_78 => ?_)
            · skip
              refine pw_iload dX7_wear_86 rfl ?_
              refine pw_istore (ls2 := [(7, _), (6, _), (0, _), (1, _), (2, _), (3, _), (5, _), (8, _)]) dX7_wear_88 (by decide) rfl ?_
              refine pw_iinc (ls2 := [(8, _), (7, _), (6, _), (0, _), (1, _), (2, _), (3, _), (5, _)]) (v := nI (f + 1)) dX7_wear_90 rfl (inc1 f) (by decide) rfl ?_
              refine pw_goto (tgt := 43) dX7_wear_93 (by decide) ?_
              refine pw_sub [3, 4, 5, 6, 7, 2, 1, 0] rfl ?_
              exact ih_43 (f + 1) _ _ _ nm1 sk1 hlt (by omega) hE0 hE1 (fun v => by rw [vu_vu]; exact hE v) (by rw [← hx, show 100 - f = (100 - (f + 1)) + 1 by omega]; show _ = weL (bk μ) V (μ.1 21) s h nj j _ (f + 1) (if _ then (c + 1, if x = -1 then nI f else x) else (c, x)); rw [if_pos c_69, if_neg c_78]) (by omega)
            · skip
              refine pw_iload dX7_wear_81 rfl ?_
              refine pw_goto (tgt := 88) dX7_wear_83 (by decide) ?_
              refine pw_istore (ls2 := [(7, _), (6, _), (0, _), (1, _), (2, _), (3, _), (5, _), (8, _)]) dX7_wear_88 (by decide) rfl ?_
              refine pw_iinc (ls2 := [(8, _), (7, _), (6, _), (0, _), (1, _), (2, _), (3, _), (5, _)]) (v := nI (f + 1)) dX7_wear_90 rfl (inc1 f) (by decide) rfl ?_
              refine pw_goto (tgt := 43) dX7_wear_93 (by decide) ?_
              refine pw_sub [3, 4, 5, 6, 7, 2, 1, 0] rfl ?_
              exact ih_43 (f + 1) _ _ _ nm1 sk1 hlt (by omega) hE0 hE1 (fun v => by rw [vu_vu]; exact hE v) (by rw [← hx, show 100 - f = (100 - (f + 1)) + 1 by omega]; show _ = weL (bk μ) V (μ.1 21) s h nj j _ (f + 1) (if _ then (c + 1, if x = -1 then nI f else x) else (c, x)); rw [if_pos c_69, if_pos c_78]) (by omega)
    refine pw_sub [5, 6, 7, 8, 3, 2, 1, 0] rfl ?_
    exact L_43 101 0 0 (-1) _ nm sk (Nat.zero_le _) (Nat.le_refl _) rfl h1 (fun v => vu_c cp_E) rfl (by omega)
  · skip
    refine pw_iload dX7_wear_14 rfl ?_
    refine pw_iret dX7_wear_16 rfl ?_
    exact ⟨by unfold wearF; rw [if_neg c_11], _, _, _, rfl⟩

set_option maxHeartbeats 4000000 in
set_option maxRecDepth 100000 in
theorem T_X7_heards {l : Launch} {μ : PM} {V T : VW} {nm sk : Nat → Int32} {nj nh : Nat} {s h wh : Int32} (hc : okC μ V) (h1 : V 0 1 = nI nj) (hj5 : nj ≤ 5) (h5 : V 0 5 = nI nh) (hh6 : nh ≤ 6) : CT l SC yX7_heards cX7_heards 9 (some .int) 8 [.ref 0, .int s, .int h, .int wh] (sc (wr (wr μ 22 V) 32 T) nm sk) (QI fun x m => x = heaF (bk μ) V (μ.1 19) (μ.1 20) (μ.1 21) nj s h wh ∧ ∃ T2 nm2 sk2, m = sc (wr (wr μ 22 V) 32 T2) nm2 sk2) := by
  refine CT.of rfl (Nat.le_of_ble_eq_true rfl) ?_
  show PW l SC RX7 cX7_heards 9 (some .int) 8 _ 0 [(0, .ref 0), (1, .int s), (2, .int h), (3, .int wh)] [] (sc (wr (wr μ 22 V) 32 T) nm sk)
  have hab := aN_b (n := nj) (by omega)
  have hal := aljF_n h1 (by omega)
  refine pw_aload_n dX7_heards_0 rfl rfl ?_
  refine pw_iload_n dX7_heards_1 rfl rfl ?_
  refine pw_iload_n dX7_heards_2 rfl rfl ?_
  refine pw_cVi dX7_heards_3 mv_X7_260 ckMain rjN rfl rfl (Nat.le_of_ble_eq_true rfl) (by decide) (fun x_3 m_3 h_3 => ?_)
  obtain ⟨rfl, rfl⟩ := h_3
  refine pw_istore (ls2 := [(4, _), (0, _), (1, _), (2, _), (3, _)]) dX7_heards_6 (by decide) rfl ?_
  refine pw_iload dX7_heards_8 rfl ?_
  refine pw_if_eq (tgt := 16) dX7_heards_10 (by decide) (fun c_10 => ?_) (fun c_10 => ?_)
  · skip
    have hr0 : rjF (μ.1 19) (μ.1 20) V s h = 0 := c_10
    obtain ⟨hr1, hhr⟩ := rj_0 hr0
    obtain ⟨s, hs4, rfl, hso, hsz⟩ := rs_0 hr1
    rw [h1] at hsz
    obtain ⟨h, hlh, hsh, rfl⟩ := hr_of h5 hh6 hhr
    refine pw_iload_n dX7_heards_16 rfl rfl ?_
    refine pw_iconst (v := 0) dX7_heards_17 rfl ?_
    refine pw_iconst (v := 2) dX7_heards_18 rfl ?_
    refine pw_cSi dX7_heards_19 ms_X7_116 T_X7_within rfl rfl (Nat.le_of_ble_eq_true rfl) (by decide) (fun x_19 m_19 h_19 => ?_)
    obtain ⟨rfl, rfl⟩ := h_19
    refine pw_if_ne (tgt := 28) dX7_heards_22 (by decide) (fun c_22 => ?_) (fun c_22 => ?_)
    · skip
      have hb_22 := b2_n c_22
      refine pw_aload_n dX7_heards_28 rfl rfl ?_
      refine pw_getR dX7_heards_29 fa_X7_32 rfl ?_
      refine pw_aload_n dX7_heards_32 rfl rfl ?_
      refine pw_getR dX7_heards_33 fa_X7_28 rfl ?_
      refine pw_cVv dX7_heards_36 mv_X7_197 ckThought (T_X6_copyFrom i32_22) rfl rfl (Nat.le_of_ble_eq_true rfl) (by decide) (fun m_36 h_36 => ?_)
      obtain rfl := h_36
      refine pw_iconst (v := 0) dX7_heards_39 rfl ?_
      refine pw_istore (ls2 := [(5, _), (4, _), (0, _), (1, _), (2, _), (3, _)]) dX7_heards_40 (by decide) rfl ?_
      refine pw_aload_n dX7_heards_42 rfl rfl ?_
      refine pw_getR dX7_heards_43 fa_X7_28 rfl ?_
      refine pw_cVi dX7_heards_46 mv_X7_175 ckNow ajN rfl rfl (Nat.le_of_ble_eq_true rfl) (by decide) (fun x_46 m_46 h_46 => ?_)
      obtain ⟨rfl, rfl⟩ := h_46
      refine pw_istore (ls2 := [(6, _), (5, _), (4, _), (0, _), (1, _), (2, _), (3, _)]) dX7_heards_49 (by decide) rfl ?_
      refine pw_aload_n dX7_heards_51 rfl rfl ?_
      refine pw_getR dX7_heards_52 fa_X7_28 rfl ?_
      refine pw_cVi dX7_heards_55 mv_X7_175 ckNow ajN rfl rfl (Nat.le_of_ble_eq_true rfl) (by decide) (fun x_55 m_55 h_55 => ?_)
      obtain ⟨rfl, rfl⟩ := h_55
      refine pw_istore (ls2 := [(7, _), (6, _), (5, _), (4, _), (0, _), (1, _), (2, _), (3, _)]) dX7_heards_58 (by decide) rfl ?_
      refine pw_iconst (v := 0) dX7_heards_60 rfl ?_
      refine pw_istore (ls2 := [(8, _), (7, _), (6, _), (5, _), (4, _), (0, _), (1, _), (2, _), (3, _)]) dX7_heards_61 (by decide) rfl ?_
      have L_63 : ∀ (fu_63 : Nat) (f c : Nat) (x y : Int32) (U : VW) (nm sk : Nat → Int32), (f ≤ aN nj) → (c ≤ f) → (U 0 13 = V 0 13) → (U 0 1 = nI nj) → (∀ v, EqV 5 6 (vu U 7 h v) (vu V 7 h v)) → (heL (bk μ) V (μ.1 21) s h nj (aN nj - f) f (c, x, y) = heL (bk μ) V (μ.1 21) s h nj (aN nj) 0 (0, aljF V, aljF V)) → aN nj - f < fu_63 → PW l SC RX7 cX7_heards 9 (some .int) 8 (QI fun x m => x = heaF (bk μ) V (μ.1 19) (μ.1 20) (μ.1 21) nj (nI s) (nI h) wh ∧ ∃ T2 nm2 sk2, m = sc (wr (wr μ 22 V) 32 T2) nm2 sk2) 63 [(0, .ref 0), (1, .int (nI s)), (2, .int (nI h)), (3, .int wh), (5, .int (nI c)), (6, .int x), (7, .int y), (8, .int (nI f))] [] (sc (wr (wr μ 22 V) 32 U) nm sk) := by
        intro fu_63
        induction fu_63 with
        | zero =>
          intro f c x y U nm sk hi hcf hE0 hE1 hE hx hm_63
          exact absurd hm_63 (Nat.not_lt_zero _)
        | succ fu_63 ih_63 =>
          intro f c x y U nm sk hi hcf hE0 hE1 hE hx hm_63
          refine pw_iload dX7_heards_63 rfl ?_
          refine pw_aload_n dX7_heards_65 rfl rfl ?_
          refine pw_getR dX7_heards_66 fa_X7_28 rfl ?_
          refine pw_cVi dX7_heards_69 mv_X7_175 ckNow ajN rfl rfl (Nat.le_of_ble_eq_true rfl) (by decide) (fun x_69 m_69 h_69 => ?_)
          obtain ⟨rfl, rfl⟩ := h_69
          refine pw_top (y := nI (aN nj - 1)) hal ?_
          refine pw_icmp_gt (tgt := 121) dX7_heards_72 (by decide) (fun c_72 => ?_) (fun c_72 => ?_)
          · skip
            have hge := (nI_ltI (by omega) (by omega)).mp c_72
            refine pw_iload_n dX7_heards_121 rfl rfl ?_
            have e0 : aN nj - f = 0 := by omega
            rw [e0] at hx
            change (c, x, y) = _ at hx
            have hA : heaA (bk μ) V (μ.1 21) nj s h = (c, x, y) := hx.symm
            refine pw_if_ne (tgt := 128) dX7_heards_122 (by decide) (fun c_122 => ?_) (fun c_122 => ?_)
            · skip
              refine pw_iload dX7_heards_128 rfl ?_
              refine pw_if_ne (tgt := 135) dX7_heards_130 (by decide) (fun c_130 => ?_) (fun c_130 => ?_)
              · skip
                have hc1 : ¬ c = 0 := fun e => c_130 (by rw [e]; rfl)
                refine pw_iload_n dX7_heards_135 rfl rfl ?_
                refine pw_iconst (v := 1) dX7_heards_136 rfl ?_
                refine pw_icmp_ne (tgt := 145) dX7_heards_137 (by decide) (fun c_137 => ?_) (fun c_137 => ?_)
                · skip
                  refine pw_iload dX7_heards_145 rfl ?_
                  refine pw_iret dX7_heards_147 rfl ?_
                  exact ⟨by unfold heaF; rw [if_pos hr0, hb_22, if_pos rfl, if_neg c_122, cl_nI (show s < 2 ^ 31 by omega), cl_nI (show h < 2 ^ 31 by omega), hA, if_neg hc1, if_neg c_137], _, _, _, rfl⟩
                · skip
                  refine pw_iload dX7_heards_140 rfl ?_
                  refine pw_goto (tgt := 147) dX7_heards_142 (by decide) ?_
                  refine pw_iret dX7_heards_147 rfl ?_
                  exact ⟨by unfold heaF; rw [if_pos hr0, hb_22, if_pos rfl, if_neg c_122, cl_nI (show s < 2 ^ 31 by omega), cl_nI (show h < 2 ^ 31 by omega), hA, if_neg hc1, if_pos c_137], _, _, _, rfl⟩
              · skip
                have hc0 : c = 0 := (nI_eq (b := 0) (by omega) (by decide)).mp c_130
                refine pw_iconst (v := (-1)) dX7_heards_133 rfl ?_
                refine pw_iret dX7_heards_134 rfl ?_
                exact ⟨by unfold heaF; rw [if_pos hr0, hb_22, if_pos rfl, if_neg c_122, cl_nI (show s < 2 ^ 31 by omega), cl_nI (show h < 2 ^ 31 by omega), hA, if_pos hc0], _, _, _, rfl⟩
            · skip
              refine pw_iload dX7_heards_125 rfl ?_
              refine pw_iret dX7_heards_127 rfl ?_
              exact ⟨by unfold heaF; rw [if_pos hr0, hb_22, if_pos rfl, if_pos c_122, cl_nI (show s < 2 ^ 31 by omega), cl_nI (show h < 2 ^ 31 by omega), hA], _, _, _, rfl⟩
          · skip
            have hlt : f < aN nj := by
              rcases Nat.lt_or_ge f (aN nj) with q | q
              · exact q
              · exact absurd (nI_lt (show aN nj - 1 < f by omega) (by omega)) c_72
            refine pw_aload_n dX7_heards_75 rfl rfl ?_
            refine pw_getR dX7_heards_76 fa_X7_32 rfl ?_
            refine pw_getR dX7_heards_79 fa_X7_273 rfl ?_
            refine pw_iload_n dX7_heards_82 rfl rfl ?_
            refine pw_iload dX7_heards_83 rfl ?_
            refine pw_iast (j := h) dX7_heards_85 rfl rfl hsh ?_
            refine pw_mem (siw (w := 32) (r := 7) w32 (by decide)) ?_
            refine pw_aload_n dX7_heards_86 rfl rfl ?_
            refine pw_iload_n dX7_heards_87 rfl rfl ?_
            refine pw_iload_n dX7_heards_88 rfl rfl ?_
            refine pw_cVi dX7_heards_89 mv_X7_270 ckMain (T_X7_thoughtFits (T := vu U 7 h (nI f)) (okC_V hc hE0) hE1 hj5 hsh hs4 hsz) rfl rfl (Nat.le_of_ble_eq_true rfl) (by decide) (fun x_89 m_89 h_89 => ?_)
            obtain ⟨rfl, nm1, sk1, rfl⟩ := h_89
            refine pw_iconst (v := 1) dX7_heards_92 rfl ?_
            have hfc := fitF_c (B := bk μ) (ce := μ.1 21) (s := s) (EqV_mono hj5 (Nat.le_refl 6) (hE (nI f))) hsh
            rw [hfc]
            refine pw_icmp_ne (tgt := 115) dX7_heards_93 (by decide) (fun c_93 => ?_) (fun c_93 => ?_)
            · skip
              refine pw_iinc (ls2 := [(8, _), (0, _), (1, _), (2, _), (3, _), (5, _), (6, _), (7, _)]) (v := nI (f + 1)) dX7_heards_115 rfl (inc1 f) (by decide) rfl ?_
              refine pw_goto (tgt := 63) dX7_heards_118 (by decide) ?_
              refine pw_sub [1, 2, 3, 4, 5, 6, 7, 0] rfl ?_
              exact ih_63 (f + 1) _ _ _ _ nm1 sk1 (by omega) (by omega) hE0 hE1 (fun v => by rw [vu_vu]; exact hE v) (by rw [← hx, show aN nj - f = (aN nj - (f + 1)) + 1 by omega]; show _ = heL (bk μ) V (μ.1 21) s h nj _ (f + 1) (if _ then (c + 1, x &&& nI f, y &&& (nI f ^^^ -1)) else (c, x, y)); rw [if_neg c_93]) (by omega)
            · skip
              refine pw_iinc (ls2 := [(5, _), (0, _), (1, _), (2, _), (3, _), (6, _), (7, _), (8, _)]) (v := nI (c + 1)) dX7_heards_96 rfl (inc1 c) (by decide) rfl ?_
              refine pw_iload dX7_heards_99 rfl ?_
              refine pw_iload dX7_heards_101 rfl ?_
              refine pw_iand dX7_heards_103 ?_
              refine pw_istore (ls2 := [(6, _), (5, _), (0, _), (1, _), (2, _), (3, _), (7, _), (8, _)]) dX7_heards_104 (by decide) rfl ?_
              refine pw_iload dX7_heards_106 rfl ?_
              refine pw_iload dX7_heards_108 rfl ?_
              refine pw_iconst (v := (-1)) dX7_heards_110 rfl ?_
              refine pw_ixor dX7_heards_111 ?_
              refine pw_iand dX7_heards_112 ?_
              refine pw_istore (ls2 := [(7, _), (6, _), (5, _), (0, _), (1, _), (2, _), (3, _), (8, _)]) dX7_heards_113 (by decide) rfl ?_
              refine pw_iinc (ls2 := [(8, _), (7, _), (6, _), (5, _), (0, _), (1, _), (2, _), (3, _)]) (v := nI (f + 1)) dX7_heards_115 rfl (inc1 f) (by decide) rfl ?_
              refine pw_goto (tgt := 63) dX7_heards_118 (by decide) ?_
              refine pw_sub [4, 5, 6, 7, 3, 2, 1, 0] rfl ?_
              exact ih_63 (f + 1) _ _ _ _ nm1 sk1 (by omega) (by omega) hE0 hE1 (fun v => by rw [vu_vu]; exact hE v) (by rw [← hx, show aN nj - f = (aN nj - (f + 1)) + 1 by omega]; show _ = heL (bk μ) V (μ.1 21) s h nj _ (f + 1) (if _ then (c + 1, x &&& nI f, y &&& (nI f ^^^ -1)) else (c, x, y)); rw [if_pos c_93]) (by omega)
      refine pw_sub [5, 6, 7, 8, 3, 2, 1, 0] rfl ?_
      exact L_63 (aN nj + 1) 0 0 (aljF V) (aljF V) _ nm sk (Nat.zero_le _) (Nat.le_refl _) rfl h1 (fun v => vu_c cp_E) rfl (by omega)
    · skip
      have hb_22 := b2_0 c_22
      refine pw_bipush (v := (-7)) dX7_heards_25 rfl ?_
      refine pw_iret dX7_heards_27 rfl ?_
      exact ⟨by unfold heaF; rw [if_pos hr0, hb_22]; rfl, _, _, _, rfl⟩
  · skip
    refine pw_iload dX7_heards_13 rfl ?_
    refine pw_iret dX7_heards_15 rfl ?_
    exact ⟨by unfold heaF; rw [if_neg c_10], _, _, _, rfl⟩

set_option maxHeartbeats 4000000 in
set_option maxRecDepth 100000 in
theorem T_X7_amiss {l : Launch} {μ : PM} {V : VW} {nm sk : Nat → Int32} {nj nh : Nat} {s h : Int32} (hc : okC μ V) (h1 : V 0 1 = nI nj) (hj5 : nj ≤ 5) (h5 : V 0 5 = nI nh) (hh6 : nh ≤ 6) : CT l SC yX7_amiss cX7_amiss 8 (some .long) 6 [.ref 0, .int s, .int h] (sc (wr μ 22 V) nm sk) (QL fun x m => x = amissF (bk μ) V (μ.1 19) (μ.1 20) (μ.1 21) nj s h ∧ ∃ nm2 sk2, m = sc (wr μ 22 V) nm2 sk2) := by
  refine CT.of rfl (Nat.le_of_ble_eq_true rfl) ?_
  show PW l SC RX7 cX7_amiss 8 (some .long) 6 _ 0 [(0, .ref 0), (1, .int s), (2, .int h)] [] (sc (wr μ 22 V) nm sk)
  have hw : isW 22 := Or.inl rfl
  refine pw_aload_n dX7_amiss_0 rfl rfl ?_
  refine pw_iload_n dX7_amiss_1 rfl rfl ?_
  refine pw_iload_n dX7_amiss_2 rfl rfl ?_
  refine pw_cVi dX7_amiss_3 mv_X7_260 ckMain T_X7_refusedJudging rfl rfl (Nat.le_of_ble_eq_true rfl) (by decide) (fun x_3 m_3 h_3 => ?_)
  obtain ⟨rfl, rfl⟩ := h_3
  refine pw_if_eq (tgt := 13) dX7_amiss_6 (by decide) (fun c_6 => ?_) (fun c_6 => ?_)
  · skip
    have hr0 : rjF (μ.1 19) (μ.1 20) V s h = 0 := c_6
    obtain ⟨hr1, hhr⟩ := rj_0 hr0
    obtain ⟨s, hs4, rfl, hso, hsz⟩ := rs_0 hr1
    rw [h1] at hsz
    obtain ⟨h, hlh, hsh, rfl⟩ := hr_of h5 hh6 hhr
    refine pw_lconst dX7_amiss_13 rfl ?_
    refine pw_lstore_n (ls2 := [(3, _), (0, _), (1, _), (2, _)]) dX7_amiss_14 rfl (by decide) rfl ?_
    refine pw_iconst (v := 0) dX7_amiss_15 rfl ?_
    refine pw_istore (ls2 := [(5, _), (3, _), (0, _), (1, _), (2, _)]) dX7_amiss_16 (by decide) rfl ?_
    have L_18 : ∀ (fu_18 : Nat) (j : Nat) (x : Int64) (nm sk : Nat → Int32), (j ≤ nj) → (amL (bk μ) V (μ.1 21) s h (nj - j) j x = amL (bk μ) V (μ.1 21) s h nj 0 0) → nj - j < fu_18 → PW l SC RX7 cX7_amiss 8 (some .long) 6 (QL fun x m => x = amissF (bk μ) V (μ.1 19) (μ.1 20) (μ.1 21) nj (nI s) (nI h) ∧ ∃ nm2 sk2, m = sc (wr μ 22 V) nm2 sk2) 18 [(0, .ref 0), (1, .int (nI s)), (2, .int (nI h)), (3, .long x), (5, .int (nI j))] [] (sc (wr μ 22 V) nm sk) := by
      intro fu_18
      induction fu_18 with
      | zero =>
        intro j x nm sk hj hx hm_18
        exact absurd hm_18 (Nat.not_lt_zero _)
      | succ fu_18 ih_18 =>
        intro j x nm sk hj hx hm_18
        refine pw_iload dX7_amiss_18 rfl ?_
        refine pw_aload_n dX7_amiss_20 rfl rfl ?_
        refine pw_getR dX7_amiss_21 fa_X7_28 rfl ?_
        refine pw_getI dX7_amiss_24 fa_X7_99 rfl ?_
        refine pw_top (y := nI nj) (by rw [rdw0 hw]; exact h1) ?_
        refine pw_icmp_ge (tgt := 100) dX7_amiss_27 (by decide) (fun c_27 => ?_) (fun c_27 => ?_)
        · skip
          have hge := nI_geD (by omega) c_27
          refine pw_lload_n dX7_amiss_100 rfl rfl ?_
          refine pw_lret dX7_amiss_101 rfl ?_
          have e0 : nj - j = 0 := by omega
          rw [e0] at hx
          change x = _ at hx
          exact ⟨by unfold amissF; rw [if_pos hr0, cl_nI (show s < 2 ^ 31 by omega), cl_nI (show h < 2 ^ 31 by omega), hx], _, _, rfl⟩
        · skip
          have hlt := nI_ltD (by omega) c_27
          refine pw_aload_n dX7_amiss_30 rfl rfl ?_
          refine pw_getR dX7_amiss_31 fa_X7_61 rfl ?_
          refine pw_iload_n dX7_amiss_34 rfl rfl ?_
          refine pw_iload dX7_amiss_35 rfl ?_
          refine pw_cVi dX7_amiss_37 mv_X7_282 ckSheets (T_X5_number (s := s) (sz := nj) hs4 (by rw [rd_sc (by decide) (by decide), rd_wrO (by omega)]; exact hsz) (by omega)) rfl rfl (Nat.le_of_ble_eq_true rfl) (by decide) (fun x_37 m_37 h_37 => ?_)
          obtain ⟨rfl, rfl⟩ := h_37
          refine pw_top (y := μ.1 21 (40 * s + j)) (by rw [rd_sc (by decide) (by decide), rd_wrO (by omega)]; unfold numF; rw [in_t hlt (by omega), if_pos rfl, nI_clamp (by omega)]) ?_
          refine pw_i2l dX7_amiss_40 ?_
          refine pw_aload_n dX7_amiss_41 rfl rfl ?_
          refine pw_getR dX7_amiss_42 fa_X7_28 rfl ?_
          refine pw_iload dX7_amiss_45 rfl ?_
          refine pw_iload_n dX7_amiss_47 rfl rfl ?_
          refine pw_cVi dX7_amiss_48 mv_X7_181 ckNow (T_X6_worth (j := j) (h := h) hw hc (by omega) hsh) rfl rfl (Nat.le_of_ble_eq_true rfl) (by decide) (fun x_48 m_48 h_48 => ?_)
          obtain ⟨rfl, nm1, sk1, rfl⟩ := h_48
          refine pw_i2l dX7_amiss_51 ?_
          refine pw_lsub dX7_amiss_52 ?_
          refine pw_lstore (ls2 := [(6, _), (0, _), (1, _), (2, _), (3, _), (5, _)]) dX7_amiss_53 (by decide) rfl ?_
          refine pw_lload_n dX7_amiss_55 rfl rfl ?_
          refine pw_lload dX7_amiss_56 rfl ?_
          refine pw_labs dX7_amiss_58 lnk_X7_285 (by decide) (Nat.le_of_ble_eq_true rfl) ?_
          refine pw_aload_n dX7_amiss_61 rfl rfl ?_
          refine pw_getR dX7_amiss_62 fa_X7_28 rfl ?_
          refine pw_iconst (v := 2) dX7_amiss_65 rfl ?_
          refine pw_aload_n dX7_amiss_66 rfl rfl ?_
          refine pw_getR dX7_amiss_67 fa_X7_28 rfl ?_
          refine pw_getR dX7_amiss_70 fa_X7_147 rfl ?_
          refine pw_iload dX7_amiss_73 rfl ?_
          refine pw_iald (j := j) dX7_amiss_75 rfl rfl (by omega) ?_
          refine pw_top (y := V 3 j) (by rw [rdw (w := 22) (r := 3) hw (by decide)] <;> rfl) ?_
          refine pw_iload_n dX7_amiss_76 rfl rfl ?_
          refine pw_aload_n dX7_amiss_77 rfl rfl ?_
          refine pw_getR dX7_amiss_78 fa_X7_28 rfl ?_
          refine pw_getR dX7_amiss_81 fa_X7_144 rfl ?_
          refine pw_iload dX7_amiss_84 rfl ?_
          refine pw_iald (j := j) dX7_amiss_86 rfl rfl (by omega) ?_
          refine pw_top (y := V 2 j) (by rw [rdw (w := 22) (r := 2) hw (by decide)] <;> rfl) ?_
          refine pw_cVi dX7_amiss_87 mv_X7_130 ckNow (T_X6_says (p := 2) (h := h) hw hc (by decide) hsh) rfl rfl (Nat.le_of_ble_eq_true rfl) (by decide) (fun x_87 m_87 h_87 => ?_)
          obtain ⟨rfl, nm2, sk2, rfl⟩ := h_87
          refine pw_i2l dX7_amiss_90 ?_
          refine pw_lmul dX7_amiss_91 ?_
          refine pw_ladd dX7_amiss_92 ?_
          refine pw_lstore_n (ls2 := [(3, _), (6, _), (0, _), (1, _), (2, _), (5, _)]) dX7_amiss_93 rfl (by decide) rfl ?_
          refine pw_iinc (ls2 := [(5, _), (3, _), (6, _), (0, _), (1, _), (2, _)]) (v := nI (j + 1)) dX7_amiss_94 rfl (inc1 j) (by decide) rfl ?_
          refine pw_goto (tgt := 18) dX7_amiss_97 (by decide) ?_
          refine pw_sub [3, 4, 5, 1, 0] rfl ?_
          exact ih_18 (j + 1) _ nm2 sk2 hlt (by rw [← hx, show nj - j = (nj - (j + 1)) + 1 by omega]; rfl) (by omega)
    refine pw_sub [2, 3, 4, 1, 0] rfl ?_
    exact L_18 (nj + 1) 0 0 nm sk (Nat.zero_le _) rfl (by omega)
  · skip
    refine pw_ldc2 dX7_amiss_9 k_X7_245 ?_
    refine pw_lret dX7_amiss_12 rfl ?_
    exact ⟨by unfold amissF; rw [if_neg c_6]; rfl, _, _, rfl⟩

