def cl (v : Int32) : Nat := v.toNatClampNeg
theorem cl_nI {n : Nat} (h : n < 2 ^ 31) : cl (nI n) = n := nI_clamp h
theorem w22 : isW 22 := Or.inl rfl
theorem w32 : isW 32 := Or.inr (Or.inl rfl)
theorem w42 : isW 42 := Or.inr (Or.inr rfl)
def jkF (V : VW) (j : Int32) : Bool := inF j 0 (V 0 1 - 1)
def hrF (V : VW) (h : Int32) : Bool := inF h 0 (V 0 5 - 1)
def countF (V : VW) (bs rs what : Int32) : Int32 := if what = 0 then V 0 1 else if what = 1 then V 0 5 else if what = 2 then V 0 12 else if what = 3 then bs else if what = 4 then V 0 13 else if what = 5 then rs else -2
def asksF (B : BK) (V : VW) (p t h m : Int32) : Int32 := if inF p 0 2 && (inF t 0 99 && (hrF V h && inF m 0 9)) then saysF B V (cl p) t m (cl h) else -2
def toldF (V : VW) (j what : Int32) : Int32 := if jkF V j then (if what = 0 then V 1 (cl j) else if what = 1 then V 2 (cl j) else if what = 2 then V 3 (cl j) else if what = 3 then onF (V 1 (cl j)) (V 2 (cl j)) else -7) else -5
def heX (V : VW) (n : Nat) (fu fr : Int32) : Int32 := if inF fu 0 9 && inF fr 1 9 then (if n < 6 then nI n else -4) else -2
def heV (V : VW) (n : Nat) (fu fr : Int32) : VW := if inF fu 0 9 && inF fr 1 9 then (if n < 6 then addHV V n fu fr else V) else V
def mayF (V : VW) (h : Nat) (what v : Int32) : Bool := if what = 0 then inF v 0 9 else if what = 1 then inF v 0 9999 else if what = 2 then (inF v 0 (((1 : Int32) <<< (V 0 5 &&& 31)) - 1) && !(bitF v h)) else if what = 3 then inF v 0 (((1 : Int32) <<< (V 0 1 &&& 31)) - 1) else if what = 4 then inF v 1 9 else false
def trF (V : VW) (h : Nat) (what : Int32) : Int32 := if what = 0 then V 4 h else if what = 1 then V 5 h else if what = 2 then V 6 h else if what = 3 then V 7 h else V 8 h
def beV (V : VW) (h : Nat) (what v : Int32) : VW := if what = 0 then vu V 4 h v else if what = 1 then vu V 5 h v else if what = 2 then vu V 6 h v else if what = 3 then vu V 7 h v else vu V 8 h v
def setX (V : VW) (h what v : Int32) : Int32 := if hrF V h then (if mayF V (cl h) what v then trF V (cl h) what else -7) else -5
def setV (V : VW) (h what v : Int32) : VW := if hrF V h then (if mayF V (cl h) what v then beV V (cl h) what v else V) else V
def ofF (V : VW) (h what : Int32) : Int32 := if hrF V h then (if inF what 0 4 then trF V (cl h) what else -7) else -5
def refT (V : VW) (j h : Int32) : Int32 := if jkF V j then (if hrF V h then 0 else -6) else -5
def yieldsF (B : BK) (V : VW) (j h : Int32) : Int32 := if refT V j h = 0 then yF B V (cl j) (cl h) else refT V j h
def tellVV (B : BK) (V : VW) (j h : Int32) : VW := if refT V j h = 0 then tellV B V (cl j) (cl h) else V
def payV (V : VW) (a b : Nat) (v : Int32) : VW := vu (vu V 5 a (V 5 a - v)) 5 b (V 5 b + v)
def payOK (V : VW) (h o : Int32) : Bool := hrF V h && (hrF V o && !(decide (h = o)))
def payX (V : VW) (h o v : Int32) : Int32 := if payOK V h o then (if inF v 0 9999 then (if V 5 (cl h) < v then -3 else if 9999 < V 5 (cl o) + v then -4 else V 5 (cl h) - v) else -7) else -5
def payS (V : VW) (h o v : Int32) : VW := if payOK V h o then (if inF v 0 9999 then (if V 5 (cl h) < v then V else if 9999 < V 5 (cl o) + v then V else payV V (cl h) (cl o) v) else V) else V
def fadesF (B : BK) (V : VW) (h : Int32) : Int32 := if hrF V h then fadeF B V (cl h) else -5
def ngV (B : BK) : Nat → Nat → VW → VW
  | 0, _, V => V
  | m + 1, h, V => ngV B m (h + 1) (vu V 5 h (V 5 h - fadeF B V h))
def ngX (B : BK) : Nat → Nat → VW → Int32 → Int32
  | 0, _, _, s => s
  | m + 1, h, V, s => ngX B m (h + 1) (vu V 5 h (V 5 h - fadeF B V h)) (s + fadeF B V h)
def dayV (V : VW) : VW := vu V 0 12 (V 0 12 + 1)
def nightX (B : BK) (V : VW) (n : Nat) : Int32 := if V 0 12 < 99 then ngX B n 0 V 0 else -4
def nightV (B : BK) (V : VW) (n : Nat) : VW := if V 0 12 < 99 then dayV (ngV B n 0 V) else V
theorem hr_of {V : VW} {h : Int32} {n : Nat} (hn : V 0 5 = nI n) (hl : n ≤ 6) (hb : inF h 0 (V 0 5 - 1) = true) : ∃ k, k < n ∧ k < 6 ∧ h = nI k := by
  rw [hn] at hb
  obtain ⟨k, hk, e⟩ := in_true hb (by omega)
  exact ⟨k, hk, by omega, e⟩
theorem jk_of {V : VW} {h : Int32} {n : Nat} (hn : V 0 1 = nI n) (hl : n ≤ 5) (hb : inF h 0 (V 0 1 - 1) = true) : ∃ k, k < n ∧ k < 5 ∧ h = nI k := by
  rw [hn] at hb
  obtain ⟨k, hk, e⟩ := in_true hb (by omega)
  exact ⟨k, hk, by omega, e⟩
set_option maxHeartbeats 4000000 in
set_option maxRecDepth 100000 in
theorem T_X7_count {l : Launch} {μ : PM} {V : VW} {nm sk : Nat → Int32} {what : Int32} : CT l SC yX7_count cX7_count 2 (some .int) 1 [.ref 0, .int what] (sc (wr μ 22 V) nm sk) (QI fun x m => x = countF V (μ.1 1 0) (μ.1 6 0) what ∧ m = sc (wr μ 22 V) nm sk) := by
  refine CT.of rfl (Nat.le_of_ble_eq_true rfl) ?_
  show PW l SC RX7 cX7_count 2 (some .int) 1 _ 0 [(0, .ref 0), (1, .int what)] [] (sc (wr μ 22 V) nm sk)
  have hw : isW 22 := Or.inl rfl
  refine pw_iload_n dX7_count_0 rfl rfl ?_
  by_cases q_1_0 : what = 0
  · skip
    refine pw_tsIn (v := 0) (tgt := 40) dX7_count_1 q_1_0 (by decide) (by decide) rfl (by decide) ?_
    refine pw_aload_n dX7_count_40 rfl rfl ?_
    refine pw_getR dX7_count_41 fa_X7_28 rfl ?_
    refine pw_getI dX7_count_44 fa_X7_99 rfl ?_
    refine pw_top (y := V 0 1) (by rw [rdw0 hw] <;> rfl) ?_
    refine pw_iret dX7_count_47 rfl ?_
    exact ⟨by unfold countF; simp_all, rfl⟩
  by_cases q_1_1 : what = 1
  · skip
    refine pw_tsIn (v := 1) (tgt := 48) dX7_count_1 q_1_1 (by decide) (by decide) rfl (by decide) ?_
    refine pw_aload_n dX7_count_48 rfl rfl ?_
    refine pw_getR dX7_count_49 fa_X7_28 rfl ?_
    refine pw_getI dX7_count_52 fa_X7_103 rfl ?_
    refine pw_top (y := V 0 5) (by rw [rdw0 hw] <;> rfl) ?_
    refine pw_iret dX7_count_55 rfl ?_
    exact ⟨by unfold countF; simp_all, rfl⟩
  by_cases q_1_2 : what = 2
  · skip
    refine pw_tsIn (v := 2) (tgt := 56) dX7_count_1 q_1_2 (by decide) (by decide) rfl (by decide) ?_
    refine pw_aload_n dX7_count_56 rfl rfl ?_
    refine pw_getR dX7_count_57 fa_X7_28 rfl ?_
    refine pw_getI dX7_count_60 fa_X7_106 rfl ?_
    refine pw_top (y := V 0 12) (by rw [rdw0 hw] <;> rfl) ?_
    refine pw_iret dX7_count_63 rfl ?_
    exact ⟨by unfold countF; simp_all, rfl⟩
  by_cases q_1_3 : what = 3
  · skip
    refine pw_tsIn (v := 3) (tgt := 64) dX7_count_1 q_1_3 (by decide) (by decide) rfl (by decide) ?_
    refine pw_aload_n dX7_count_64 rfl rfl ?_
    refine pw_getR dX7_count_65 fa_X7_10 rfl ?_
    refine pw_getI dX7_count_68 fa_X7_109 rfl ?_
    refine pw_top (y := μ.1 1 0) rfl ?_
    refine pw_iret dX7_count_71 rfl ?_
    exact ⟨by unfold countF; simp_all, rfl⟩
  by_cases q_1_4 : what = 4
  · skip
    refine pw_tsIn (v := 4) (tgt := 72) dX7_count_1 q_1_4 (by decide) (by decide) rfl (by decide) ?_
    refine pw_aload_n dX7_count_72 rfl rfl ?_
    refine pw_getR dX7_count_73 fa_X7_28 rfl ?_
    refine pw_getI dX7_count_76 fa_X7_112 rfl ?_
    refine pw_top (y := V 0 13) (by rw [rdw0 hw] <;> rfl) ?_
    refine pw_iret dX7_count_79 rfl ?_
    exact ⟨by unfold countF; simp_all, rfl⟩
  by_cases q_1_5 : what = 5
  · skip
    refine pw_tsIn (v := 5) (tgt := 80) dX7_count_1 q_1_5 (by decide) (by decide) rfl (by decide) ?_
    refine pw_aload_n dX7_count_80 rfl rfl ?_
    refine pw_getR dX7_count_81 fa_X7_19 rfl ?_
    refine pw_getI dX7_count_84 fa_X7_115 rfl ?_
    refine pw_top (y := μ.1 6 0) rfl ?_
    refine pw_iret dX7_count_87 rfl ?_
    exact ⟨by unfold countF; simp_all, rfl⟩
  have zq_1_0 := lv_neT q_1_0 (a := 0) rfl
  have zq_1_1 := lv_neT q_1_1 (a := 1) rfl
  have zq_1_2 := lv_neT q_1_2 (a := 2) rfl
  have zq_1_3 := lv_neT q_1_3 (a := 3) rfl
  have zq_1_4 := lv_neT q_1_4 (a := 4) rfl
  have zq_1_5 := lv_neT q_1_5 (a := 5) rfl
  refine pw_tsOut (tgt := 88) dX7_count_1 (by omega) (by decide) ?_
  refine pw_bipush (v := (-2)) dX7_count_88 rfl ?_
  refine pw_iret dX7_count_90 rfl ?_
  exact ⟨by unfold countF; simp_all, rfl⟩

set_option maxHeartbeats 4000000 in
set_option maxRecDepth 100000 in
theorem T_X7_force {l : Launch} {μ : PM} {V : VW} {nm sk : Nat → Int32} {n : Nat} {t : Int32} (hn : μ.1 1 0 = nI n) : CT l SC yX7_force cX7_force 3 (some .int) 2 [.ref 0, .int t] (sc (wr μ 22 V) nm sk) (QI fun x m => x = (if inF t 0 (nI n - 1) then V 0 13 else -2) ∧ m = sc (wr μ 22 (if inF t 0 (nI n - 1) then vu V 0 13 t else V)) nm sk) := by
  refine CT.of rfl (Nat.le_of_ble_eq_true rfl) ?_
  show PW l SC RX7 cX7_force 3 (some .int) 2 _ 0 [(0, .ref 0), (1, .int t)] [] (sc (wr μ 22 V) nm sk)
  have hw : isW 22 := Or.inl rfl
  refine pw_iload_n dX7_force_0 rfl rfl ?_
  refine pw_iconst (v := 0) dX7_force_1 rfl ?_
  refine pw_aload_n dX7_force_2 rfl rfl ?_
  refine pw_getR dX7_force_3 fa_X7_10 rfl ?_
  refine pw_getI dX7_force_6 fa_X7_109 rfl ?_
  refine pw_top (y := nI n) hn ?_
  refine pw_iconst (v := 1) dX7_force_9 rfl ?_
  refine pw_isub dX7_force_10 ?_
  refine pw_cSi dX7_force_11 ms_X7_116 T_X7_within rfl rfl (Nat.le_of_ble_eq_true rfl) (by decide) (fun x_11 m_11 h_11 => ?_)
  obtain ⟨rfl, rfl⟩ := h_11
  refine pw_if_ne (tgt := 20) dX7_force_14 (by decide) (fun c_14 => ?_) (fun c_14 => ?_)
  · skip
    have hb_14 := b2_n c_14
    refine pw_aload_n dX7_force_20 rfl rfl ?_
    refine pw_getR dX7_force_21 fa_X7_28 rfl ?_
    refine pw_getI dX7_force_24 fa_X7_112 rfl ?_
    refine pw_top (y := V 0 13) (by rw [rdw0 hw] <;> rfl) ?_
    refine pw_istore_n (ls2 := [(2, _), (0, _), (1, _)]) dX7_force_27 rfl (by decide) rfl ?_
    refine pw_aload_n dX7_force_28 rfl rfl ?_
    refine pw_getR dX7_force_29 fa_X7_28 rfl ?_
    refine pw_iload_n dX7_force_32 rfl rfl ?_
    refine pw_putI dX7_force_33 fa_X7_112 rfl ?_
    refine pw_mem (siw0 hw) ?_
    refine pw_iload_n dX7_force_36 rfl rfl ?_
    refine pw_iret dX7_force_37 rfl ?_
    exact ⟨by rw [if_pos hb_14], by rw [if_pos hb_14]⟩
  · skip
    have hb_14 := b2_0 c_14
    refine pw_bipush (v := (-2)) dX7_force_17 rfl ?_
    refine pw_iret dX7_force_19 rfl ?_
    exact ⟨by rw [hb_14]; rfl, by rw [hb_14]; rfl⟩

set_option maxHeartbeats 4000000 in
set_option maxRecDepth 100000 in
theorem T_X7_asks {l : Launch} {μ : PM} {V : VW} {nm sk : Nat → Int32} {nh : Nat} {p t h mo : Int32} (hc : okC μ V) (h5 : V 0 5 = nI nh) (hh6 : nh ≤ 6) : CT l SC yX7_asks cX7_asks 5 (some .int) 5 [.ref 0, .int p, .int t, .int h, .int mo] (sc (wr μ 22 V) nm sk) (QI fun x m => x = asksF (bk μ) V p t h mo ∧ ∃ nm2 sk2, m = sc (wr μ 22 (V)) nm2 sk2) := by
  refine CT.of rfl (Nat.le_of_ble_eq_true rfl) ?_
  show PW l SC RX7 cX7_asks 5 (some .int) 5 _ 0 [(0, .ref 0), (1, .int p), (2, .int t), (3, .int h), (4, .int mo)] [] (sc (wr μ 22 V) nm sk)
  have hw : isW 22 := Or.inl rfl
  refine pw_iload_n dX7_asks_0 rfl rfl ?_
  refine pw_iconst (v := 0) dX7_asks_1 rfl ?_
  refine pw_iconst (v := 2) dX7_asks_2 rfl ?_
  refine pw_cSi dX7_asks_3 ms_X7_116 T_X7_within rfl rfl (Nat.le_of_ble_eq_true rfl) (by decide) (fun x_3 m_3 h_3 => ?_)
  obtain ⟨rfl, rfl⟩ := h_3
  refine pw_if_eq (tgt := 41) dX7_asks_6 (by decide) (fun c_6 => ?_) (fun c_6 => ?_)
  · skip
    have hb_6 := b2_0 c_6
    refine pw_bipush (v := (-2)) dX7_asks_41 rfl ?_
    refine pw_iret dX7_asks_43 rfl ?_
    exact ⟨by simp only [asksF, hrF, hb_6, Bool.false_eq_true, if_false, if_true, Bool.and_true, Bool.and_false, Bool.true_and, Bool.false_and, Bool.or_true, Bool.or_false, Bool.true_or, Bool.false_or], _, _, rfl⟩
  · skip
    have hb_6 := b2_n c_6
    refine pw_iload_n dX7_asks_9 rfl rfl ?_
    refine pw_iconst (v := 0) dX7_asks_10 rfl ?_
    refine pw_bipush (v := 99) dX7_asks_11 rfl ?_
    refine pw_cSi dX7_asks_13 ms_X7_116 T_X7_within rfl rfl (Nat.le_of_ble_eq_true rfl) (by decide) (fun x_13 m_13 h_13 => ?_)
    obtain ⟨rfl, rfl⟩ := h_13
    refine pw_if_eq (tgt := 41) dX7_asks_16 (by decide) (fun c_16 => ?_) (fun c_16 => ?_)
    · skip
      have hb_16 := b2_0 c_16
      refine pw_bipush (v := (-2)) dX7_asks_41 rfl ?_
      refine pw_iret dX7_asks_43 rfl ?_
      exact ⟨by simp only [asksF, hrF, hb_6, hb_16, Bool.false_eq_true, if_false, if_true, Bool.and_true, Bool.and_false, Bool.true_and, Bool.false_and, Bool.or_true, Bool.or_false, Bool.true_or, Bool.false_or], _, _, rfl⟩
    · skip
      have hb_16 := b2_n c_16
      refine pw_aload_n dX7_asks_19 rfl rfl ?_
      refine pw_getR dX7_asks_20 fa_X7_28 rfl ?_
      refine pw_iload_n dX7_asks_23 rfl rfl ?_
      refine pw_cVi dX7_asks_24 mv_X7_127 ckNow (T_X6_hasHearer hw) rfl rfl (Nat.le_of_ble_eq_true rfl) (by decide) (fun x_24 m_24 h_24 => ?_)
      obtain ⟨rfl, rfl⟩ := h_24
      refine pw_if_eq (tgt := 41) dX7_asks_27 (by decide) (fun c_27 => ?_) (fun c_27 => ?_)
      · skip
        have hb_27 := b2_0 c_27
        refine pw_bipush (v := (-2)) dX7_asks_41 rfl ?_
        refine pw_iret dX7_asks_43 rfl ?_
        exact ⟨by simp only [asksF, hrF, hb_6, hb_16, hb_27, Bool.false_eq_true, if_false, if_true, Bool.and_true, Bool.and_false, Bool.true_and, Bool.false_and, Bool.or_true, Bool.or_false, Bool.true_or, Bool.false_or], _, _, rfl⟩
      · skip
        have hb_27 := b2_n c_27
        refine pw_iload dX7_asks_30 rfl ?_
        refine pw_iconst (v := 0) dX7_asks_32 rfl ?_
        refine pw_bipush (v := 9) dX7_asks_33 rfl ?_
        refine pw_cSi dX7_asks_35 ms_X7_116 T_X7_within rfl rfl (Nat.le_of_ble_eq_true rfl) (by decide) (fun x_35 m_35 h_35 => ?_)
        obtain ⟨rfl, rfl⟩ := h_35
        refine pw_if_ne (tgt := 44) dX7_asks_38 (by decide) (fun c_38 => ?_) (fun c_38 => ?_)
        · skip
          have hb_38 := b2_n c_38
          refine pw_aload_n dX7_asks_44 rfl rfl ?_
          refine pw_getR dX7_asks_45 fa_X7_28 rfl ?_
          refine pw_iload_n dX7_asks_48 rfl rfl ?_
          refine pw_iload_n dX7_asks_49 rfl rfl ?_
          refine pw_iload_n dX7_asks_50 rfl rfl ?_
          refine pw_iload dX7_asks_51 rfl ?_
          obtain ⟨p, hp, rfl⟩ := in_trueL (n := 2) hb_6 (by decide)
          obtain ⟨h, hlh, hsh, rfl⟩ := hr_of h5 hh6 hb_27
          refine pw_cVi dX7_asks_53 mv_X7_130 ckNow (T_X6_says (p := p) (h := h) hw hc (by omega) (by omega)) rfl rfl (Nat.le_of_ble_eq_true rfl) (by decide) (fun x_53 m_53 h_53 => ?_)
          obtain ⟨rfl, nm1, sk1, rfl⟩ := h_53
          refine pw_iret dX7_asks_56 rfl ?_
          exact ⟨by unfold asksF hrF; rw [show inF (nI p) 0 2 = true from hb_6, hb_16, hb_27, hb_38, cl_nI (by omega), cl_nI (by omega)]; rfl, _, _, rfl⟩
        · skip
          have hb_38 := b2_0 c_38
          refine pw_bipush (v := (-2)) dX7_asks_41 rfl ?_
          refine pw_iret dX7_asks_43 rfl ?_
          exact ⟨by simp only [asksF, hrF, hb_6, hb_16, hb_27, hb_38, Bool.false_eq_true, if_false, if_true, Bool.and_true, Bool.and_false, Bool.true_and, Bool.false_and, Bool.or_true, Bool.or_false, Bool.true_or, Bool.false_or], _, _, rfl⟩

set_option maxHeartbeats 4000000 in
set_option maxRecDepth 100000 in
theorem T_X7_joke {l : Launch} {μ : PM} {V : VW} {nm sk : Nat → Int32} {nj : Nat} {k0 mo : Int32} (h1 : V 0 1 = nI nj) (hj5 : nj ≤ 5) : CT l SC yX7_joke cX7_joke 3 (some .int) 3 [.ref 0, .int k0, .int mo] (sc (wr μ 22 V) nm sk) (QI fun x m => x = aJx nj k0 mo ∧ m = sc (wr μ 22 (aJV V nj k0 mo)) nm sk) := by
  refine CT.of rfl (Nat.le_of_ble_eq_true rfl) ?_
  show PW l SC RX7 cX7_joke 3 (some .int) 3 _ 0 [(0, .ref 0), (1, .int k0), (2, .int mo)] [] (sc (wr μ 22 V) nm sk)
  have hw : isW 22 := Or.inl rfl
  refine pw_aload_n dX7_joke_0 rfl rfl ?_
  refine pw_getR dX7_joke_1 fa_X7_28 rfl ?_
  refine pw_iload_n dX7_joke_4 rfl rfl ?_
  refine pw_iload_n dX7_joke_5 rfl rfl ?_
  refine pw_cVi dX7_joke_6 mv_X7_134 ckNow (T_X6_addJoke hw h1 hj5) rfl rfl (Nat.le_of_ble_eq_true rfl) (by decide) (fun x_6 m_6 h_6 => ?_)
  obtain ⟨rfl, rfl⟩ := h_6
  refine pw_iret dX7_joke_9 rfl ?_
  exact ⟨rfl, rfl⟩

set_option maxHeartbeats 4000000 in
set_option maxRecDepth 100000 in
theorem T_X7_told {l : Launch} {μ : PM} {V : VW} {nm sk : Nat → Int32} {nj : Nat} {j what : Int32} (h1 : V 0 1 = nI nj) (hj5 : nj ≤ 5) : CT l SC yX7_told cX7_told 3 (some .int) 3 [.ref 0, .int j, .int what] (sc (wr μ 22 V) nm sk) (QI fun x m => x = toldF V j what ∧ m = sc (wr μ 22 V) nm sk) := by
  refine CT.of rfl (Nat.le_of_ble_eq_true rfl) ?_
  show PW l SC RX7 cX7_told 3 (some .int) 3 _ 0 [(0, .ref 0), (1, .int j), (2, .int what)] [] (sc (wr μ 22 V) nm sk)
  have hw : isW 22 := Or.inl rfl
  refine pw_aload_n dX7_told_0 rfl rfl ?_
  refine pw_getR dX7_told_1 fa_X7_28 rfl ?_
  refine pw_iload_n dX7_told_4 rfl rfl ?_
  refine pw_cVi dX7_told_5 mv_X7_138 ckNow (T_X6_hasJoke hw) rfl rfl (Nat.le_of_ble_eq_true rfl) (by decide) (fun x_5 m_5 h_5 => ?_)
  obtain ⟨rfl, rfl⟩ := h_5
  refine pw_if_ne (tgt := 14) dX7_told_8 (by decide) (fun c_8 => ?_) (fun c_8 => ?_)
  · skip
    have hb_8 := b2_n c_8
    refine pw_iload_n dX7_told_14 rfl rfl ?_
    obtain ⟨j, hlj, hsj, rfl⟩ := jk_of h1 hj5 hb_8
    by_cases q_15_0 : what = 0
    · skip
      refine pw_tsIn (v := 0) (tgt := 44) dX7_told_15 q_15_0 (by decide) (by decide) rfl (by decide) ?_
      refine pw_aload_n dX7_told_44 rfl rfl ?_
      refine pw_getR dX7_told_45 fa_X7_28 rfl ?_
      refine pw_getR dX7_told_48 fa_X7_141 rfl ?_
      refine pw_iload_n dX7_told_51 rfl rfl ?_
      refine pw_iald (j := j) dX7_told_52 rfl rfl hsj ?_
      refine pw_top (y := V 1 j) (by rw [rdw (w := 22) (r := 1) hw (by decide)] <;> rfl) ?_
      refine pw_iret dX7_told_53 rfl ?_
      exact ⟨by unfold toldF jkF; rw [hb_8, if_pos rfl, cl_nI (by omega)]; simp_all, rfl⟩
    by_cases q_15_1 : what = 1
    · skip
      refine pw_tsIn (v := 1) (tgt := 54) dX7_told_15 q_15_1 (by decide) (by decide) rfl (by decide) ?_
      refine pw_aload_n dX7_told_54 rfl rfl ?_
      refine pw_getR dX7_told_55 fa_X7_28 rfl ?_
      refine pw_getR dX7_told_58 fa_X7_144 rfl ?_
      refine pw_iload_n dX7_told_61 rfl rfl ?_
      refine pw_iald (j := j) dX7_told_62 rfl rfl hsj ?_
      refine pw_top (y := V 2 j) (by rw [rdw (w := 22) (r := 2) hw (by decide)] <;> rfl) ?_
      refine pw_iret dX7_told_63 rfl ?_
      exact ⟨by unfold toldF jkF; rw [hb_8, if_pos rfl, cl_nI (by omega)]; simp_all, rfl⟩
    by_cases q_15_2 : what = 2
    · skip
      refine pw_tsIn (v := 2) (tgt := 64) dX7_told_15 q_15_2 (by decide) (by decide) rfl (by decide) ?_
      refine pw_aload_n dX7_told_64 rfl rfl ?_
      refine pw_getR dX7_told_65 fa_X7_28 rfl ?_
      refine pw_getR dX7_told_68 fa_X7_147 rfl ?_
      refine pw_iload_n dX7_told_71 rfl rfl ?_
      refine pw_iald (j := j) dX7_told_72 rfl rfl hsj ?_
      refine pw_top (y := V 3 j) (by rw [rdw (w := 22) (r := 3) hw (by decide)] <;> rfl) ?_
      refine pw_iret dX7_told_73 rfl ?_
      exact ⟨by unfold toldF jkF; rw [hb_8, if_pos rfl, cl_nI (by omega)]; simp_all, rfl⟩
    by_cases q_15_3 : what = 3
    · skip
      refine pw_tsIn (v := 3) (tgt := 74) dX7_told_15 q_15_3 (by decide) (by decide) rfl (by decide) ?_
      refine pw_aload_n dX7_told_74 rfl rfl ?_
      refine pw_getR dX7_told_75 fa_X7_28 rfl ?_
      refine pw_getR dX7_told_78 fa_X7_141 rfl ?_
      refine pw_iload_n dX7_told_81 rfl rfl ?_
      refine pw_iald (j := j) dX7_told_82 rfl rfl hsj ?_
      refine pw_top (y := V 1 j) (by rw [rdw (w := 22) (r := 1) hw (by decide)] <;> rfl) ?_
      refine pw_aload_n dX7_told_83 rfl rfl ?_
      refine pw_getR dX7_told_84 fa_X7_28 rfl ?_
      refine pw_getR dX7_told_87 fa_X7_144 rfl ?_
      refine pw_iload_n dX7_told_90 rfl rfl ?_
      refine pw_iald (j := j) dX7_told_91 rfl rfl hsj ?_
      refine pw_top (y := V 2 j) (by rw [rdw (w := 22) (r := 2) hw (by decide)] <;> rfl) ?_
      refine pw_cSi dX7_told_92 ms_X7_150 T_X0_tellsOn rfl rfl (Nat.le_of_ble_eq_true rfl) (by decide) (fun x_92 m_92 h_92 => ?_)
      obtain ⟨rfl, rfl⟩ := h_92
      refine pw_iret dX7_told_95 rfl ?_
      exact ⟨by unfold toldF jkF; rw [hb_8, if_pos rfl, cl_nI (by omega)]; simp_all, rfl⟩
    have zq_15_0 := lv_neT q_15_0 (a := 0) rfl
    have zq_15_1 := lv_neT q_15_1 (a := 1) rfl
    have zq_15_2 := lv_neT q_15_2 (a := 2) rfl
    have zq_15_3 := lv_neT q_15_3 (a := 3) rfl
    refine pw_tsOut (tgt := 96) dX7_told_15 (by omega) (by decide) ?_
    refine pw_bipush (v := (-7)) dX7_told_96 rfl ?_
    refine pw_iret dX7_told_98 rfl ?_
    exact ⟨by unfold toldF jkF; rw [hb_8, if_pos rfl, cl_nI (by omega)]; simp_all, rfl⟩
  · skip
    have hb_8 := b2_0 c_8
    refine pw_bipush (v := (-5)) dX7_told_11 rfl ?_
    refine pw_iret dX7_told_13 rfl ?_
    exact ⟨by unfold toldF jkF; rw [hb_8]; rfl, rfl⟩

set_option maxHeartbeats 4000000 in
set_option maxRecDepth 100000 in
theorem T_X7_hearer {l : Launch} {μ : PM} {V : VW} {nm sk : Nat → Int32} {nh : Nat} {fu fr : Int32} (h5 : V 0 5 = nI nh) (hh6 : nh ≤ 6) : CT l SC yX7_hearer cX7_hearer 3 (some .int) 2 [.ref 0, .int fu, .int fr] (sc (wr μ 22 V) nm sk) (QI fun x m => x = heX V nh fu fr ∧ m = sc (wr μ 22 (heV V nh fu fr)) nm sk) := by
  refine CT.of rfl (Nat.le_of_ble_eq_true rfl) ?_
  show PW l SC RX7 cX7_hearer 3 (some .int) 2 _ 0 [(0, .ref 0), (1, .int fu), (2, .int fr)] [] (sc (wr μ 22 V) nm sk)
  have hw : isW 22 := Or.inl rfl
  refine pw_iload_n dX7_hearer_0 rfl rfl ?_
  refine pw_iconst (v := 0) dX7_hearer_1 rfl ?_
  refine pw_bipush (v := 9) dX7_hearer_2 rfl ?_
  refine pw_cSi dX7_hearer_4 ms_X7_116 T_X7_within rfl rfl (Nat.le_of_ble_eq_true rfl) (by decide) (fun x_4 m_4 h_4 => ?_)
  obtain ⟨rfl, rfl⟩ := h_4
  refine pw_if_eq (tgt := 20) dX7_hearer_7 (by decide) (fun c_7 => ?_) (fun c_7 => ?_)
  · skip
    have hb_7 := b2_0 c_7
    refine pw_bipush (v := (-2)) dX7_hearer_20 rfl ?_
    refine pw_iret dX7_hearer_22 rfl ?_
    exact ⟨by unfold heX; rw [hb_7]; rfl, by unfold heV; rw [hb_7]; rfl⟩
  · skip
    have hb_7 := b2_n c_7
    refine pw_iload_n dX7_hearer_10 rfl rfl ?_
    refine pw_iconst (v := 1) dX7_hearer_11 rfl ?_
    refine pw_bipush (v := 9) dX7_hearer_12 rfl ?_
    refine pw_cSi dX7_hearer_14 ms_X7_116 T_X7_within rfl rfl (Nat.le_of_ble_eq_true rfl) (by decide) (fun x_14 m_14 h_14 => ?_)
    obtain ⟨rfl, rfl⟩ := h_14
    refine pw_if_ne (tgt := 23) dX7_hearer_17 (by decide) (fun c_17 => ?_) (fun c_17 => ?_)
    · skip
      have hb_17 := b2_n c_17
      refine pw_aload_n dX7_hearer_23 rfl rfl ?_
      refine pw_getR dX7_hearer_24 fa_X7_28 rfl ?_
      refine pw_getI dX7_hearer_27 fa_X7_103 rfl ?_
      refine pw_top (y := nI nh) (by rw [rdw0 hw]; exact h5) ?_
      refine pw_bipush (v := 6) dX7_hearer_30 rfl ?_
      refine pw_icmp_lt (tgt := 38) dX7_hearer_32 (by decide) (fun c_32 => ?_) (fun c_32 => ?_)
      · skip
        have hlt : nh < 6 := (nI_ltI (by omega) (by decide)).mp c_32
        refine pw_aload_n dX7_hearer_38 rfl rfl ?_
        refine pw_getR dX7_hearer_39 fa_X7_28 rfl ?_
        refine pw_iload_n dX7_hearer_42 rfl rfl ?_
        refine pw_iload_n dX7_hearer_43 rfl rfl ?_
        refine pw_cVi dX7_hearer_44 mv_X7_155 ckNow (T_X6_addHearer hw h5 hlt) rfl rfl (Nat.le_of_ble_eq_true rfl) (by decide) (fun x_44 m_44 h_44 => ?_)
        obtain ⟨rfl, rfl⟩ := h_44
        refine pw_iret dX7_hearer_47 rfl ?_
        exact ⟨by unfold heX; rw [hb_7, hb_17, Bool.and_self, if_pos rfl, if_pos hlt], by unfold heV; rw [hb_7, hb_17, Bool.and_self, if_pos rfl, if_pos hlt]⟩
      · skip
        have hge : ¬ nh < 6 := fun h => c_32 (nI_lt h (by decide))
        refine pw_bipush (v := (-4)) dX7_hearer_35 rfl ?_
        refine pw_iret dX7_hearer_37 rfl ?_
        exact ⟨by unfold heX; rw [hb_7, hb_17, Bool.and_self, if_pos rfl, if_neg hge], by unfold heV; rw [hb_7, hb_17, Bool.and_self, if_pos rfl, if_neg hge]⟩
    · skip
      have hb_17 := b2_0 c_17
      refine pw_bipush (v := (-2)) dX7_hearer_20 rfl ?_
      refine pw_iret dX7_hearer_22 rfl ?_
      exact ⟨by unfold heX; rw [hb_7, hb_17]; rfl, by unfold heV; rw [hb_7, hb_17]; rfl⟩

set_option maxHeartbeats 4000000 in
set_option maxRecDepth 100000 in
theorem T_X7_mayBecome {l : Launch} {μ : PM} {V : VW} {nm sk : Nat → Int32} {h : Nat} {what v : Int32} (hh : h < 6) : CT l SC yX7_mayBecome cX7_mayBecome 4 (some .boolean) 3 [.ref 0, .int (nI h), .int what, .int v] (sc (wr μ 22 V) nm sk) (QI fun x m => x = b2 (mayF V h what v) ∧ m = sc (wr μ 22 V) nm sk) := by
  refine CT.of rfl (Nat.le_of_ble_eq_true rfl) ?_
  show PW l SC RX7 cX7_mayBecome 4 (some .boolean) 3 _ 0 [(0, .ref 0), (1, .int (nI h)), (2, .int what), (3, .int v)] [] (sc (wr μ 22 V) nm sk)
  have hw : isW 22 := Or.inl rfl
  refine pw_iload_n dX7_mayBecome_0 rfl rfl ?_
  by_cases q_1_0 : what = 0
  · skip
    refine pw_tsIn (v := 0) (tgt := 36) dX7_mayBecome_1 q_1_0 (by decide) (by decide) rfl (by decide) ?_
    refine pw_iload_n dX7_mayBecome_36 rfl rfl ?_
    refine pw_iconst (v := 0) dX7_mayBecome_37 rfl ?_
    refine pw_bipush (v := 9) dX7_mayBecome_38 rfl ?_
    refine pw_cSi dX7_mayBecome_40 ms_X7_116 T_X7_within rfl rfl (Nat.le_of_ble_eq_true rfl) (by decide) (fun x_40 m_40 h_40 => ?_)
    obtain ⟨rfl, rfl⟩ := h_40
    refine pw_zret dX7_mayBecome_43 rfl (b2_01 _) ?_
    exact ⟨by unfold mayF; simp_all [b2], rfl⟩
  by_cases q_1_1 : what = 1
  · skip
    refine pw_tsIn (v := 1) (tgt := 44) dX7_mayBecome_1 q_1_1 (by decide) (by decide) rfl (by decide) ?_
    refine pw_iload_n dX7_mayBecome_44 rfl rfl ?_
    refine pw_iconst (v := 0) dX7_mayBecome_45 rfl ?_
    refine pw_sipush (v := 9999) dX7_mayBecome_46 rfl ?_
    refine pw_cSi dX7_mayBecome_49 ms_X7_116 T_X7_within rfl rfl (Nat.le_of_ble_eq_true rfl) (by decide) (fun x_49 m_49 h_49 => ?_)
    obtain ⟨rfl, rfl⟩ := h_49
    refine pw_zret dX7_mayBecome_52 rfl (b2_01 _) ?_
    exact ⟨by unfold mayF; simp_all [b2], rfl⟩
  by_cases q_1_2 : what = 2
  · skip
    refine pw_tsIn (v := 2) (tgt := 53) dX7_mayBecome_1 q_1_2 (by decide) (by decide) rfl (by decide) ?_
    refine pw_aload_n dX7_mayBecome_53 rfl rfl ?_
    refine pw_getR dX7_mayBecome_54 fa_X7_28 rfl ?_
    refine pw_iload_n dX7_mayBecome_57 rfl rfl ?_
    refine pw_cVi dX7_mayBecome_58 mv_X7_168 ckNow (T_X6_areHearers hw) rfl rfl (Nat.le_of_ble_eq_true rfl) (by decide) (fun x_58 m_58 h_58 => ?_)
    obtain ⟨rfl, rfl⟩ := h_58
    refine pw_if_eq (tgt := 76) dX7_mayBecome_61 (by decide) (fun c_61 => ?_) (fun c_61 => ?_)
    · skip
      have hb_61 := b2_0 c_61
      refine pw_iconst (v := 0) dX7_mayBecome_76 rfl ?_
      refine pw_zret dX7_mayBecome_77 rfl (by first | exact b2_01 _ | decide) ?_
      refine ⟨?_, rfl⟩
      unfold mayF
      rw [if_neg (by rw [q_1_2]; decide), if_neg (by rw [q_1_2]; decide), if_pos q_1_2, hb_61]
      rfl
    · skip
      have hb_61 := b2_n c_61
      refine pw_iload_n dX7_mayBecome_64 rfl rfl ?_
      refine pw_iload_n dX7_mayBecome_65 rfl rfl ?_
      refine pw_cSi dX7_mayBecome_66 ms_X7_171 T_X7_hasBit rfl rfl (Nat.le_of_ble_eq_true rfl) (by decide) (fun x_66 m_66 h_66 => ?_)
      obtain ⟨rfl, rfl⟩ := h_66
      refine pw_if_ne (tgt := 76) dX7_mayBecome_69 (by decide) (fun c_69 => ?_) (fun c_69 => ?_)
      · skip
        have hb_69 := b2_n c_69
        refine pw_iconst (v := 0) dX7_mayBecome_76 rfl ?_
        refine pw_zret dX7_mayBecome_77 rfl (by first | exact b2_01 _ | decide) ?_
        refine ⟨?_, rfl⟩
        unfold mayF
        rw [if_neg (by rw [q_1_2]; decide), if_neg (by rw [q_1_2]; decide), if_pos q_1_2, hb_61, hb_69]
        rfl
      · skip
        have hb_69 := b2_0 c_69
        refine pw_iconst (v := 1) dX7_mayBecome_72 rfl ?_
        refine pw_goto (tgt := 77) dX7_mayBecome_73 (by decide) ?_
        refine pw_zret dX7_mayBecome_77 rfl (by first | exact b2_01 _ | decide) ?_
        refine ⟨?_, rfl⟩
        unfold mayF
        rw [if_neg (by rw [q_1_2]; decide), if_neg (by rw [q_1_2]; decide), if_pos q_1_2, hb_61, hb_69]
        rfl
  by_cases q_1_3 : what = 3
  · skip
    refine pw_tsIn (v := 3) (tgt := 78) dX7_mayBecome_1 q_1_3 (by decide) (by decide) rfl (by decide) ?_
    refine pw_iload_n dX7_mayBecome_78 rfl rfl ?_
    refine pw_iconst (v := 0) dX7_mayBecome_79 rfl ?_
    refine pw_aload_n dX7_mayBecome_80 rfl rfl ?_
    refine pw_getR dX7_mayBecome_81 fa_X7_28 rfl ?_
    refine pw_cVi dX7_mayBecome_84 mv_X7_175 ckNow (T_X6_allJokes hw) rfl rfl (Nat.le_of_ble_eq_true rfl) (by decide) (fun x_84 m_84 h_84 => ?_)
    obtain ⟨rfl, rfl⟩ := h_84
    refine pw_cSi dX7_mayBecome_87 ms_X7_116 T_X7_within rfl rfl (Nat.le_of_ble_eq_true rfl) (by decide) (fun x_87 m_87 h_87 => ?_)
    obtain ⟨rfl, rfl⟩ := h_87
    refine pw_zret dX7_mayBecome_90 rfl (b2_01 _) ?_
    exact ⟨by unfold mayF; simp_all [b2], rfl⟩
  by_cases q_1_4 : what = 4
  · skip
    refine pw_tsIn (v := 4) (tgt := 91) dX7_mayBecome_1 q_1_4 (by decide) (by decide) rfl (by decide) ?_
    refine pw_iload_n dX7_mayBecome_91 rfl rfl ?_
    refine pw_iconst (v := 1) dX7_mayBecome_92 rfl ?_
    refine pw_bipush (v := 9) dX7_mayBecome_93 rfl ?_
    refine pw_cSi dX7_mayBecome_95 ms_X7_116 T_X7_within rfl rfl (Nat.le_of_ble_eq_true rfl) (by decide) (fun x_95 m_95 h_95 => ?_)
    obtain ⟨rfl, rfl⟩ := h_95
    refine pw_zret dX7_mayBecome_98 rfl (b2_01 _) ?_
    exact ⟨by unfold mayF; simp_all [b2], rfl⟩
  have zq_1_0 := lv_neT q_1_0 (a := 0) rfl
  have zq_1_1 := lv_neT q_1_1 (a := 1) rfl
  have zq_1_2 := lv_neT q_1_2 (a := 2) rfl
  have zq_1_3 := lv_neT q_1_3 (a := 3) rfl
  have zq_1_4 := lv_neT q_1_4 (a := 4) rfl
  refine pw_tsOut (tgt := 99) dX7_mayBecome_1 (by omega) (by decide) ?_
  refine pw_iconst (v := 0) dX7_mayBecome_99 rfl ?_
  refine pw_zret dX7_mayBecome_100 rfl (by decide) ?_
  exact ⟨by unfold mayF; simp_all [b2], rfl⟩

set_option maxHeartbeats 4000000 in
set_option maxRecDepth 100000 in
theorem T_X7_set {l : Launch} {μ : PM} {V : VW} {nm sk : Nat → Int32} {nh : Nat} {h what v : Int32} (h5 : V 0 5 = nI nh) (hh6 : nh ≤ 6) : CT l SC yX7_set cX7_set 5 (some .int) 4 [.ref 0, .int h, .int what, .int v] (sc (wr μ 22 V) nm sk) (QI fun x m => x = setX V h what v ∧ m = sc (wr μ 22 (setV V h what v)) nm sk) := by
  refine CT.of rfl (Nat.le_of_ble_eq_true rfl) ?_
  show PW l SC RX7 cX7_set 5 (some .int) 4 _ 0 [(0, .ref 0), (1, .int h), (2, .int what), (3, .int v)] [] (sc (wr μ 22 V) nm sk)
  have hw : isW 22 := Or.inl rfl
  refine pw_aload_n dX7_set_0 rfl rfl ?_
  refine pw_getR dX7_set_1 fa_X7_28 rfl ?_
  refine pw_iload_n dX7_set_4 rfl rfl ?_
  refine pw_cVi dX7_set_5 mv_X7_127 ckNow (T_X6_hasHearer hw) rfl rfl (Nat.le_of_ble_eq_true rfl) (by decide) (fun x_5 m_5 h_5 => ?_)
  obtain ⟨rfl, rfl⟩ := h_5
  refine pw_if_ne (tgt := 14) dX7_set_8 (by decide) (fun c_8 => ?_) (fun c_8 => ?_)
  · skip
    have hb_8 := b2_n c_8
    refine pw_aload_n dX7_set_14 rfl rfl ?_
    refine pw_iload_n dX7_set_15 rfl rfl ?_
    refine pw_iload_n dX7_set_16 rfl rfl ?_
    refine pw_iload_n dX7_set_17 rfl rfl ?_
    obtain ⟨h, hlh, hsh, rfl⟩ := hr_of h5 hh6 hb_8
    refine pw_cVi dX7_set_18 mv_X7_158 ckMain (T_X7_mayBecome (h := h) (by omega)) rfl rfl (Nat.le_of_ble_eq_true rfl) (by decide) (fun x_18 m_18 h_18 => ?_)
    obtain ⟨rfl, rfl⟩ := h_18
    refine pw_if_ne (tgt := 27) dX7_set_21 (by decide) (fun c_21 => ?_) (fun c_21 => ?_)
    · skip
      have hb_21 := b2_n c_21
      refine pw_aload_n dX7_set_27 rfl rfl ?_
      refine pw_getR dX7_set_28 fa_X7_28 rfl ?_
      refine pw_iload_n dX7_set_31 rfl rfl ?_
      refine pw_iload_n dX7_set_32 rfl rfl ?_
      refine pw_cVi dX7_set_33 mv_X7_161 ckNow (T_X6_trait hw hsh) rfl rfl (Nat.le_of_ble_eq_true rfl) (by decide) (fun x_33 m_33 h_33 => ?_)
      obtain ⟨rfl, rfl⟩ := h_33
      refine pw_istore (ls2 := [(4, _), (0, _), (1, _), (2, _), (3, _)]) dX7_set_36 (by decide) rfl ?_
      refine pw_aload_n dX7_set_38 rfl rfl ?_
      refine pw_getR dX7_set_39 fa_X7_28 rfl ?_
      refine pw_iload_n dX7_set_42 rfl rfl ?_
      refine pw_iload_n dX7_set_43 rfl rfl ?_
      refine pw_iload_n dX7_set_44 rfl rfl ?_
      refine pw_cVv dX7_set_45 mv_X7_164 ckNow (T_X6_become hw hsh) rfl rfl (Nat.le_of_ble_eq_true rfl) (by decide) (fun m_45 h_45 => ?_)
      obtain rfl := h_45
      refine pw_iload dX7_set_48 rfl ?_
      refine pw_iret dX7_set_50 rfl ?_
      exact ⟨by unfold setX hrF; rw [hb_8, if_pos rfl, cl_nI (by omega), hb_21]; rfl, by unfold setV hrF; rw [hb_8, if_pos rfl, cl_nI (by omega), hb_21]; rfl⟩
    · skip
      have hb_21 := b2_0 c_21
      refine pw_bipush (v := (-7)) dX7_set_24 rfl ?_
      refine pw_iret dX7_set_26 rfl ?_
      exact ⟨by unfold setX hrF; rw [hb_8, if_pos rfl, cl_nI (by omega), hb_21]; rfl, by unfold setV hrF; rw [hb_8, if_pos rfl, cl_nI (by omega), hb_21]; rfl⟩
  · skip
    have hb_8 := b2_0 c_8
    refine pw_bipush (v := (-5)) dX7_set_11 rfl ?_
    refine pw_iret dX7_set_13 rfl ?_
    exact ⟨by unfold setX hrF; rw [hb_8]; rfl, by unfold setV hrF; rw [hb_8]; rfl⟩

set_option maxHeartbeats 4000000 in
set_option maxRecDepth 100000 in
theorem T_X7_of {l : Launch} {μ : PM} {V : VW} {nm sk : Nat → Int32} {nh : Nat} {h what : Int32} (h5 : V 0 5 = nI nh) (hh6 : nh ≤ 6) : CT l SC yX7_of cX7_of 3 (some .int) 3 [.ref 0, .int h, .int what] (sc (wr μ 22 V) nm sk) (QI fun x m => x = ofF V h what ∧ m = sc (wr μ 22 V) nm sk) := by
  refine CT.of rfl (Nat.le_of_ble_eq_true rfl) ?_
  show PW l SC RX7 cX7_of 3 (some .int) 3 _ 0 [(0, .ref 0), (1, .int h), (2, .int what)] [] (sc (wr μ 22 V) nm sk)
  have hw : isW 22 := Or.inl rfl
  refine pw_aload_n dX7_of_0 rfl rfl ?_
  refine pw_getR dX7_of_1 fa_X7_28 rfl ?_
  refine pw_iload_n dX7_of_4 rfl rfl ?_
  refine pw_cVi dX7_of_5 mv_X7_127 ckNow (T_X6_hasHearer hw) rfl rfl (Nat.le_of_ble_eq_true rfl) (by decide) (fun x_5 m_5 h_5 => ?_)
  obtain ⟨rfl, rfl⟩ := h_5
  refine pw_if_ne (tgt := 14) dX7_of_8 (by decide) (fun c_8 => ?_) (fun c_8 => ?_)
  · skip
    have hb_8 := b2_n c_8
    refine pw_iload_n dX7_of_14 rfl rfl ?_
    refine pw_iconst (v := 0) dX7_of_15 rfl ?_
    refine pw_iconst (v := 4) dX7_of_16 rfl ?_
    obtain ⟨h, hlh, hsh, rfl⟩ := hr_of h5 hh6 hb_8
    refine pw_cSi dX7_of_17 ms_X7_116 T_X7_within rfl rfl (Nat.le_of_ble_eq_true rfl) (by decide) (fun x_17 m_17 h_17 => ?_)
    obtain ⟨rfl, rfl⟩ := h_17
    refine pw_if_eq (tgt := 35) dX7_of_20 (by decide) (fun c_20 => ?_) (fun c_20 => ?_)
    · skip
      have hb_20 := b2_0 c_20
      refine pw_bipush (v := (-7)) dX7_of_35 rfl ?_
      refine pw_iret dX7_of_37 rfl ?_
      exact ⟨by unfold ofF hrF; rw [hb_8, if_pos rfl, cl_nI (by omega), hb_20]; rfl, rfl⟩
    · skip
      have hb_20 := b2_n c_20
      refine pw_aload_n dX7_of_23 rfl rfl ?_
      refine pw_getR dX7_of_24 fa_X7_28 rfl ?_
      refine pw_iload_n dX7_of_27 rfl rfl ?_
      refine pw_iload_n dX7_of_28 rfl rfl ?_
      refine pw_cVi dX7_of_29 mv_X7_161 ckNow (T_X6_trait hw hsh) rfl rfl (Nat.le_of_ble_eq_true rfl) (by decide) (fun x_29 m_29 h_29 => ?_)
      obtain ⟨rfl, rfl⟩ := h_29
      refine pw_goto (tgt := 37) dX7_of_32 (by decide) ?_
      refine pw_iret dX7_of_37 rfl ?_
      exact ⟨by unfold ofF hrF; rw [hb_8, if_pos rfl, cl_nI (by omega), hb_20]; rfl, rfl⟩
  · skip
    have hb_8 := b2_0 c_8
    refine pw_bipush (v := (-5)) dX7_of_11 rfl ?_
    refine pw_iret dX7_of_13 rfl ?_
    exact ⟨by unfold ofF hrF; rw [hb_8]; rfl, rfl⟩

set_option maxHeartbeats 4000000 in
set_option maxRecDepth 100000 in
theorem T_X7_refusedTelling {l : Launch} {μ : PM} {V : VW} {nm sk : Nat → Int32} {j h : Int32} : CT l SC yX7_refusedTelling cX7_refusedTelling 3 (some .int) 3 [.ref 0, .int j, .int h] (sc (wr μ 22 V) nm sk) (QI fun x m => x = refT V j h ∧ m = sc (wr μ 22 V) nm sk) := by
  refine CT.of rfl (Nat.le_of_ble_eq_true rfl) ?_
  show PW l SC RX7 cX7_refusedTelling 3 (some .int) 3 _ 0 [(0, .ref 0), (1, .int j), (2, .int h)] [] (sc (wr μ 22 V) nm sk)
  have hw : isW 22 := Or.inl rfl
  refine pw_aload_n dX7_refusedTelling_0 rfl rfl ?_
  refine pw_getR dX7_refusedTelling_1 fa_X7_28 rfl ?_
  refine pw_iload_n dX7_refusedTelling_4 rfl rfl ?_
  refine pw_cVi dX7_refusedTelling_5 mv_X7_138 ckNow (T_X6_hasJoke hw) rfl rfl (Nat.le_of_ble_eq_true rfl) (by decide) (fun x_5 m_5 h_5 => ?_)
  obtain ⟨rfl, rfl⟩ := h_5
  refine pw_if_ne (tgt := 14) dX7_refusedTelling_8 (by decide) (fun c_8 => ?_) (fun c_8 => ?_)
  · skip
    have hb_8 := b2_n c_8
    refine pw_aload_n dX7_refusedTelling_14 rfl rfl ?_
    refine pw_getR dX7_refusedTelling_15 fa_X7_28 rfl ?_
    refine pw_iload_n dX7_refusedTelling_18 rfl rfl ?_
    refine pw_cVi dX7_refusedTelling_19 mv_X7_127 ckNow (T_X6_hasHearer hw) rfl rfl (Nat.le_of_ble_eq_true rfl) (by decide) (fun x_19 m_19 h_19 => ?_)
    obtain ⟨rfl, rfl⟩ := h_19
    refine pw_if_eq (tgt := 29) dX7_refusedTelling_22 (by decide) (fun c_22 => ?_) (fun c_22 => ?_)
    · skip
      have hb_22 := b2_0 c_22
      refine pw_bipush (v := (-6)) dX7_refusedTelling_29 rfl ?_
      refine pw_iret dX7_refusedTelling_31 rfl ?_
      exact ⟨by simp only [refT, jkF, hrF, hb_8, hb_22, Bool.false_eq_true, if_false, if_true, Bool.and_true, Bool.and_false, Bool.true_and, Bool.false_and, Bool.or_true, Bool.or_false, Bool.true_or, Bool.false_or], rfl⟩
    · skip
      have hb_22 := b2_n c_22
      refine pw_iconst (v := 0) dX7_refusedTelling_25 rfl ?_
      refine pw_goto (tgt := 31) dX7_refusedTelling_26 (by decide) ?_
      refine pw_iret dX7_refusedTelling_31 rfl ?_
      exact ⟨by simp only [refT, jkF, hrF, hb_8, hb_22, Bool.false_eq_true, if_false, if_true, Bool.and_true, Bool.and_false, Bool.true_and, Bool.false_and, Bool.or_true, Bool.or_false, Bool.true_or, Bool.false_or], rfl⟩
  · skip
    have hb_8 := b2_0 c_8
    refine pw_bipush (v := (-5)) dX7_refusedTelling_11 rfl ?_
    refine pw_iret dX7_refusedTelling_13 rfl ?_
    exact ⟨by simp only [refT, jkF, hrF, hb_8, Bool.false_eq_true, if_false, if_true, Bool.and_true, Bool.and_false, Bool.true_and, Bool.false_and, Bool.or_true, Bool.or_false, Bool.true_or, Bool.false_or], rfl⟩

set_option maxHeartbeats 4000000 in
set_option maxRecDepth 100000 in
theorem T_X7_yields {l : Launch} {μ : PM} {V : VW} {nm sk : Nat → Int32} {nj nh : Nat} {j h : Int32} (hc : okC μ V) (h1 : V 0 1 = nI nj) (hj5 : nj ≤ 5) (h5 : V 0 5 = nI nh) (hh6 : nh ≤ 6) : CT l SC yX7_yields cX7_yields 4 (some .int) 6 [.ref 0, .int j, .int h] (sc (wr μ 22 V) nm sk) (QI fun x m => x = yieldsF (bk μ) V j h ∧ ∃ nm2 sk2, m = sc (wr μ 22 (V)) nm2 sk2) := by
  refine CT.of rfl (Nat.le_of_ble_eq_true rfl) ?_
  show PW l SC RX7 cX7_yields 4 (some .int) 6 _ 0 [(0, .ref 0), (1, .int j), (2, .int h)] [] (sc (wr μ 22 V) nm sk)
  have hw : isW 22 := Or.inl rfl
  refine pw_aload_n dX7_yields_0 rfl rfl ?_
  refine pw_iload_n dX7_yields_1 rfl rfl ?_
  refine pw_iload_n dX7_yields_2 rfl rfl ?_
  refine pw_cVi dX7_yields_3 mv_X7_178 ckMain T_X7_refusedTelling rfl rfl (Nat.le_of_ble_eq_true rfl) (by decide) (fun x_3 m_3 h_3 => ?_)
  obtain ⟨rfl, rfl⟩ := h_3
  refine pw_istore_n (ls2 := [(3, _), (0, _), (1, _), (2, _)]) dX7_yields_6 rfl (by decide) rfl ?_
  refine pw_iload_n dX7_yields_7 rfl rfl ?_
  refine pw_if_eq (tgt := 15) dX7_yields_8 (by decide) (fun c_8 => ?_) (fun c_8 => ?_)
  · skip
    have hr0 : refT V j h = 0 := c_8
    have hjk : jkF V j = true := by
      unfold refT at hr0
      cases e : jkF V j with
      | true => rfl
      | false => rw [e, if_neg Bool.false_ne_true] at hr0; exact absurd hr0 (by decide)
    have hhk : hrF V h = true := by
      unfold refT at hr0
      rw [hjk] at hr0
      cases e : hrF V h with
      | true => rfl
      | false => rw [e, if_pos rfl, if_neg Bool.false_ne_true] at hr0; exact absurd hr0 (by decide)
    obtain ⟨j, hlj, hsj, rfl⟩ := jk_of h1 hj5 hjk
    obtain ⟨h, hlh, hsh, rfl⟩ := hr_of h5 hh6 hhk
    refine pw_aload_n dX7_yields_15 rfl rfl ?_
    refine pw_getR dX7_yields_16 fa_X7_28 rfl ?_
    refine pw_iload_n dX7_yields_19 rfl rfl ?_
    refine pw_iload_n dX7_yields_20 rfl rfl ?_
    refine pw_cVi dX7_yields_21 mv_X7_181 ckNow (T_X6_worth hw hc hsj hsh) rfl rfl (Nat.le_of_ble_eq_true rfl) (by decide) (fun x_21 m_21 h_21 => ?_)
    obtain ⟨rfl, nm1, sk1, rfl⟩ := h_21
    refine pw_iret dX7_yields_24 rfl ?_
    exact ⟨by unfold yieldsF; rw [if_pos hr0, cl_nI (by omega), cl_nI (by omega)], _, _, rfl⟩
  · skip
    refine pw_iload_n dX7_yields_11 rfl rfl ?_
    refine pw_goto (tgt := 24) dX7_yields_12 (by decide) ?_
    refine pw_iret dX7_yields_24 rfl ?_
    exact ⟨by unfold yieldsF; rw [if_neg c_8], _, _, rfl⟩

set_option maxHeartbeats 4000000 in
set_option maxRecDepth 100000 in
theorem T_X7_tell {l : Launch} {μ : PM} {V : VW} {nm sk : Nat → Int32} {nj nh : Nat} {j h : Int32} (hc : okC μ V) (h1 : V 0 1 = nI nj) (hj5 : nj ≤ 5) (h5 : V 0 5 = nI nh) (hh6 : nh ≤ 6) : CT l SC yX7_tell cX7_tell 4 (some .int) 7 [.ref 0, .int j, .int h] (sc (wr μ 22 V) nm sk) (QI fun x m => x = yieldsF (bk μ) V j h ∧ ∃ nm2 sk2, m = sc (wr μ 22 (tellVV (bk μ) V j h)) nm2 sk2) := by
  refine CT.of rfl (Nat.le_of_ble_eq_true rfl) ?_
  show PW l SC RX7 cX7_tell 4 (some .int) 7 _ 0 [(0, .ref 0), (1, .int j), (2, .int h)] [] (sc (wr μ 22 V) nm sk)
  have hw : isW 22 := Or.inl rfl
  refine pw_aload_n dX7_tell_0 rfl rfl ?_
  refine pw_iload_n dX7_tell_1 rfl rfl ?_
  refine pw_iload_n dX7_tell_2 rfl rfl ?_
  refine pw_cVi dX7_tell_3 mv_X7_178 ckMain T_X7_refusedTelling rfl rfl (Nat.le_of_ble_eq_true rfl) (by decide) (fun x_3 m_3 h_3 => ?_)
  obtain ⟨rfl, rfl⟩ := h_3
  refine pw_istore_n (ls2 := [(3, _), (0, _), (1, _), (2, _)]) dX7_tell_6 rfl (by decide) rfl ?_
  refine pw_iload_n dX7_tell_7 rfl rfl ?_
  refine pw_if_eq (tgt := 15) dX7_tell_8 (by decide) (fun c_8 => ?_) (fun c_8 => ?_)
  · skip
    have hr0 : refT V j h = 0 := c_8
    have hjk : jkF V j = true := by
      unfold refT at hr0
      cases e : jkF V j with
      | true => rfl
      | false => rw [e, if_neg Bool.false_ne_true] at hr0; exact absurd hr0 (by decide)
    have hhk : hrF V h = true := by
      unfold refT at hr0
      rw [hjk] at hr0
      cases e : hrF V h with
      | true => rfl
      | false => rw [e, if_pos rfl, if_neg Bool.false_ne_true] at hr0; exact absurd hr0 (by decide)
    obtain ⟨j, hlj, hsj, rfl⟩ := jk_of h1 hj5 hjk
    obtain ⟨h, hlh, hsh, rfl⟩ := hr_of h5 hh6 hhk
    refine pw_aload_n dX7_tell_15 rfl rfl ?_
    refine pw_getR dX7_tell_16 fa_X7_28 rfl ?_
    refine pw_iload_n dX7_tell_19 rfl rfl ?_
    refine pw_iload_n dX7_tell_20 rfl rfl ?_
    refine pw_cVi dX7_tell_21 mv_X7_184 ckNow (T_X6_telling hw hc hsj hsh) rfl rfl (Nat.le_of_ble_eq_true rfl) (by decide) (fun x_21 m_21 h_21 => ?_)
    obtain ⟨rfl, nm1, sk1, rfl⟩ := h_21
    refine pw_iret dX7_tell_24 rfl ?_
    exact ⟨by unfold yieldsF; rw [if_pos hr0, cl_nI (by omega), cl_nI (by omega)], nm1, sk1, by unfold tellVV; rw [if_pos hr0, cl_nI (by omega), cl_nI (by omega)]⟩
  · skip
    refine pw_iload_n dX7_tell_11 rfl rfl ?_
    refine pw_goto (tgt := 24) dX7_tell_12 (by decide) ?_
    refine pw_iret dX7_tell_24 rfl ?_
    exact ⟨by unfold yieldsF; rw [if_neg c_8], nm, sk, by unfold tellVV; rw [if_neg c_8]⟩

set_option maxHeartbeats 4000000 in
set_option maxRecDepth 100000 in
theorem T_X7_pay {l : Launch} {μ : PM} {V : VW} {nm sk : Nat → Int32} {nh : Nat} {h o v : Int32} (h5 : V 0 5 = nI nh) (hh6 : nh ≤ 6) : CT l SC yX7_pay cX7_pay 4 (some .int) 3 [.ref 0, .int h, .int o, .int v] (sc (wr μ 22 V) nm sk) (QI fun x m => x = payX V h o v ∧ m = sc (wr μ 22 (payS V h o v)) nm sk) := by
  refine CT.of rfl (Nat.le_of_ble_eq_true rfl) ?_
  show PW l SC RX7 cX7_pay 4 (some .int) 3 _ 0 [(0, .ref 0), (1, .int h), (2, .int o), (3, .int v)] [] (sc (wr μ 22 V) nm sk)
  have hw : isW 22 := Or.inl rfl
  refine pw_aload_n dX7_pay_0 rfl rfl ?_
  refine pw_getR dX7_pay_1 fa_X7_28 rfl ?_
  refine pw_iload_n dX7_pay_4 rfl rfl ?_
  refine pw_cVi dX7_pay_5 mv_X7_127 ckNow (T_X6_hasHearer hw) rfl rfl (Nat.le_of_ble_eq_true rfl) (by decide) (fun x_5 m_5 h_5 => ?_)
  obtain ⟨rfl, rfl⟩ := h_5
  refine pw_if_eq (tgt := 27) dX7_pay_8 (by decide) (fun c_8 => ?_) (fun c_8 => ?_)
  · skip
    have hb_8 := b2_0 c_8
    refine pw_bipush (v := (-5)) dX7_pay_27 rfl ?_
    refine pw_iret dX7_pay_29 rfl ?_
    exact ⟨by unfold payX payOK hrF; simp only [hb_8, Bool.and_true, Bool.and_false, Bool.true_and, Bool.false_and, Bool.not_true, Bool.not_false, decide_true, decide_false, Bool.false_eq_true, if_false, if_true], by unfold payS payOK hrF; simp only [hb_8, Bool.and_true, Bool.and_false, Bool.true_and, Bool.false_and, Bool.not_true, Bool.not_false, decide_true, decide_false, Bool.false_eq_true, if_false, if_true]⟩
  · skip
    have hb_8 := b2_n c_8
    refine pw_aload_n dX7_pay_11 rfl rfl ?_
    refine pw_getR dX7_pay_12 fa_X7_28 rfl ?_
    refine pw_iload_n dX7_pay_15 rfl rfl ?_
    refine pw_cVi dX7_pay_16 mv_X7_127 ckNow (T_X6_hasHearer hw) rfl rfl (Nat.le_of_ble_eq_true rfl) (by decide) (fun x_16 m_16 h_16 => ?_)
    obtain ⟨rfl, rfl⟩ := h_16
    refine pw_if_eq (tgt := 27) dX7_pay_19 (by decide) (fun c_19 => ?_) (fun c_19 => ?_)
    · skip
      have hb_19 := b2_0 c_19
      refine pw_bipush (v := (-5)) dX7_pay_27 rfl ?_
      refine pw_iret dX7_pay_29 rfl ?_
      exact ⟨by unfold payX payOK hrF; simp only [hb_8, hb_19, Bool.and_true, Bool.and_false, Bool.true_and, Bool.false_and, Bool.not_true, Bool.not_false, decide_true, decide_false, Bool.false_eq_true, if_false, if_true], by unfold payS payOK hrF; simp only [hb_8, hb_19, Bool.and_true, Bool.and_false, Bool.true_and, Bool.false_and, Bool.not_true, Bool.not_false, decide_true, decide_false, Bool.false_eq_true, if_false, if_true]⟩
    · skip
      have hb_19 := b2_n c_19
      refine pw_iload_n dX7_pay_22 rfl rfl ?_
      refine pw_iload_n dX7_pay_23 rfl rfl ?_
      refine pw_icmp_ne (tgt := 30) dX7_pay_24 (by decide) (fun c_24 => ?_) (fun c_24 => ?_)
      · skip
        refine pw_iload_n dX7_pay_30 rfl rfl ?_
        refine pw_iconst (v := 0) dX7_pay_31 rfl ?_
        refine pw_sipush (v := 9999) dX7_pay_32 rfl ?_
        obtain ⟨h, hlh, hsh, rfl⟩ := hr_of h5 hh6 hb_8
        obtain ⟨o, hlo, hso, rfl⟩ := hr_of h5 hh6 hb_19
        refine pw_cSi dX7_pay_35 ms_X7_116 T_X7_within rfl rfl (Nat.le_of_ble_eq_true rfl) (by decide) (fun x_35 m_35 h_35 => ?_)
        obtain ⟨rfl, rfl⟩ := h_35
        refine pw_if_ne (tgt := 44) dX7_pay_38 (by decide) (fun c_38 => ?_) (fun c_38 => ?_)
        · skip
          have hb_38 := b2_n c_38
          refine pw_aload_n dX7_pay_44 rfl rfl ?_
          refine pw_getR dX7_pay_45 fa_X7_28 rfl ?_
          refine pw_getR dX7_pay_48 fa_X7_187 rfl ?_
          refine pw_iload_n dX7_pay_51 rfl rfl ?_
          refine pw_iald (j := h) dX7_pay_52 rfl rfl hsh ?_
          refine pw_top (y := V 5 h) (by rw [rdw (w := 22) (r := 5) hw (by decide)] <;> rfl) ?_
          refine pw_iload_n dX7_pay_53 rfl rfl ?_
          refine pw_icmp_ge (tgt := 60) dX7_pay_54 (by decide) (fun c_54 => ?_) (fun c_54 => ?_)
          · skip
            refine pw_aload_n dX7_pay_60 rfl rfl ?_
            refine pw_getR dX7_pay_61 fa_X7_28 rfl ?_
            refine pw_getR dX7_pay_64 fa_X7_187 rfl ?_
            refine pw_iload_n dX7_pay_67 rfl rfl ?_
            refine pw_iald (j := o) dX7_pay_68 rfl rfl hso ?_
            refine pw_top (y := V 5 o) (by rw [rdw (w := 22) (r := 5) hw (by decide)] <;> rfl) ?_
            refine pw_iload_n dX7_pay_69 rfl rfl ?_
            refine pw_iadd dX7_pay_70 ?_
            refine pw_sipush (v := 9999) dX7_pay_71 rfl ?_
            refine pw_icmp_le (tgt := 80) dX7_pay_74 (by decide) (fun c_74 => ?_) (fun c_74 => ?_)
            · skip
              refine pw_aload_n dX7_pay_80 rfl rfl ?_
              refine pw_getR dX7_pay_81 fa_X7_28 rfl ?_
              refine pw_getR dX7_pay_84 fa_X7_187 rfl ?_
              refine pw_iload_n dX7_pay_87 rfl rfl ?_
              refine pw_dup2 dX7_pay_88 rfl rfl ?_
              refine pw_iald (j := h) dX7_pay_89 rfl rfl hsh ?_
              refine pw_top (y := V 5 h) (by rw [rdw (w := 22) (r := 5) hw (by decide)] <;> rfl) ?_
              refine pw_iload_n dX7_pay_90 rfl rfl ?_
              refine pw_isub dX7_pay_91 ?_
              refine pw_iast (j := h) dX7_pay_92 rfl rfl hsh ?_
              refine pw_mem (siw (w := 22) (r := 5) hw (by decide)) ?_
              have hne : o ≠ h := fun e => c_24 (by rw [e])
              refine pw_aload_n dX7_pay_93 rfl rfl ?_
              refine pw_getR dX7_pay_94 fa_X7_28 rfl ?_
              refine pw_getR dX7_pay_97 fa_X7_187 rfl ?_
              refine pw_iload_n dX7_pay_100 rfl rfl ?_
              refine pw_dup2 dX7_pay_101 rfl rfl ?_
              refine pw_iald (j := o) dX7_pay_102 rfl rfl hso ?_
              refine pw_top (y := V 5 o) (by rw [rdw (w := 22) (r := 5) hw (by decide)]; exact upd_o _ _ hne) ?_
              refine pw_iload_n dX7_pay_103 rfl rfl ?_
              refine pw_iadd dX7_pay_104 ?_
              refine pw_iast (j := o) dX7_pay_105 rfl rfl hso ?_
              refine pw_mem (siw (w := 22) (r := 5) hw (by decide)) ?_
              refine pw_aload_n dX7_pay_106 rfl rfl ?_
              refine pw_getR dX7_pay_107 fa_X7_28 rfl ?_
              refine pw_getR dX7_pay_110 fa_X7_187 rfl ?_
              refine pw_iload_n dX7_pay_113 rfl rfl ?_
              refine pw_iald (j := h) dX7_pay_114 rfl rfl hsh ?_
              refine pw_top (y := V 5 h - v) (by rw [rdw (w := 22) (r := 5) hw (by decide)]; show upd (upd (V 5) h _) o _ h = _; rw [upd_o _ _ (Ne.symm hne), upd_s]) ?_
              refine pw_iret dX7_pay_115 rfl ?_
              exact ⟨by unfold payX payOK hrF; simp only [hb_8, hb_19, c_24, hb_38, Int32.not_lt.mpr c_54, Int32.not_lt.mpr c_74, cl_nI (show h < 2 ^ 31 by omega), cl_nI (show o < 2 ^ 31 by omega), payV, Bool.and_true, Bool.and_false, Bool.true_and, Bool.false_and, Bool.not_true, Bool.not_false, decide_true, decide_false, Bool.false_eq_true, if_false, if_true], by unfold payS payOK hrF; simp only [hb_8, hb_19, c_24, hb_38, Int32.not_lt.mpr c_54, Int32.not_lt.mpr c_74, cl_nI (show h < 2 ^ 31 by omega), cl_nI (show o < 2 ^ 31 by omega), payV, Bool.and_true, Bool.and_false, Bool.true_and, Bool.false_and, Bool.not_true, Bool.not_false, decide_true, decide_false, Bool.false_eq_true, if_false, if_true]⟩
            · skip
              refine pw_bipush (v := (-4)) dX7_pay_77 rfl ?_
              refine pw_iret dX7_pay_79 rfl ?_
              exact ⟨by unfold payX payOK hrF; simp only [hb_8, hb_19, c_24, hb_38, Int32.not_lt.mpr c_54, Int32.not_le.mp c_74, cl_nI (show h < 2 ^ 31 by omega), cl_nI (show o < 2 ^ 31 by omega), Bool.and_true, Bool.and_false, Bool.true_and, Bool.false_and, Bool.not_true, Bool.not_false, decide_true, decide_false, Bool.false_eq_true, if_false, if_true], by unfold payS payOK hrF; simp only [hb_8, hb_19, c_24, hb_38, Int32.not_lt.mpr c_54, Int32.not_le.mp c_74, cl_nI (show h < 2 ^ 31 by omega), cl_nI (show o < 2 ^ 31 by omega), Bool.and_true, Bool.and_false, Bool.true_and, Bool.false_and, Bool.not_true, Bool.not_false, decide_true, decide_false, Bool.false_eq_true, if_false, if_true]⟩
          · skip
            refine pw_bipush (v := (-3)) dX7_pay_57 rfl ?_
            refine pw_iret dX7_pay_59 rfl ?_
            exact ⟨by unfold payX payOK hrF; simp only [hb_8, hb_19, c_24, hb_38, Int32.not_le.mp c_54, cl_nI (show h < 2 ^ 31 by omega), cl_nI (show o < 2 ^ 31 by omega), Bool.and_true, Bool.and_false, Bool.true_and, Bool.false_and, Bool.not_true, Bool.not_false, decide_true, decide_false, Bool.false_eq_true, if_false, if_true], by unfold payS payOK hrF; simp only [hb_8, hb_19, c_24, hb_38, Int32.not_le.mp c_54, cl_nI (show h < 2 ^ 31 by omega), cl_nI (show o < 2 ^ 31 by omega), Bool.and_true, Bool.and_false, Bool.true_and, Bool.false_and, Bool.not_true, Bool.not_false, decide_true, decide_false, Bool.false_eq_true, if_false, if_true]⟩
        · skip
          have hb_38 := b2_0 c_38
          refine pw_bipush (v := (-7)) dX7_pay_41 rfl ?_
          refine pw_iret dX7_pay_43 rfl ?_
          exact ⟨by unfold payX payOK hrF; simp only [hb_8, hb_19, c_24, hb_38, Bool.and_true, Bool.and_false, Bool.true_and, Bool.false_and, Bool.not_true, Bool.not_false, decide_true, decide_false, Bool.false_eq_true, if_false, if_true], by unfold payS payOK hrF; simp only [hb_8, hb_19, c_24, hb_38, Bool.and_true, Bool.and_false, Bool.true_and, Bool.false_and, Bool.not_true, Bool.not_false, decide_true, decide_false, Bool.false_eq_true, if_false, if_true]⟩
      · skip
        refine pw_bipush (v := (-5)) dX7_pay_27 rfl ?_
        refine pw_iret dX7_pay_29 rfl ?_
        exact ⟨by unfold payX payOK hrF; simp only [hb_8, hb_19, c_24, Bool.and_true, Bool.and_false, Bool.true_and, Bool.false_and, Bool.not_true, Bool.not_false, decide_true, decide_false, Bool.false_eq_true, if_false, if_true], by unfold payS payOK hrF; simp only [hb_8, hb_19, c_24, Bool.and_true, Bool.and_false, Bool.true_and, Bool.false_and, Bool.not_true, Bool.not_false, decide_true, decide_false, Bool.false_eq_true, if_false, if_true]⟩

set_option maxHeartbeats 4000000 in
set_option maxRecDepth 100000 in
theorem T_X7_fades {l : Launch} {μ : PM} {V : VW} {nm sk : Nat → Int32} {nh : Nat} {h : Int32} (hc : okC μ V) (h5 : V 0 5 = nI nh) (hh6 : nh ≤ 6) : CT l SC yX7_fades cX7_fades 2 (some .int) 6 [.ref 0, .int h] (sc (wr μ 22 V) nm sk) (QI fun x m => x = fadesF (bk μ) V h ∧ ∃ nm2 sk2, m = sc (wr μ 22 (V)) nm2 sk2) := by
  refine CT.of rfl (Nat.le_of_ble_eq_true rfl) ?_
  show PW l SC RX7 cX7_fades 2 (some .int) 6 _ 0 [(0, .ref 0), (1, .int h)] [] (sc (wr μ 22 V) nm sk)
  have hw : isW 22 := Or.inl rfl
  refine pw_aload_n dX7_fades_0 rfl rfl ?_
  refine pw_getR dX7_fades_1 fa_X7_28 rfl ?_
  refine pw_iload_n dX7_fades_4 rfl rfl ?_
  refine pw_cVi dX7_fades_5 mv_X7_127 ckNow (T_X6_hasHearer hw) rfl rfl (Nat.le_of_ble_eq_true rfl) (by decide) (fun x_5 m_5 h_5 => ?_)
  obtain ⟨rfl, rfl⟩ := h_5
  refine pw_if_eq (tgt := 22) dX7_fades_8 (by decide) (fun c_8 => ?_) (fun c_8 => ?_)
  · skip
    have hb_8 := b2_0 c_8
    refine pw_bipush (v := (-5)) dX7_fades_22 rfl ?_
    refine pw_iret dX7_fades_24 rfl ?_
    exact ⟨by unfold fadesF hrF; rw [hb_8]; rfl, _, _, rfl⟩
  · skip
    have hb_8 := b2_n c_8
    refine pw_aload_n dX7_fades_11 rfl rfl ?_
    refine pw_getR dX7_fades_12 fa_X7_28 rfl ?_
    refine pw_iload_n dX7_fades_15 rfl rfl ?_
    obtain ⟨h, hlh, hsh, rfl⟩ := hr_of h5 hh6 hb_8
    refine pw_cVi dX7_fades_16 mv_X7_190 ckNow (T_X6_fading hw hc hsh) rfl rfl (Nat.le_of_ble_eq_true rfl) (by decide) (fun x_16 m_16 h_16 => ?_)
    obtain ⟨rfl, nm1, sk1, rfl⟩ := h_16
    refine pw_goto (tgt := 24) dX7_fades_19 (by decide) ?_
    refine pw_iret dX7_fades_24 rfl ?_
    exact ⟨by unfold fadesF hrF; rw [hb_8, if_pos rfl, cl_nI (by omega)], _, _, rfl⟩

set_option maxHeartbeats 4000000 in
set_option maxRecDepth 100000 in
theorem T_X7_night {l : Launch} {μ : PM} {V : VW} {nm sk : Nat → Int32} {nh : Nat} (hc : okC μ V) (h5 : V 0 5 = nI nh) (hh6 : nh ≤ 6) : CT l SC yX7_night cX7_night 4 (some .int) 6 [.ref 0] (sc (wr μ 22 V) nm sk) (QI fun x m => x = nightX (bk μ) V nh ∧ ∃ nm2 sk2, m = sc (wr μ 22 (nightV (bk μ) V nh)) nm2 sk2) := by
  refine CT.of rfl (Nat.le_of_ble_eq_true rfl) ?_
  show PW l SC RX7 cX7_night 4 (some .int) 6 _ 0 [(0, .ref 0)] [] (sc (wr μ 22 V) nm sk)
  have hw : isW 22 := Or.inl rfl
  refine pw_aload_n dX7_night_0 rfl rfl ?_
  refine pw_getR dX7_night_1 fa_X7_28 rfl ?_
  refine pw_getI dX7_night_4 fa_X7_106 rfl ?_
  refine pw_top (y := V 0 12) (by rw [rdw0 hw] <;> rfl) ?_
  refine pw_bipush (v := 99) dX7_night_7 rfl ?_
  refine pw_icmp_lt (tgt := 15) dX7_night_9 (by decide) (fun c_9 => ?_) (fun c_9 => ?_)
  · skip
    refine pw_iconst (v := 0) dX7_night_15 rfl ?_
    refine pw_istore_n (ls2 := [(1, _), (0, _)]) dX7_night_16 rfl (by decide) rfl ?_
    refine pw_iconst (v := 0) dX7_night_17 rfl ?_
    refine pw_istore_n (ls2 := [(2, _), (1, _), (0, _)]) dX7_night_18 rfl (by decide) rfl ?_
    have L_19 : ∀ (fu_19 : Nat) (i : Nat) (s : Int32) (U : VW) (nm sk : Nat → Int32), (i ≤ nh) → (U 0 5 = nI nh) → (U 0 13 = V 0 13) → (ngX (bk μ) (nh - i) i U s = ngX (bk μ) nh 0 V 0) → (ngV (bk μ) (nh - i) i U = ngV (bk μ) nh 0 V) → nh - i < fu_19 → PW l SC RX7 cX7_night 4 (some .int) 6 (QI fun x m => x = nightX (bk μ) V nh ∧ ∃ nm2 sk2, m = sc (wr μ 22 (nightV (bk μ) V nh)) nm2 sk2) 19 [(0, .ref 0), (1, .int s), (2, .int (nI i))] [] (sc (wr μ 22 U) nm sk) := by
      intro fu_19
      induction fu_19 with
      | zero =>
        intro i s U nm sk hi hU5 hU13 hx hv hm_19
        exact absurd hm_19 (Nat.not_lt_zero _)
      | succ fu_19 ih_19 =>
        intro i s U nm sk hi hU5 hU13 hx hv hm_19
        refine pw_iload_n dX7_night_19 rfl rfl ?_
        refine pw_aload_n dX7_night_20 rfl rfl ?_
        refine pw_getR dX7_night_21 fa_X7_28 rfl ?_
        refine pw_getI dX7_night_24 fa_X7_103 rfl ?_
        refine pw_top (y := nI nh) (by rw [rdw0 hw]; exact hU5) ?_
        refine pw_icmp_ge (tgt := 62) dX7_night_27 (by decide) (fun c_27 => ?_) (fun c_27 => ?_)
        · skip
          have hge := nI_geD (by omega) c_27
          refine pw_aload_n dX7_night_62 rfl rfl ?_
          refine pw_getR dX7_night_63 fa_X7_28 rfl ?_
          refine pw_dup dX7_night_66 rfl ?_
          refine pw_getI dX7_night_67 fa_X7_106 rfl ?_
          refine pw_top (y := U 0 12) (by rw [rdw0 hw] <;> rfl) ?_
          refine pw_iconst (v := 1) dX7_night_70 rfl ?_
          refine pw_iadd dX7_night_71 ?_
          refine pw_putI dX7_night_72 fa_X7_106 rfl ?_
          refine pw_mem (siw0 hw) ?_
          refine pw_iload_n dX7_night_75 rfl rfl ?_
          refine pw_iret dX7_night_76 rfl ?_
          have e0 : nh - i = 0 := by omega
          rw [e0] at hx hv
          exact ⟨by unfold nightX; rw [if_pos c_9]; exact hx, nm, sk, by unfold nightV; rw [if_pos c_9, ← hv]; rfl⟩
        · skip
          have hlt := nI_ltD (by omega) c_27
          refine pw_aload_n dX7_night_30 rfl rfl ?_
          refine pw_getR dX7_night_31 fa_X7_28 rfl ?_
          refine pw_iload_n dX7_night_34 rfl rfl ?_
          refine pw_cVi dX7_night_35 mv_X7_190 ckNow (T_X6_fading (h := i) hw (okC_V hc hU13) (by omega)) rfl rfl (Nat.le_of_ble_eq_true rfl) (by decide) (fun x_35 m_35 h_35 => ?_)
          obtain ⟨rfl, nm1, sk1, rfl⟩ := h_35
          refine pw_istore_n (ls2 := [(3, _), (0, _), (1, _), (2, _)]) dX7_night_38 rfl (by decide) rfl ?_
          refine pw_aload_n dX7_night_39 rfl rfl ?_
          refine pw_getR dX7_night_40 fa_X7_28 rfl ?_
          refine pw_getR dX7_night_43 fa_X7_187 rfl ?_
          refine pw_iload_n dX7_night_46 rfl rfl ?_
          refine pw_dup2 dX7_night_47 rfl rfl ?_
          refine pw_iald (j := i) dX7_night_48 rfl rfl (by omega) ?_
          refine pw_top (y := U 5 i) (by rw [rdw (w := 22) (r := 5) hw (by decide)] <;> rfl) ?_
          refine pw_iload_n dX7_night_49 rfl rfl ?_
          refine pw_isub dX7_night_50 ?_
          refine pw_iast (j := i) dX7_night_51 rfl rfl (by omega) ?_
          refine pw_mem (siw (w := 22) (r := 5) hw (by decide)) ?_
          refine pw_iload_n dX7_night_52 rfl rfl ?_
          refine pw_iload_n dX7_night_53 rfl rfl ?_
          refine pw_iadd dX7_night_54 ?_
          refine pw_istore_n (ls2 := [(1, _), (3, _), (0, _), (2, _)]) dX7_night_55 rfl (by decide) rfl ?_
          refine pw_iinc (ls2 := [(2, _), (1, _), (3, _), (0, _)]) (v := nI (i + 1)) dX7_night_56 rfl (inc1 i) (by decide) rfl ?_
          refine pw_goto (tgt := 19) dX7_night_59 (by decide) ?_
          refine pw_sub [3, 1, 0] rfl ?_
          exact ih_19 (i + 1) _ _ nm1 sk1 hlt hU5 hU13 (by rw [← hx, show nh - i = (nh - (i + 1)) + 1 by omega]; rfl) (by rw [← hv, show nh - i = (nh - (i + 1)) + 1 by omega]; rfl) (by omega)
    refine pw_sub [2, 1, 0] rfl ?_
    exact L_19 (nh + 1) 0 0 V nm sk (Nat.zero_le _) h5 rfl rfl rfl (by omega)
  · skip
    refine pw_bipush (v := (-4)) dX7_night_12 rfl ?_
    refine pw_iret dX7_night_14 rfl ?_
    exact ⟨by unfold nightX; rw [if_neg c_9], nm, sk, by unfold nightV; rw [if_neg c_9]⟩

