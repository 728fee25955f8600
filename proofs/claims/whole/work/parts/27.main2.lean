theorem refT_0 {V : VW} {j h : Int32} (h0 : refT V j h = 0) : jkF V j = true ∧ hrF V h = true := by
  unfold refT at h0
  cases e : jkF V j with
  | false => rw [e, if_neg Bool.false_ne_true] at h0; exact absurd h0 (by decide)
  | true =>
    refine ⟨rfl, ?_⟩
    cases e2 : hrF V h with
    | true => rfl
    | false => rw [e, e2, if_pos rfl, if_neg Bool.false_ne_true] at h0; exact absurd h0 (by decide)
def aN (n : Nat) : Nat := 2 ^ n
theorem aN_b {n : Nat} (h : n ≤ 6) : 1 ≤ aN n ∧ aN n ≤ 64 := ⟨Nat.one_le_two_pow, Nat.pow_le_pow_right (by decide) h⟩
def allF (V : VW) : Int32 := ((1 : Int32) <<< (V 0 5 &&& 31)) - 1
theorem allF_n {V : VW} {n : Nat} (h : V 0 5 = nI n) (hn : n ≤ 6) : allF V = nI (aN n - 1) := by
  unfold allF
  rw [h]
  match n, hn with
  | 0, _ => decide
  | 1, _ => decide
  | 2, _ => decide
  | 3, _ => decide
  | 4, _ => decide
  | 5, _ => decide
  | 6, _ => decide
def shF (h : Nat) : Int32 := (1 : Int32) <<< (nI h &&& 31)
def areF (V : VW) (b : Int32) : Bool := inF b 0 (allF V)
def caughtF (V : VW) (n : Nat) (first mins : Int32) : Int32 := if areF V first && inF mins 0 9 then atLastF (V 6) (V 8) n first (allF V) (cl mins) else -2
def panicF (V : VW) (n : Nat) (first what : Int32) : Int32 := if areF V first && inF what 0 1 then (if what = 0 then atLastF (V 6) (V 8) n first (allF V) 6 else nI (mtlF (V 6) (V 8) n (allF V) 6 first)) else -2
def sdL (V : VW) (n : Nat) : Nat → Nat → Int32 → Int32
  | 0, _, b => b
  | m + 1, i, b => sdL V n m (i + 1) (if bcF b ≤ bcF (nI i) then b else if atLastF (V 6) (V 8) n (nI i) (allF V) 6 = allF V then nI i else b)
def seedsF (V : VW) (n : Nat) (what : Int32) : Int32 := if inF what 0 1 then (if what = 0 then sdL V n (aN n - 1) 0 (allF V) else bcF (sdL V n (aN n - 1) 0 (allF V))) else -2
def spB (b : Int32) (i : Nat) : Bool := if b = -1 then true else !(decide (bcF b ≤ bcF (nI i)))
def spL (V : VW) (n : Nat) (first many : Int32) : Nat → Nat → Int32 → Int32
  | 0, _, b => b
  | m + 1, i, b => spL V n first many m (i + 1) (if spB b i then (if nI i &&& first = 0 then (if many < bcF (atLastF (V 6) (V 8) n first (allF V &&& (nI i ^^^ -1)) 6) then b else nI i) else b) else b)
def stopF (V : VW) (n : Nat) (first many : Int32) : Int32 := if areF V first && inF many 0 6 then spL V n first many (aN n) 0 (-1) else -2
def hbF (V : VW) (n j : Nat) (first : Int32) (days : Nat) : Int32 := daysF (V 6) n (onF (V 1 j) (V 2 j)) first days
def spreadF (V : VW) (n : Nat) (j first days : Int32) : Int32 := if jkF V j then (if areF V first && inF days 0 20 then hbF V n (cl j) first (cl days) else -7) else -5
def thL (V : VW) (n j h : Nat) : Nat → Nat → Int32
  | 0, _ => -1
  | m + 1, d => if hbF V n j (shF h) d = allF V then nI d else thL V n j h m (d + 1)
def throughF (V : VW) (n : Nat) (j h : Int32) : Int32 := if refT V j h = 0 then thL V n (cl j) (cl h) 7 0 else refT V j h
def orL (V : VW) (n j : Nat) (have0 : Int32) (days : Nat) : Nat → Nat → Int32 → Int32
  | 0, _, b => b
  | m + 1, h, b => orL V n j have0 days m (h + 1) (if hbF V n j (shF h) days = have0 then b ||| shF h else b)
def originF (V : VW) (n : Nat) (j have0 days : Int32) : Int32 := if jkF V j then (if areF V have0 && inF days 0 20 then orL V n (cl j) have0 (cl days) n 0 0 else -7) else -5
def fuL (V : VW) (n j : Nat) (days : Nat) : Nat → Nat → Int32 × Int32 → Int32 × Int32
  | 0, _, b => b
  | m + 1, h, b => fuL V n j days m (h + 1) (if bcF (hbF V n j (shF h) days) ≤ b.2 then b else (nI h, bcF (hbF V n j (shF h) days)))
def furF (V : VW) (n : Nat) (j days what : Int32) : Int32 := if jkF V j then (if inF days 0 20 && inF what 0 1 then (if what = 0 then (fuL V n (cl j) (cl days) n 0 (-1, -1)).1 else (fuL V n (cl j) (cl days) n 0 (-1, -1)).2) else -7) else -5
def rateOK (a b : Int32) : Bool := inF a 0 3 && (inF b 0 3 && !(decide (a = b)))
def rateX (V : VW) (a b v : Int32) : Int32 := if rateOK a b then (if inF v 1 999 then V 9 (4 * cl a + cl b) else -7) else -5
def rateV (V : VW) (a b v : Int32) : VW := if rateOK a b then (if inF v 1 999 then vu V 9 (4 * cl a + cl b) v else V) else V
def NOL : Int64 := -4611686018427387904
def changeF (V : VW) (a b much : Int32) : Int64 := if inF a 0 3 && (inF b 0 3 && inF much 0 9999) then chF (V 9) (cl a) (cl b) much.toInt64 else NOL
def gainF (V : VW) (a much what : Int32) : Int64 := if inF a 0 3 && (inF much 0 9999 && inF what 0 1) then (if what = 0 then ((goF (V 9) (cl a) 4 (cl a) much.toInt64 0 (2 ^ cl a) (much.toInt64, 0)).2).toInt64 else (goF (V 9) (cl a) 4 (cl a) much.toInt64 0 (2 ^ cl a) (much.toInt64, 0)).1) else NOL
theorem rwM_id (μ : PM) : μ = rwM μ (μ.1 17 1) (μ.1 17 3) (μ.2 17) := by
  refine PM_ext (fun x => ?_) (funext fun x => ?_)
  · show μ.1 x = if x = 17 then upd (upd (μ.1 17) 1 (μ.1 17 1)) 3 (μ.1 17 3) else μ.1 x
    by_cases e : x = 17
    · subst e
      rw [if_pos rfl]
      funext j
      by_cases h3 : j = 3
      · subst h3; rw [upd_s]
      · rw [upd_o _ _ h3]
        by_cases h1 : j = 1
        · subst h1; rw [upd_s]
        · rw [upd_o _ _ h1]
    · rw [if_neg e]
  · show μ.2 x = if x = 17 then μ.2 17 else μ.2 x
    by_cases e : x = 17
    · rw [if_pos e, e]
    · rw [if_neg e]
set_option maxHeartbeats 4000000 in
set_option maxRecDepth 100000 in
theorem T_X7_caught {l : Launch} {μ : PM} {V : VW} {nm sk : Nat → Int32} {nh : Nat} {fi mi : Int32} (h5 : V 0 5 = nI nh) (hh6 : nh ≤ 6) : CT l SC yX7_caught cX7_caught 5 (some .int) 3 [.ref 0, .int fi, .int mi] (sc (wr μ 22 V) nm sk) (QI fun x m => x = caughtF V nh fi mi ∧ m = sc (wr μ 22 V) nm sk) := by
  refine CT.of rfl (Nat.le_of_ble_eq_true rfl) ?_
  show PW l SC RX7 cX7_caught 5 (some .int) 3 _ 0 [(0, .ref 0), (1, .int fi), (2, .int mi)] [] (sc (wr μ 22 V) nm sk)
  have hw : isW 22 := Or.inl rfl
  refine pw_aload_n dX7_caught_0 rfl rfl ?_
  refine pw_getR dX7_caught_1 fa_X7_28 rfl ?_
  refine pw_iload_n dX7_caught_4 rfl rfl ?_
  refine pw_cVi dX7_caught_5 mv_X7_168 ckNow (T_X6_areHearers hw) rfl rfl (Nat.le_of_ble_eq_true rfl) (by decide) (fun x_5 m_5 h_5 => ?_)
  obtain ⟨rfl, rfl⟩ := h_5
  refine pw_if_eq (tgt := 21) dX7_caught_8 (by decide) (fun c_8 => ?_) (fun c_8 => ?_)
  · skip
    have hb_8 := b2_0 c_8
    refine pw_bipush (v := (-2)) dX7_caught_21 rfl ?_
    refine pw_iret dX7_caught_23 rfl ?_
    exact ⟨by unfold caughtF areF allF; rw [hb_8]; rfl, rfl⟩
  · skip
    have hb_8 := b2_n c_8
    refine pw_iload_n dX7_caught_11 rfl rfl ?_
    refine pw_iconst (v := 0) dX7_caught_12 rfl ?_
    refine pw_bipush (v := 9) dX7_caught_13 rfl ?_
    refine pw_cSi dX7_caught_15 ms_X7_116 T_X7_within rfl rfl (Nat.le_of_ble_eq_true rfl) (by decide) (fun x_15 m_15 h_15 => ?_)
    obtain ⟨rfl, rfl⟩ := h_15
    refine pw_if_ne (tgt := 24) dX7_caught_18 (by decide) (fun c_18 => ?_) (fun c_18 => ?_)
    · skip
      have hb_18 := b2_n c_18
      obtain ⟨mi, hm9, rfl⟩ := in_trueL (n := 9) hb_18 (by decide)
      refine pw_iload_n dX7_caught_24 rfl rfl ?_
      refine pw_istore_n (ls2 := [(3, _), (0, _), (1, _), (2, _)]) dX7_caught_25 rfl (by decide) rfl ?_
      refine pw_iconst (v := 0) dX7_caught_26 rfl ?_
      refine pw_istore (ls2 := [(4, _), (3, _), (0, _), (1, _), (2, _)]) dX7_caught_27 (by decide) rfl ?_
      have L_29 : ∀ (fu_29 : Nat) (i : Nat) (x : Int32), (i ≤ mi) → (x = atLastF (V 6) (V 8) nh fi (allF V) i) → mi - i < fu_29 → PW l SC RX7 cX7_caught 5 (some .int) 3 (QI fun x m => x = caughtF V nh fi (nI mi) ∧ m = sc (wr μ 22 V) nm sk) 29 [(0, .ref 0), (2, .int (nI mi)), (3, .int x), (4, .int (nI i))] [] (sc (wr μ 22 V) nm sk) := by
        intro fu_29
        induction fu_29 with
        | zero =>
          intro i x hi hx hm_29
          exact absurd hm_29 (Nat.not_lt_zero _)
        | succ fu_29 ih_29 =>
          intro i x hi hx hm_29
          refine pw_iload dX7_caught_29 rfl ?_
          refine pw_iload_n dX7_caught_31 rfl rfl ?_
          refine pw_icmp_ge (tgt := 57) dX7_caught_32 (by decide) (fun c_32 => ?_) (fun c_32 => ?_)
          · skip
            have hge := nI_geD (by omega) c_32
            refine pw_iload_n dX7_caught_57 rfl rfl ?_
            refine pw_iret dX7_caught_58 rfl ?_
            exact ⟨by unfold caughtF areF; rw [show inF fi 0 (allF V) = true from hb_8, show inF (nI mi) 0 9 = true from hb_18, cl_nI (by omega), hx, show i = mi by omega]; rfl, rfl⟩
          · skip
            have hlt := nI_ltD (by omega) c_32
            refine pw_aload_n dX7_caught_35 rfl rfl ?_
            refine pw_getR dX7_caught_36 fa_X7_28 rfl ?_
            refine pw_iload_n dX7_caught_39 rfl rfl ?_
            refine pw_aload_n dX7_caught_40 rfl rfl ?_
            refine pw_getR dX7_caught_41 fa_X7_28 rfl ?_
            refine pw_cVi dX7_caught_44 mv_X7_218 ckNow (T_X6_allHearers hw) rfl rfl (Nat.le_of_ble_eq_true rfl) (by decide) (fun x_44 m_44 h_44 => ?_)
            obtain ⟨rfl, rfl⟩ := h_44
            refine pw_cVi dX7_caught_47 mv_X7_221 ckNow (T_X6_minute hw h5 hh6) rfl rfl (Nat.le_of_ble_eq_true rfl) (by decide) (fun x_47 m_47 h_47 => ?_)
            obtain ⟨rfl, rfl⟩ := h_47
            refine pw_istore_n (ls2 := [(3, _), (0, _), (2, _), (4, _)]) dX7_caught_50 rfl (by decide) rfl ?_
            refine pw_iinc (ls2 := [(4, _), (3, _), (0, _), (2, _)]) (v := nI (i + 1)) dX7_caught_51 rfl (inc1 i) (by decide) rfl ?_
            refine pw_goto (tgt := 29) dX7_caught_54 (by decide) ?_
            refine pw_sub [2, 3, 1, 0] rfl ?_
            exact ih_29 (i + 1) _ hlt (by rw [hx]; rfl) (by omega)
      refine pw_sub [2, 4, 1, 0] rfl ?_
      exact L_29 (mi + 1) 0 fi (Nat.zero_le _) rfl (by omega)
    · skip
      have hb_18 := b2_0 c_18
      refine pw_bipush (v := (-2)) dX7_caught_21 rfl ?_
      refine pw_iret dX7_caught_23 rfl ?_
      exact ⟨by unfold caughtF areF allF; rw [hb_8, hb_18]; rfl, rfl⟩

set_option maxHeartbeats 4000000 in
set_option maxRecDepth 100000 in
theorem T_X7_panic {l : Launch} {μ : PM} {V : VW} {nm sk : Nat → Int32} {nh : Nat} {fi wh : Int32} (h5 : V 0 5 = nI nh) (hh6 : nh ≤ 6) : CT l SC yX7_panic cX7_panic 3 (some .int) 4 [.ref 0, .int fi, .int wh] (sc (wr μ 22 V) nm sk) (QI fun x m => x = panicF V nh fi wh ∧ m = sc (wr μ 22 V) nm sk) := by
  refine CT.of rfl (Nat.le_of_ble_eq_true rfl) ?_
  show PW l SC RX7 cX7_panic 3 (some .int) 4 _ 0 [(0, .ref 0), (1, .int fi), (2, .int wh)] [] (sc (wr μ 22 V) nm sk)
  have hw : isW 22 := Or.inl rfl
  refine pw_aload_n dX7_panic_0 rfl rfl ?_
  refine pw_getR dX7_panic_1 fa_X7_28 rfl ?_
  refine pw_iload_n dX7_panic_4 rfl rfl ?_
  refine pw_cVi dX7_panic_5 mv_X7_168 ckNow (T_X6_areHearers hw) rfl rfl (Nat.le_of_ble_eq_true rfl) (by decide) (fun x_5 m_5 h_5 => ?_)
  obtain ⟨rfl, rfl⟩ := h_5
  refine pw_if_eq (tgt := 20) dX7_panic_8 (by decide) (fun c_8 => ?_) (fun c_8 => ?_)
  · skip
    have hb_8 := b2_0 c_8
    refine pw_bipush (v := (-2)) dX7_panic_20 rfl ?_
    refine pw_iret dX7_panic_22 rfl ?_
    exact ⟨by unfold panicF areF allF; rw [hb_8]; rfl, rfl⟩
  · skip
    have hb_8 := b2_n c_8
    refine pw_iload_n dX7_panic_11 rfl rfl ?_
    refine pw_iconst (v := 0) dX7_panic_12 rfl ?_
    refine pw_iconst (v := 1) dX7_panic_13 rfl ?_
    refine pw_cSi dX7_panic_14 ms_X7_116 T_X7_within rfl rfl (Nat.le_of_ble_eq_true rfl) (by decide) (fun x_14 m_14 h_14 => ?_)
    obtain ⟨rfl, rfl⟩ := h_14
    refine pw_if_ne (tgt := 23) dX7_panic_17 (by decide) (fun c_17 => ?_) (fun c_17 => ?_)
    · skip
      have hb_17 := b2_n c_17
      refine pw_iload_n dX7_panic_23 rfl rfl ?_
      refine pw_if_ne (tgt := 45) dX7_panic_24 (by decide) (fun c_24 => ?_) (fun c_24 => ?_)
      · skip
        refine pw_aload_n dX7_panic_45 rfl rfl ?_
        refine pw_getR dX7_panic_46 fa_X7_28 rfl ?_
        refine pw_iload_n dX7_panic_49 rfl rfl ?_
        refine pw_aload_n dX7_panic_50 rfl rfl ?_
        refine pw_getR dX7_panic_51 fa_X7_28 rfl ?_
        refine pw_cVi dX7_panic_54 mv_X7_218 ckNow (T_X6_allHearers hw) rfl rfl (Nat.le_of_ble_eq_true rfl) (by decide) (fun x_54 m_54 h_54 => ?_)
        obtain ⟨rfl, rfl⟩ := h_54
        refine pw_cVi dX7_panic_57 mv_X7_227 ckNow (T_X6_minutesTillLast hw h5 hh6) rfl rfl (Nat.le_of_ble_eq_true rfl) (by decide) (fun x_57 m_57 h_57 => ?_)
        obtain ⟨rfl, rfl⟩ := h_57
        refine pw_iret dX7_panic_60 rfl ?_
        exact ⟨by unfold panicF areF; rw [show inF fi 0 (allF V) = true from hb_8, hb_17, if_pos (by rfl), if_neg c_24]; rfl, rfl⟩
      · skip
        refine pw_aload_n dX7_panic_27 rfl rfl ?_
        refine pw_getR dX7_panic_28 fa_X7_28 rfl ?_
        refine pw_iload_n dX7_panic_31 rfl rfl ?_
        refine pw_aload_n dX7_panic_32 rfl rfl ?_
        refine pw_getR dX7_panic_33 fa_X7_28 rfl ?_
        refine pw_cVi dX7_panic_36 mv_X7_218 ckNow (T_X6_allHearers hw) rfl rfl (Nat.le_of_ble_eq_true rfl) (by decide) (fun x_36 m_36 h_36 => ?_)
        obtain ⟨rfl, rfl⟩ := h_36
        refine pw_cVi dX7_panic_39 mv_X7_224 ckNow (T_X6_atLast hw h5 hh6) rfl rfl (Nat.le_of_ble_eq_true rfl) (by decide) (fun x_39 m_39 h_39 => ?_)
        obtain ⟨rfl, rfl⟩ := h_39
        refine pw_goto (tgt := 60) dX7_panic_42 (by decide) ?_
        refine pw_iret dX7_panic_60 rfl ?_
        exact ⟨by unfold panicF areF; rw [show inF fi 0 (allF V) = true from hb_8, hb_17, if_pos (by rfl), if_pos c_24]; rfl, rfl⟩
    · skip
      have hb_17 := b2_0 c_17
      refine pw_bipush (v := (-2)) dX7_panic_20 rfl ?_
      refine pw_iret dX7_panic_22 rfl ?_
      exact ⟨by unfold panicF areF allF; rw [hb_8, hb_17]; rfl, rfl⟩

set_option maxHeartbeats 4000000 in
set_option maxRecDepth 100000 in
theorem T_X7_seeds {l : Launch} {μ : PM} {V : VW} {nm sk : Nat → Int32} {nh : Nat} {wh : Int32} (h5 : V 0 5 = nI nh) (hh6 : nh ≤ 6) : CT l SC yX7_seeds cX7_seeds 5 (some .int) 4 [.ref 0, .int wh] (sc (wr μ 22 V) nm sk) (QI fun x m => x = seedsF V nh wh ∧ m = sc (wr μ 22 V) nm sk) := by
  refine CT.of rfl (Nat.le_of_ble_eq_true rfl) ?_
  show PW l SC RX7 cX7_seeds 5 (some .int) 4 _ 0 [(0, .ref 0), (1, .int wh)] [] (sc (wr μ 22 V) nm sk)
  have hw : isW 22 := Or.inl rfl
  have hab := aN_b hh6
  have hal := allF_n h5 hh6
  refine pw_iload_n dX7_seeds_0 rfl rfl ?_
  refine pw_iconst (v := 0) dX7_seeds_1 rfl ?_
  refine pw_iconst (v := 1) dX7_seeds_2 rfl ?_
  refine pw_cSi dX7_seeds_3 ms_X7_116 T_X7_within rfl rfl (Nat.le_of_ble_eq_true rfl) (by decide) (fun x_3 m_3 h_3 => ?_)
  obtain ⟨rfl, rfl⟩ := h_3
  refine pw_if_ne (tgt := 12) dX7_seeds_6 (by decide) (fun c_6 => ?_) (fun c_6 => ?_)
  · skip
    have hb_6 := b2_n c_6
    refine pw_aload_n dX7_seeds_12 rfl rfl ?_
    refine pw_getR dX7_seeds_13 fa_X7_28 rfl ?_
    refine pw_cVi dX7_seeds_16 mv_X7_218 ckNow (T_X6_allHearers hw) rfl rfl (Nat.le_of_ble_eq_true rfl) (by decide) (fun x_16 m_16 h_16 => ?_)
    obtain ⟨rfl, rfl⟩ := h_16
    refine pw_top (y := allF V) rfl ?_
    refine pw_istore_n (ls2 := [(2, _), (0, _), (1, _)]) dX7_seeds_19 rfl (by decide) rfl ?_
    refine pw_iload_n dX7_seeds_20 rfl rfl ?_
    refine pw_istore_n (ls2 := [(3, _), (2, _), (0, _), (1, _)]) dX7_seeds_21 rfl (by decide) rfl ?_
    refine pw_iconst (v := 0) dX7_seeds_22 rfl ?_
    refine pw_istore (ls2 := [(4, _), (3, _), (2, _), (0, _), (1, _)]) dX7_seeds_23 (by decide) rfl ?_
    have L_25 : ∀ (fu_25 : Nat) (i : Nat) (x : Int32), (i ≤ aN nh - 1) → (sdL V nh (aN nh - 1 - i) i x = sdL V nh (aN nh - 1) 0 (allF V)) → aN nh - 1 - i < fu_25 → PW l SC RX7 cX7_seeds 5 (some .int) 4 (QI fun x m => x = seedsF V nh wh ∧ m = sc (wr μ 22 V) nm sk) 25 [(0, .ref 0), (1, .int wh), (2, .int (allF V)), (3, .int x), (4, .int (nI i))] [] (sc (wr μ 22 V) nm sk) := by
      intro fu_25
      induction fu_25 with
      | zero =>
        intro i x hi hx hm_25
        exact absurd hm_25 (Nat.not_lt_zero _)
      | succ fu_25 ih_25 =>
        intro i x hi hx hm_25
        refine pw_iload dX7_seeds_25 rfl ?_
        refine pw_iload_n dX7_seeds_27 rfl rfl ?_
        refine pw_top (y := nI (aN nh - 1)) hal ?_
        refine pw_icmp_ge (tgt := 66) dX7_seeds_28 (by decide) (fun c_28 => ?_) (fun c_28 => ?_)
        · skip
          have hge := nI_geD (by omega) c_28
          refine pw_iload_n dX7_seeds_66 rfl rfl ?_
          refine pw_if_ne (tgt := 74) dX7_seeds_67 (by decide) (fun c_67 => ?_) (fun c_67 => ?_)
          · skip
            refine pw_iload_n dX7_seeds_74 rfl rfl ?_
            refine pw_cSi dX7_seeds_75 ms_X7_230 T_J6_bitCount_0f7a4 rfl rfl (Nat.le_of_ble_eq_true rfl) (by decide) (fun x_75 m_75 h_75 => ?_)
            obtain ⟨rfl, rfl⟩ := h_75
            refine pw_iret dX7_seeds_78 rfl ?_
            have e0 : aN nh - 1 - i = 0 := by omega
            rw [e0] at hx
            change x = _ at hx
            exact ⟨by unfold seedsF; rw [hb_6, if_pos rfl, if_neg c_67, hx], rfl⟩
          · skip
            refine pw_iload_n dX7_seeds_70 rfl rfl ?_
            refine pw_goto (tgt := 78) dX7_seeds_71 (by decide) ?_
            refine pw_iret dX7_seeds_78 rfl ?_
            have e0 : aN nh - 1 - i = 0 := by omega
            rw [e0] at hx
            change x = _ at hx
            exact ⟨by unfold seedsF; rw [hb_6, if_pos rfl, if_pos c_67, hx], rfl⟩
        · skip
          have hlt := nI_ltD (by omega) c_28
          refine pw_iload dX7_seeds_31 rfl ?_
          refine pw_cSi dX7_seeds_33 ms_X7_230 T_J6_bitCount_0f7a4 rfl rfl (Nat.le_of_ble_eq_true rfl) (by decide) (fun x_33 m_33 h_33 => ?_)
          obtain ⟨rfl, rfl⟩ := h_33
          refine pw_iload_n dX7_seeds_36 rfl rfl ?_
          refine pw_cSi dX7_seeds_37 ms_X7_230 T_J6_bitCount_0f7a4 rfl rfl (Nat.le_of_ble_eq_true rfl) (by decide) (fun x_37 m_37 h_37 => ?_)
          obtain ⟨rfl, rfl⟩ := h_37
          refine pw_icmp_ge (tgt := 60) dX7_seeds_40 (by decide) (fun c_40 => ?_) (fun c_40 => ?_)
          · skip
            refine pw_iinc (ls2 := [(4, _), (0, _), (1, _), (2, _), (3, _)]) (v := nI (i + 1)) dX7_seeds_60 rfl (inc1 i) (by decide) rfl ?_
            refine pw_goto (tgt := 25) dX7_seeds_63 (by decide) ?_
            refine pw_sub [1, 2, 3, 4, 0] rfl ?_
            exact ih_25 (i + 1) _ hlt (by rw [← hx, show aN nh - 1 - i = (aN nh - 1 - (i + 1)) + 1 by omega]; show _ = sdL V nh _ (i + 1) (if _ then _ else _); rw [if_pos c_40]) (by omega)
          · skip
            refine pw_aload_n dX7_seeds_43 rfl rfl ?_
            refine pw_getR dX7_seeds_44 fa_X7_28 rfl ?_
            refine pw_iload dX7_seeds_47 rfl ?_
            refine pw_iload_n dX7_seeds_49 rfl rfl ?_
            refine pw_cVi dX7_seeds_50 mv_X7_224 ckNow (T_X6_atLast hw h5 hh6) rfl rfl (Nat.le_of_ble_eq_true rfl) (by decide) (fun x_50 m_50 h_50 => ?_)
            obtain ⟨rfl, rfl⟩ := h_50
            refine pw_iload_n dX7_seeds_53 rfl rfl ?_
            refine pw_icmp_ne (tgt := 60) dX7_seeds_54 (by decide) (fun c_54 => ?_) (fun c_54 => ?_)
            · skip
              refine pw_iinc (ls2 := [(4, _), (0, _), (1, _), (2, _), (3, _)]) (v := nI (i + 1)) dX7_seeds_60 rfl (inc1 i) (by decide) rfl ?_
              refine pw_goto (tgt := 25) dX7_seeds_63 (by decide) ?_
              refine pw_sub [1, 2, 3, 4, 0] rfl ?_
              exact ih_25 (i + 1) _ hlt (by rw [← hx, show aN nh - 1 - i = (aN nh - 1 - (i + 1)) + 1 by omega]; show _ = sdL V nh _ (i + 1) (if _ then _ else if _ then _ else _); rw [if_neg c_40, if_neg c_54]) (by omega)
            · skip
              refine pw_iload dX7_seeds_57 rfl ?_
              refine pw_istore_n (ls2 := [(3, _), (0, _), (1, _), (2, _), (4, _)]) dX7_seeds_59 rfl (by decide) rfl ?_
              refine pw_iinc (ls2 := [(4, _), (3, _), (0, _), (1, _), (2, _)]) (v := nI (i + 1)) dX7_seeds_60 rfl (inc1 i) (by decide) rfl ?_
              refine pw_goto (tgt := 25) dX7_seeds_63 (by decide) ?_
              refine pw_sub [2, 3, 4, 1, 0] rfl ?_
              exact ih_25 (i + 1) _ hlt (by rw [← hx, show aN nh - 1 - i = (aN nh - 1 - (i + 1)) + 1 by omega]; show _ = sdL V nh _ (i + 1) (if _ then _ else if _ then _ else _); rw [if_neg c_40, if_pos c_54]) (by omega)
    refine pw_sub [3, 4, 2, 1, 0] rfl ?_
    exact L_25 (aN nh) 0 (allF V) (Nat.zero_le _) rfl (by omega)
  · skip
    have hb_6 := b2_0 c_6
    refine pw_bipush (v := (-2)) dX7_seeds_9 rfl ?_
    refine pw_iret dX7_seeds_11 rfl ?_
    exact ⟨by unfold seedsF; rw [hb_6]; rfl, rfl⟩

set_option maxHeartbeats 4000000 in
set_option maxRecDepth 100000 in
theorem T_X7_stop {l : Launch} {μ : PM} {V : VW} {nm sk : Nat → Int32} {nh : Nat} {fi ma : Int32} (h5 : V 0 5 = nI nh) (hh6 : nh ≤ 6) : CT l SC yX7_stop cX7_stop 7 (some .int) 4 [.ref 0, .int fi, .int ma] (sc (wr μ 22 V) nm sk) (QI fun x m => x = stopF V nh fi ma ∧ m = sc (wr μ 22 V) nm sk) := by
  refine CT.of rfl (Nat.le_of_ble_eq_true rfl) ?_
  show PW l SC RX7 cX7_stop 7 (some .int) 4 _ 0 [(0, .ref 0), (1, .int fi), (2, .int ma)] [] (sc (wr μ 22 V) nm sk)
  have hw : isW 22 := Or.inl rfl
  have hab := aN_b hh6
  have hal := allF_n h5 hh6
  refine pw_aload_n dX7_stop_0 rfl rfl ?_
  refine pw_getR dX7_stop_1 fa_X7_28 rfl ?_
  refine pw_iload_n dX7_stop_4 rfl rfl ?_
  refine pw_cVi dX7_stop_5 mv_X7_168 ckNow (T_X6_areHearers hw) rfl rfl (Nat.le_of_ble_eq_true rfl) (by decide) (fun x_5 m_5 h_5 => ?_)
  obtain ⟨rfl, rfl⟩ := h_5
  refine pw_if_eq (tgt := 21) dX7_stop_8 (by decide) (fun c_8 => ?_) (fun c_8 => ?_)
  · skip
    have hb_8 := b2_0 c_8
    refine pw_bipush (v := (-2)) dX7_stop_21 rfl ?_
    refine pw_iret dX7_stop_23 rfl ?_
    exact ⟨by unfold stopF areF allF; rw [hb_8]; rfl, rfl⟩
  · skip
    have hb_8 := b2_n c_8
    refine pw_iload_n dX7_stop_11 rfl rfl ?_
    refine pw_iconst (v := 0) dX7_stop_12 rfl ?_
    refine pw_bipush (v := 6) dX7_stop_13 rfl ?_
    refine pw_cSi dX7_stop_15 ms_X7_116 T_X7_within rfl rfl (Nat.le_of_ble_eq_true rfl) (by decide) (fun x_15 m_15 h_15 => ?_)
    obtain ⟨rfl, rfl⟩ := h_15
    refine pw_if_ne (tgt := 24) dX7_stop_18 (by decide) (fun c_18 => ?_) (fun c_18 => ?_)
    · skip
      have hb_18 := b2_n c_18
      refine pw_aload_n dX7_stop_24 rfl rfl ?_
      refine pw_getR dX7_stop_25 fa_X7_28 rfl ?_
      refine pw_cVi dX7_stop_28 mv_X7_218 ckNow (T_X6_allHearers hw) rfl rfl (Nat.le_of_ble_eq_true rfl) (by decide) (fun x_28 m_28 h_28 => ?_)
      obtain ⟨rfl, rfl⟩ := h_28
      refine pw_top (y := allF V) rfl ?_
      refine pw_istore_n (ls2 := [(3, _), (0, _), (1, _), (2, _)]) dX7_stop_31 rfl (by decide) rfl ?_
      refine pw_iconst (v := (-1)) dX7_stop_32 rfl ?_
      refine pw_istore (ls2 := [(4, _), (3, _), (0, _), (1, _), (2, _)]) dX7_stop_33 (by decide) rfl ?_
      refine pw_iconst (v := 0) dX7_stop_35 rfl ?_
      refine pw_istore (ls2 := [(5, _), (4, _), (3, _), (0, _), (1, _), (2, _)]) dX7_stop_36 (by decide) rfl ?_
      have L_38 : ∀ (fu_38 : Nat) (i : Nat) (x : Int32), (i ≤ aN nh) → (spL V nh fi ma (aN nh - i) i x = spL V nh fi ma (aN nh) 0 (-1)) → aN nh - i < fu_38 → PW l SC RX7 cX7_stop 7 (some .int) 4 (QI fun x m => x = stopF V nh fi ma ∧ m = sc (wr μ 22 V) nm sk) 38 [(0, .ref 0), (1, .int fi), (2, .int ma), (3, .int (allF V)), (4, .int x), (5, .int (nI i))] [] (sc (wr μ 22 V) nm sk) := by
        intro fu_38
        induction fu_38 with
        | zero =>
          intro i x hi hx hm_38
          exact absurd hm_38 (Nat.not_lt_zero _)
        | succ fu_38 ih_38 =>
          intro i x hi hx hm_38
          refine pw_iload dX7_stop_38 rfl ?_
          refine pw_iload_n dX7_stop_40 rfl rfl ?_
          refine pw_top (y := nI (aN nh - 1)) hal ?_
          refine pw_icmp_gt (tgt := 113) dX7_stop_41 (by decide) (fun c_41 => ?_) (fun c_41 => ?_)
          · skip
            have hge := (nI_ltI (by omega) (by omega)).mp c_41
            refine pw_iload dX7_stop_113 rfl ?_
            refine pw_iret dX7_stop_115 rfl ?_
            have e0 : aN nh - i = 0 := by omega
            rw [e0] at hx
            change x = _ at hx
            exact ⟨by unfold stopF areF; rw [show inF fi 0 (allF V) = true from hb_8, hb_18, if_pos (by rfl), hx], rfl⟩
          · skip
            have hlt : i < aN nh := by
              rcases Nat.lt_or_ge i (aN nh) with q | q
              · exact q
              · exact absurd (nI_lt (show aN nh - 1 < i by omega) (by omega)) c_41
            refine pw_iload dX7_stop_44 rfl ?_
            refine pw_iconst (v := (-1)) dX7_stop_46 rfl ?_
            refine pw_icmp_eq (tgt := 63) dX7_stop_47 (by decide) (fun c_47 => ?_) (fun c_47 => ?_)
            · skip
              refine pw_iconst (v := 1) dX7_stop_63 rfl ?_
              refine pw_goto (tgt := 68) dX7_stop_64 (by decide) ?_
              refine pw_istore (ls2 := [(6, _), (0, _), (1, _), (2, _), (3, _), (4, _), (5, _)]) dX7_stop_68 (by decide) rfl ?_
              refine pw_iload dX7_stop_70 rfl ?_
              refine pw_if_eq (tgt := 107) dX7_stop_72 (by decide) (fun c_72 => ?_) (fun c_72 => ?_)
              · skip
                exact absurd c_72 (by decide)
              · skip
                refine pw_iload dX7_stop_75 rfl ?_
                refine pw_iload_n dX7_stop_77 rfl rfl ?_
                refine pw_iand dX7_stop_78 ?_
                refine pw_if_ne (tgt := 107) dX7_stop_79 (by decide) (fun c_79 => ?_) (fun c_79 => ?_)
                · skip
                  refine pw_iinc (ls2 := [(5, _), (6, _), (0, _), (1, _), (2, _), (3, _), (4, _)]) (v := nI (i + 1)) dX7_stop_107 rfl (inc1 i) (by decide) rfl ?_
                  refine pw_goto (tgt := 38) dX7_stop_110 (by decide) ?_
                  refine pw_sub [2, 3, 4, 5, 6, 0] rfl ?_
                  exact ih_38 (i + 1) _ (by omega) (by rw [← hx, show aN nh - i = (aN nh - (i + 1)) + 1 by omega]; show _ = spL V nh fi ma _ (i + 1) _; rw [show spB x i = true from (by unfold spB; rw [if_pos c_47]), if_pos rfl, if_neg c_79]) (by omega)
                · skip
                  refine pw_aload_n dX7_stop_82 rfl rfl ?_
                  refine pw_getR dX7_stop_83 fa_X7_28 rfl ?_
                  refine pw_iload_n dX7_stop_86 rfl rfl ?_
                  refine pw_iload_n dX7_stop_87 rfl rfl ?_
                  refine pw_iload dX7_stop_88 rfl ?_
                  refine pw_iconst (v := (-1)) dX7_stop_90 rfl ?_
                  refine pw_ixor dX7_stop_91 ?_
                  refine pw_iand dX7_stop_92 ?_
                  refine pw_cVi dX7_stop_93 mv_X7_224 ckNow (T_X6_atLast hw h5 hh6) rfl rfl (Nat.le_of_ble_eq_true rfl) (by decide) (fun x_93 m_93 h_93 => ?_)
                  obtain ⟨rfl, rfl⟩ := h_93
                  refine pw_cSi dX7_stop_96 ms_X7_230 T_J6_bitCount_0f7a4 rfl rfl (Nat.le_of_ble_eq_true rfl) (by decide) (fun x_96 m_96 h_96 => ?_)
                  obtain ⟨rfl, rfl⟩ := h_96
                  refine pw_iload_n dX7_stop_99 rfl rfl ?_
                  refine pw_icmp_gt (tgt := 107) dX7_stop_100 (by decide) (fun c_100 => ?_) (fun c_100 => ?_)
                  · skip
                    refine pw_iinc (ls2 := [(5, _), (6, _), (0, _), (1, _), (2, _), (3, _), (4, _)]) (v := nI (i + 1)) dX7_stop_107 rfl (inc1 i) (by decide) rfl ?_
                    refine pw_goto (tgt := 38) dX7_stop_110 (by decide) ?_
                    refine pw_sub [2, 3, 4, 5, 6, 0] rfl ?_
                    exact ih_38 (i + 1) _ (by omega) (by rw [← hx, show aN nh - i = (aN nh - (i + 1)) + 1 by omega]; show _ = spL V nh fi ma _ (i + 1) _; rw [show spB x i = true from (by unfold spB; rw [if_pos c_47]), if_pos rfl, if_pos c_79, if_pos c_100]) (by omega)
                  · skip
                    refine pw_iload dX7_stop_103 rfl ?_
                    refine pw_istore (ls2 := [(4, _), (6, _), (0, _), (1, _), (2, _), (3, _), (5, _)]) dX7_stop_105 (by decide) rfl ?_
                    refine pw_iinc (ls2 := [(5, _), (4, _), (6, _), (0, _), (1, _), (2, _), (3, _)]) (v := nI (i + 1)) dX7_stop_107 rfl (inc1 i) (by decide) rfl ?_
                    refine pw_goto (tgt := 38) dX7_stop_110 (by decide) ?_
                    refine pw_sub [3, 4, 5, 6, 1, 0] rfl ?_
                    exact ih_38 (i + 1) _ (by omega) (by rw [← hx, show aN nh - i = (aN nh - (i + 1)) + 1 by omega]; show _ = spL V nh fi ma _ (i + 1) _; rw [show spB x i = true from (by unfold spB; rw [if_pos c_47]), if_pos rfl, if_pos c_79, if_neg c_100]) (by omega)
            · skip
              refine pw_iload dX7_stop_50 rfl ?_
              refine pw_cSi dX7_stop_52 ms_X7_230 T_J6_bitCount_0f7a4 rfl rfl (Nat.le_of_ble_eq_true rfl) (by decide) (fun x_52 m_52 h_52 => ?_)
              obtain ⟨rfl, rfl⟩ := h_52
              refine pw_iload dX7_stop_55 rfl ?_
              refine pw_cSi dX7_stop_57 ms_X7_230 T_J6_bitCount_0f7a4 rfl rfl (Nat.le_of_ble_eq_true rfl) (by decide) (fun x_57 m_57 h_57 => ?_)
              obtain ⟨rfl, rfl⟩ := h_57
              refine pw_icmp_ge (tgt := 67) dX7_stop_60 (by decide) (fun c_60 => ?_) (fun c_60 => ?_)
              · skip
                refine pw_iconst (v := 0) dX7_stop_67 rfl ?_
                refine pw_istore (ls2 := [(6, _), (0, _), (1, _), (2, _), (3, _), (4, _), (5, _)]) dX7_stop_68 (by decide) rfl ?_
                refine pw_iload dX7_stop_70 rfl ?_
                refine pw_if_eq (tgt := 107) dX7_stop_72 (by decide) (fun c_72 => ?_) (fun c_72 => ?_)
                · skip
                  refine pw_iinc (ls2 := [(5, _), (6, _), (0, _), (1, _), (2, _), (3, _), (4, _)]) (v := nI (i + 1)) dX7_stop_107 rfl (inc1 i) (by decide) rfl ?_
                  refine pw_goto (tgt := 38) dX7_stop_110 (by decide) ?_
                  refine pw_sub [2, 3, 4, 5, 6, 0] rfl ?_
                  exact ih_38 (i + 1) _ (by omega) (by rw [← hx, show aN nh - i = (aN nh - (i + 1)) + 1 by omega]; show _ = spL V nh fi ma _ (i + 1) _; rw [show spB x i = false from (by unfold spB; rw [if_neg c_47, decide_eq_true c_60]; rfl), if_neg Bool.false_ne_true]) (by omega)
                · skip
                  exact absurd rfl c_72
              · skip
                refine pw_iconst (v := 1) dX7_stop_63 rfl ?_
                refine pw_goto (tgt := 68) dX7_stop_64 (by decide) ?_
                refine pw_istore (ls2 := [(6, _), (0, _), (1, _), (2, _), (3, _), (4, _), (5, _)]) dX7_stop_68 (by decide) rfl ?_
                refine pw_iload dX7_stop_70 rfl ?_
                refine pw_if_eq (tgt := 107) dX7_stop_72 (by decide) (fun c_72 => ?_) (fun c_72 => ?_)
                · skip
                  exact absurd c_72 (by decide)
                · skip
                  refine pw_iload dX7_stop_75 rfl ?_
                  refine pw_iload_n dX7_stop_77 rfl rfl ?_
                  refine pw_iand dX7_stop_78 ?_
                  refine pw_if_ne (tgt := 107) dX7_stop_79 (by decide) (fun c_79 => ?_) (fun c_79 => ?_)
                  · skip
                    refine pw_iinc (ls2 := [(5, _), (6, _), (0, _), (1, _), (2, _), (3, _), (4, _)]) (v := nI (i + 1)) dX7_stop_107 rfl (inc1 i) (by decide) rfl ?_
                    refine pw_goto (tgt := 38) dX7_stop_110 (by decide) ?_
                    refine pw_sub [2, 3, 4, 5, 6, 0] rfl ?_
                    exact ih_38 (i + 1) _ (by omega) (by rw [← hx, show aN nh - i = (aN nh - (i + 1)) + 1 by omega]; show _ = spL V nh fi ma _ (i + 1) _; rw [show spB x i = true from (by unfold spB; rw [if_neg c_47, decide_eq_false c_60]; rfl), if_pos rfl, if_neg c_79]) (by omega)
                  · skip
                    refine pw_aload_n dX7_stop_82 rfl rfl ?_
                    refine pw_getR dX7_stop_83 fa_X7_28 rfl ?_
                    refine pw_iload_n dX7_stop_86 rfl rfl ?_
                    refine pw_iload_n dX7_stop_87 rfl rfl ?_
                    refine pw_iload dX7_stop_88 rfl ?_
                    refine pw_iconst (v := (-1)) dX7_stop_90 rfl ?_
                    refine pw_ixor dX7_stop_91 ?_
                    refine pw_iand dX7_stop_92 ?_
                    refine pw_cVi dX7_stop_93 mv_X7_224 ckNow (T_X6_atLast hw h5 hh6) rfl rfl (Nat.le_of_ble_eq_true rfl) (by decide) (fun x_93 m_93 h_93 => ?_)
                    obtain ⟨rfl, rfl⟩ := h_93
                    refine pw_cSi dX7_stop_96 ms_X7_230 T_J6_bitCount_0f7a4 rfl rfl (Nat.le_of_ble_eq_true rfl) (by decide) (fun x_96 m_96 h_96 => ?_)
                    obtain ⟨rfl, rfl⟩ := h_96
                    refine pw_iload_n dX7_stop_99 rfl rfl ?_
                    refine pw_icmp_gt (tgt := 107) dX7_stop_100 (by decide) (fun c_100 => ?_) (fun c_100 => ?_)
                    · skip
                      refine pw_iinc (ls2 := [(5, _), (6, _), (0, _), (1, _), (2, _), (3, _), (4, _)]) (v := nI (i + 1)) dX7_stop_107 rfl (inc1 i) (by decide) rfl ?_
                      refine pw_goto (tgt := 38) dX7_stop_110 (by decide) ?_
                      refine pw_sub [2, 3, 4, 5, 6, 0] rfl ?_
                      exact ih_38 (i + 1) _ (by omega) (by rw [← hx, show aN nh - i = (aN nh - (i + 1)) + 1 by omega]; show _ = spL V nh fi ma _ (i + 1) _; rw [show spB x i = true from (by unfold spB; rw [if_neg c_47, decide_eq_false c_60]; rfl), if_pos rfl, if_pos c_79, if_pos c_100]) (by omega)
                    · skip
                      refine pw_iload dX7_stop_103 rfl ?_
                      refine pw_istore (ls2 := [(4, _), (6, _), (0, _), (1, _), (2, _), (3, _), (5, _)]) dX7_stop_105 (by decide) rfl ?_
                      refine pw_iinc (ls2 := [(5, _), (4, _), (6, _), (0, _), (1, _), (2, _), (3, _)]) (v := nI (i + 1)) dX7_stop_107 rfl (inc1 i) (by decide) rfl ?_
                      refine pw_goto (tgt := 38) dX7_stop_110 (by decide) ?_
                      refine pw_sub [3, 4, 5, 6, 1, 0] rfl ?_
                      exact ih_38 (i + 1) _ (by omega) (by rw [← hx, show aN nh - i = (aN nh - (i + 1)) + 1 by omega]; show _ = spL V nh fi ma _ (i + 1) _; rw [show spB x i = true from (by unfold spB; rw [if_neg c_47, decide_eq_false c_60]; rfl), if_pos rfl, if_pos c_79, if_neg c_100]) (by omega)
      refine pw_sub [3, 4, 5, 2, 1, 0] rfl ?_
      exact L_38 (aN nh + 1) 0 (-1) (Nat.zero_le _) rfl (by omega)
    · skip
      have hb_18 := b2_0 c_18
      refine pw_bipush (v := (-2)) dX7_stop_21 rfl ?_
      refine pw_iret dX7_stop_23 rfl ?_
      exact ⟨by unfold stopF areF allF; rw [hb_8, hb_18]; rfl, rfl⟩

set_option maxHeartbeats 4000000 in
set_option maxRecDepth 100000 in
theorem T_X7_spread {l : Launch} {μ : PM} {V : VW} {nm sk : Nat → Int32} {nj nh : Nat} {j fi da : Int32} (h1 : V 0 1 = nI nj) (hj5 : nj ≤ 5) (h5 : V 0 5 = nI nh) (hh6 : nh ≤ 6) : CT l SC yX7_spread cX7_spread 4 (some .int) 4 [.ref 0, .int j, .int fi, .int da] (sc (wr μ 22 V) nm sk) (QI fun x m => x = spreadF V nh j fi da ∧ m = sc (wr μ 22 V) nm sk) := by
  refine CT.of rfl (Nat.le_of_ble_eq_true rfl) ?_
  show PW l SC RX7 cX7_spread 4 (some .int) 4 _ 0 [(0, .ref 0), (1, .int j), (2, .int fi), (3, .int da)] [] (sc (wr μ 22 V) nm sk)
  have hw : isW 22 := Or.inl rfl
  refine pw_aload_n dX7_spread_0 rfl rfl ?_
  refine pw_getR dX7_spread_1 fa_X7_28 rfl ?_
  refine pw_iload_n dX7_spread_4 rfl rfl ?_
  refine pw_cVi dX7_spread_5 mv_X7_138 ckNow (T_X6_hasJoke hw) rfl rfl (Nat.le_of_ble_eq_true rfl) (by decide) (fun x_5 m_5 h_5 => ?_)
  obtain ⟨rfl, rfl⟩ := h_5
  refine pw_if_ne (tgt := 14) dX7_spread_8 (by decide) (fun c_8 => ?_) (fun c_8 => ?_)
  · skip
    have hb_8 := b2_n c_8
    refine pw_aload_n dX7_spread_14 rfl rfl ?_
    refine pw_getR dX7_spread_15 fa_X7_28 rfl ?_
    refine pw_iload_n dX7_spread_18 rfl rfl ?_
    refine pw_cVi dX7_spread_19 mv_X7_168 ckNow (T_X6_areHearers hw) rfl rfl (Nat.le_of_ble_eq_true rfl) (by decide) (fun x_19 m_19 h_19 => ?_)
    obtain ⟨rfl, rfl⟩ := h_19
    refine pw_if_eq (tgt := 35) dX7_spread_22 (by decide) (fun c_22 => ?_) (fun c_22 => ?_)
    · skip
      have hb_22 := b2_0 c_22
      refine pw_bipush (v := (-7)) dX7_spread_35 rfl ?_
      refine pw_iret dX7_spread_37 rfl ?_
      exact ⟨by unfold spreadF jkF areF allF; rw [hb_8, hb_22]; rfl, rfl⟩
    · skip
      have hb_22 := b2_n c_22
      refine pw_iload_n dX7_spread_25 rfl rfl ?_
      refine pw_iconst (v := 0) dX7_spread_26 rfl ?_
      refine pw_bipush (v := 20) dX7_spread_27 rfl ?_
      refine pw_cSi dX7_spread_29 ms_X7_116 T_X7_within rfl rfl (Nat.le_of_ble_eq_true rfl) (by decide) (fun x_29 m_29 h_29 => ?_)
      obtain ⟨rfl, rfl⟩ := h_29
      refine pw_if_ne (tgt := 38) dX7_spread_32 (by decide) (fun c_32 => ?_) (fun c_32 => ?_)
      · skip
        have hb_32 := b2_n c_32
        refine pw_aload_n dX7_spread_38 rfl rfl ?_
        refine pw_getR dX7_spread_39 fa_X7_28 rfl ?_
        refine pw_iload_n dX7_spread_42 rfl rfl ?_
        refine pw_iload_n dX7_spread_43 rfl rfl ?_
        refine pw_iload_n dX7_spread_44 rfl rfl ?_
        obtain ⟨j, hlj, hsj, rfl⟩ := jk_of h1 hj5 hb_8
        obtain ⟨da, hd20, rfl⟩ := in_trueL (n := 20) hb_32 (by decide)
        refine pw_cVi dX7_spread_45 mv_X7_235 ckNow (T_X6_haveBehind hw h5 hh6 hsj (by omega)) rfl rfl (Nat.le_of_ble_eq_true rfl) (by decide) (fun x_45 m_45 h_45 => ?_)
        obtain ⟨rfl, rfl⟩ := h_45
        refine pw_iret dX7_spread_48 rfl ?_
        exact ⟨by unfold spreadF jkF areF; rw [hb_8, show inF fi 0 (allF V) = true from hb_22, show inF (nI da) 0 20 = true from hb_32, cl_nI (show j < 2 ^ 31 by omega), cl_nI (show da < 2 ^ 31 by omega)]; rfl, rfl⟩
      · skip
        have hb_32 := b2_0 c_32
        refine pw_bipush (v := (-7)) dX7_spread_35 rfl ?_
        refine pw_iret dX7_spread_37 rfl ?_
        exact ⟨by unfold spreadF jkF areF allF; rw [hb_8, hb_22, hb_32]; rfl, rfl⟩
  · skip
    have hb_8 := b2_0 c_8
    refine pw_bipush (v := (-5)) dX7_spread_11 rfl ?_
    refine pw_iret dX7_spread_13 rfl ?_
    exact ⟨by unfold spreadF jkF; rw [hb_8]; rfl, rfl⟩

set_option maxHeartbeats 4000000 in
set_option maxRecDepth 100000 in
theorem T_X7_through {l : Launch} {μ : PM} {V : VW} {nm sk : Nat → Int32} {nj nh : Nat} {j h : Int32} (h1 : V 0 1 = nI nj) (hj5 : nj ≤ 5) (h5 : V 0 5 = nI nh) (hh6 : nh ≤ 6) : CT l SC yX7_through cX7_through 5 (some .int) 4 [.ref 0, .int j, .int h] (sc (wr μ 22 V) nm sk) (QI fun x m => x = throughF V nh j h ∧ m = sc (wr μ 22 V) nm sk) := by
  refine CT.of rfl (Nat.le_of_ble_eq_true rfl) ?_
  show PW l SC RX7 cX7_through 5 (some .int) 4 _ 0 [(0, .ref 0), (1, .int j), (2, .int h)] [] (sc (wr μ 22 V) nm sk)
  have hw : isW 22 := Or.inl rfl
  refine pw_aload_n dX7_through_0 rfl rfl ?_
  refine pw_iload_n dX7_through_1 rfl rfl ?_
  refine pw_iload_n dX7_through_2 rfl rfl ?_
  refine pw_cVi dX7_through_3 mv_X7_178 ckMain T_X7_refusedTelling rfl rfl (Nat.le_of_ble_eq_true rfl) (by decide) (fun x_3 m_3 h_3 => ?_)
  obtain ⟨rfl, rfl⟩ := h_3
  refine pw_istore_n (ls2 := [(3, _), (0, _), (1, _), (2, _)]) dX7_through_6 rfl (by decide) rfl ?_
  refine pw_iload_n dX7_through_7 rfl rfl ?_
  refine pw_if_eq (tgt := 13) dX7_through_8 (by decide) (fun c_8 => ?_) (fun c_8 => ?_)
  · skip
    have hr0 : refT V j h = 0 := c_8
    obtain ⟨hjk, hhk⟩ := refT_0 hr0
    obtain ⟨j, hlj, hsj, rfl⟩ := jk_of h1 hj5 hjk
    obtain ⟨h, hlh, hsh, rfl⟩ := hr_of h5 hh6 hhk
    refine pw_iconst (v := 0) dX7_through_13 rfl ?_
    refine pw_istore (ls2 := [(4, _), (3, _), (0, _), (1, _), (2, _)]) dX7_through_14 (by decide) rfl ?_
    have L_16 : ∀ (fu_16 : Nat) (i : Nat), (i ≤ 7) → (thL V nh j h (7 - i) i = thL V nh j h 7 0) → 7 - i < fu_16 → PW l SC RX7 cX7_through 5 (some .int) 4 (QI fun x m => x = throughF V nh (nI j) (nI h) ∧ m = sc (wr μ 22 V) nm sk) 16 [(0, .ref 0), (1, .int (nI j)), (2, .int (nI h)), (4, .int (nI i))] [] (sc (wr μ 22 V) nm sk) := by
      intro fu_16
      induction fu_16 with
      | zero =>
        intro i hi hx hm_16
        exact absurd hm_16 (Nat.not_lt_zero _)
      | succ fu_16 ih_16 =>
        intro i hi hx hm_16
        refine pw_iload dX7_through_16 rfl ?_
        refine pw_bipush (v := 6) dX7_through_18 rfl ?_
        refine pw_icmp_gt (tgt := 55) dX7_through_20 (by decide) (fun c_20 => ?_) (fun c_20 => ?_)
        · skip
          have hge := (nI_ltI (a := 6) (b := i) (by decide) (by omega)).mp c_20
          refine pw_iconst (v := (-1)) dX7_through_55 rfl ?_
          refine pw_iret dX7_through_56 rfl ?_
          exact ⟨by unfold throughF; rw [if_pos hr0, cl_nI (show j < 2 ^ 31 by omega), cl_nI (show h < 2 ^ 31 by omega), ← hx, show 7 - i = 0 by omega]; rfl, rfl⟩
        · skip
          have hlt : i < 7 := by
            rcases Nat.lt_or_ge i 7 with q | q
            · exact q
            · exact absurd (nI_lt (show 6 < i by omega) (by omega)) c_20
          refine pw_aload_n dX7_through_23 rfl rfl ?_
          refine pw_getR dX7_through_24 fa_X7_28 rfl ?_
          refine pw_iload_n dX7_through_27 rfl rfl ?_
          refine pw_iconst (v := 1) dX7_through_28 rfl ?_
          refine pw_iload_n dX7_through_29 rfl rfl ?_
          refine pw_ishl dX7_through_30 ?_
          refine pw_iload dX7_through_31 rfl ?_
          refine pw_cVi dX7_through_33 mv_X7_235 ckNow (T_X6_haveBehind (d := i) hw h5 hh6 hsj (by omega)) rfl rfl (Nat.le_of_ble_eq_true rfl) (by decide) (fun x_33 m_33 h_33 => ?_)
          obtain ⟨rfl, rfl⟩ := h_33
          refine pw_aload_n dX7_through_36 rfl rfl ?_
          refine pw_getR dX7_through_37 fa_X7_28 rfl ?_
          refine pw_cVi dX7_through_40 mv_X7_218 ckNow (T_X6_allHearers hw) rfl rfl (Nat.le_of_ble_eq_true rfl) (by decide) (fun x_40 m_40 h_40 => ?_)
          obtain ⟨rfl, rfl⟩ := h_40
          refine pw_icmp_ne (tgt := 49) dX7_through_43 (by decide) (fun c_43 => ?_) (fun c_43 => ?_)
          · skip
            change ¬ (hbF V nh j (shF h) i = allF V) at c_43
            refine pw_iinc (ls2 := [(4, _), (0, _), (1, _), (2, _)]) (v := nI (i + 1)) dX7_through_49 rfl (inc1 i) (by decide) rfl ?_
            refine pw_goto (tgt := 16) dX7_through_52 (by decide) ?_
            refine pw_sub [1, 2, 3, 0] rfl ?_
            exact ih_16 (i + 1) hlt (by rw [← hx, show 7 - i = (7 - (i + 1)) + 1 by omega]; show _ = if _ then _ else _; rw [if_neg c_43]) (by omega)
          · skip
            change hbF V nh j (shF h) i = allF V at c_43
            refine pw_iload dX7_through_46 rfl ?_
            refine pw_iret dX7_through_48 rfl ?_
            exact ⟨by unfold throughF; rw [if_pos hr0, cl_nI (show j < 2 ^ 31 by omega), cl_nI (show h < 2 ^ 31 by omega), ← hx, show 7 - i = (7 - (i + 1)) + 1 by omega]; show _ = if _ then _ else _; rw [if_pos c_43], rfl⟩
    refine pw_sub [2, 3, 4, 0] rfl ?_
    exact L_16 8 0 (Nat.zero_le _) rfl (by omega)
  · skip
    refine pw_iload_n dX7_through_11 rfl rfl ?_
    refine pw_iret dX7_through_12 rfl ?_
    exact ⟨by unfold throughF; rw [if_neg c_8], rfl⟩

set_option maxHeartbeats 4000000 in
set_option maxRecDepth 100000 in
theorem T_X7_origin {l : Launch} {μ : PM} {V : VW} {nm sk : Nat → Int32} {nj nh : Nat} {j ha da : Int32} (h1 : V 0 1 = nI nj) (hj5 : nj ≤ 5) (h5 : V 0 5 = nI nh) (hh6 : nh ≤ 6) : CT l SC yX7_origin cX7_origin 6 (some .int) 4 [.ref 0, .int j, .int ha, .int da] (sc (wr μ 22 V) nm sk) (QI fun x m => x = originF V nh j ha da ∧ m = sc (wr μ 22 V) nm sk) := by
  refine CT.of rfl (Nat.le_of_ble_eq_true rfl) ?_
  show PW l SC RX7 cX7_origin 6 (some .int) 4 _ 0 [(0, .ref 0), (1, .int j), (2, .int ha), (3, .int da)] [] (sc (wr μ 22 V) nm sk)
  have hw : isW 22 := Or.inl rfl
  refine pw_aload_n dX7_origin_0 rfl rfl ?_
  refine pw_getR dX7_origin_1 fa_X7_28 rfl ?_
  refine pw_iload_n dX7_origin_4 rfl rfl ?_
  refine pw_cVi dX7_origin_5 mv_X7_138 ckNow (T_X6_hasJoke hw) rfl rfl (Nat.le_of_ble_eq_true rfl) (by decide) (fun x_5 m_5 h_5 => ?_)
  obtain ⟨rfl, rfl⟩ := h_5
  refine pw_if_ne (tgt := 14) dX7_origin_8 (by decide) (fun c_8 => ?_) (fun c_8 => ?_)
  · skip
    have hb_8 := b2_n c_8
    refine pw_aload_n dX7_origin_14 rfl rfl ?_
    refine pw_getR dX7_origin_15 fa_X7_28 rfl ?_
    refine pw_iload_n dX7_origin_18 rfl rfl ?_
    refine pw_cVi dX7_origin_19 mv_X7_168 ckNow (T_X6_areHearers hw) rfl rfl (Nat.le_of_ble_eq_true rfl) (by decide) (fun x_19 m_19 h_19 => ?_)
    obtain ⟨rfl, rfl⟩ := h_19
    refine pw_if_eq (tgt := 35) dX7_origin_22 (by decide) (fun c_22 => ?_) (fun c_22 => ?_)
    · skip
      have hb_22 := b2_0 c_22
      refine pw_bipush (v := (-7)) dX7_origin_35 rfl ?_
      refine pw_iret dX7_origin_37 rfl ?_
      exact ⟨by unfold originF jkF areF allF; rw [hb_8, hb_22]; rfl, rfl⟩
    · skip
      have hb_22 := b2_n c_22
      refine pw_iload_n dX7_origin_25 rfl rfl ?_
      refine pw_iconst (v := 0) dX7_origin_26 rfl ?_
      refine pw_bipush (v := 20) dX7_origin_27 rfl ?_
      refine pw_cSi dX7_origin_29 ms_X7_116 T_X7_within rfl rfl (Nat.le_of_ble_eq_true rfl) (by decide) (fun x_29 m_29 h_29 => ?_)
      obtain ⟨rfl, rfl⟩ := h_29
      refine pw_if_ne (tgt := 38) dX7_origin_32 (by decide) (fun c_32 => ?_) (fun c_32 => ?_)
      · skip
        have hb_32 := b2_n c_32
        obtain ⟨j, hlj, hsj, rfl⟩ := jk_of h1 hj5 hb_8
        obtain ⟨da, hd20, rfl⟩ := in_trueL (n := 20) hb_32 (by decide)
        refine pw_iconst (v := 0) dX7_origin_38 rfl ?_
        refine pw_istore (ls2 := [(4, _), (0, _), (1, _), (2, _), (3, _)]) dX7_origin_39 (by decide) rfl ?_
        refine pw_iconst (v := 0) dX7_origin_41 rfl ?_
        refine pw_istore (ls2 := [(5, _), (4, _), (0, _), (1, _), (2, _), (3, _)]) dX7_origin_42 (by decide) rfl ?_
        have L_44 : ∀ (fu_44 : Nat) (i : Nat) (x : Int32), (i ≤ nh) → (orL V nh j ha da (nh - i) i x = orL V nh j ha da nh 0 0) → nh - i < fu_44 → PW l SC RX7 cX7_origin 6 (some .int) 4 (QI fun x m => x = originF V nh (nI j) ha (nI da) ∧ m = sc (wr μ 22 V) nm sk) 44 [(0, .ref 0), (1, .int (nI j)), (2, .int ha), (3, .int (nI da)), (4, .int x), (5, .int (nI i))] [] (sc (wr μ 22 V) nm sk) := by
          intro fu_44
          induction fu_44 with
          | zero =>
            intro i x hi hx hm_44
            exact absurd hm_44 (Nat.not_lt_zero _)
          | succ fu_44 ih_44 =>
            intro i x hi hx hm_44
            refine pw_iload dX7_origin_44 rfl ?_
            refine pw_aload_n dX7_origin_46 rfl rfl ?_
            refine pw_getR dX7_origin_47 fa_X7_28 rfl ?_
            refine pw_getI dX7_origin_50 fa_X7_103 rfl ?_
            refine pw_top (y := nI nh) (by rw [rdw0 hw]; exact h5) ?_
            refine pw_icmp_ge (tgt := 88) dX7_origin_53 (by decide) (fun c_53 => ?_) (fun c_53 => ?_)
            · skip
              have hge := nI_geD (by omega) c_53
              refine pw_iload dX7_origin_88 rfl ?_
              refine pw_iret dX7_origin_90 rfl ?_
              have e0 : nh - i = 0 := by omega
              rw [e0] at hx
              change x = _ at hx
              exact ⟨by unfold originF jkF areF; rw [hb_8, show inF ha 0 (allF V) = true from hb_22, show inF (nI da) 0 20 = true from hb_32, cl_nI (show j < 2 ^ 31 by omega), cl_nI (show da < 2 ^ 31 by omega), hx]; rfl, rfl⟩
            · skip
              have hlt := nI_ltD (by omega) c_53
              refine pw_aload_n dX7_origin_56 rfl rfl ?_
              refine pw_getR dX7_origin_57 fa_X7_28 rfl ?_
              refine pw_iload_n dX7_origin_60 rfl rfl ?_
              refine pw_iconst (v := 1) dX7_origin_61 rfl ?_
              refine pw_iload dX7_origin_62 rfl ?_
              refine pw_ishl dX7_origin_64 ?_
              refine pw_iload_n dX7_origin_65 rfl rfl ?_
              refine pw_cVi dX7_origin_66 mv_X7_235 ckNow (T_X6_haveBehind (d := da) hw h5 hh6 hsj (by omega)) rfl rfl (Nat.le_of_ble_eq_true rfl) (by decide) (fun x_66 m_66 h_66 => ?_)
              obtain ⟨rfl, rfl⟩ := h_66
              refine pw_iload_n dX7_origin_69 rfl rfl ?_
              refine pw_icmp_ne (tgt := 82) dX7_origin_70 (by decide) (fun c_70 => ?_) (fun c_70 => ?_)
              · skip
                change ¬ (hbF V nh j (shF i) da = ha) at c_70
                refine pw_iinc (ls2 := [(5, _), (0, _), (1, _), (2, _), (3, _), (4, _)]) (v := nI (i + 1)) dX7_origin_82 rfl (inc1 i) (by decide) rfl ?_
                refine pw_goto (tgt := 44) dX7_origin_85 (by decide) ?_
                refine pw_sub [1, 2, 3, 4, 5, 0] rfl ?_
                exact ih_44 (i + 1) _ hlt (by rw [← hx, show nh - i = (nh - (i + 1)) + 1 by omega]; show _ = orL V nh j ha da _ (i + 1) (if _ then _ else _); rw [if_neg c_70]) (by omega)
              · skip
                change hbF V nh j (shF i) da = ha at c_70
                refine pw_iload dX7_origin_73 rfl ?_
                refine pw_iconst (v := 1) dX7_origin_75 rfl ?_
                refine pw_iload dX7_origin_76 rfl ?_
                refine pw_ishl dX7_origin_78 ?_
                refine pw_ior dX7_origin_79 ?_
                refine pw_istore (ls2 := [(4, _), (0, _), (1, _), (2, _), (3, _), (5, _)]) dX7_origin_80 (by decide) rfl ?_
                refine pw_iinc (ls2 := [(5, _), (4, _), (0, _), (1, _), (2, _), (3, _)]) (v := nI (i + 1)) dX7_origin_82 rfl (inc1 i) (by decide) rfl ?_
                refine pw_goto (tgt := 44) dX7_origin_85 (by decide) ?_
                refine pw_sub [2, 3, 4, 5, 1, 0] rfl ?_
                exact ih_44 (i + 1) _ hlt (by rw [← hx, show nh - i = (nh - (i + 1)) + 1 by omega]; show _ = orL V nh j ha da _ (i + 1) (if _ then _ else _); rw [if_pos c_70]; rfl) (by omega)
        refine pw_sub [2, 3, 4, 5, 1, 0] rfl ?_
        exact L_44 (nh + 1) 0 0 (Nat.zero_le _) rfl (by omega)
      · skip
        have hb_32 := b2_0 c_32
        refine pw_bipush (v := (-7)) dX7_origin_35 rfl ?_
        refine pw_iret dX7_origin_37 rfl ?_
        exact ⟨by unfold originF jkF areF allF; rw [hb_8, hb_22, hb_32]; rfl, rfl⟩
  · skip
    have hb_8 := b2_0 c_8
    refine pw_bipush (v := (-5)) dX7_origin_11 rfl ?_
    refine pw_iret dX7_origin_13 rfl ?_
    exact ⟨by unfold originF jkF; rw [hb_8]; rfl, rfl⟩

set_option maxHeartbeats 4000000 in
set_option maxRecDepth 100000 in
theorem T_X7_furthest {l : Launch} {μ : PM} {V : VW} {nm sk : Nat → Int32} {nj nh : Nat} {j da wh : Int32} (h1 : V 0 1 = nI nj) (hj5 : nj ≤ 5) (h5 : V 0 5 = nI nh) (hh6 : nh ≤ 6) : CT l SC yX7_furthest cX7_furthest 8 (some .int) 4 [.ref 0, .int j, .int da, .int wh] (sc (wr μ 22 V) nm sk) (QI fun x m => x = furF V nh j da wh ∧ m = sc (wr μ 22 V) nm sk) := by
  refine CT.of rfl (Nat.le_of_ble_eq_true rfl) ?_
  show PW l SC RX7 cX7_furthest 8 (some .int) 4 _ 0 [(0, .ref 0), (1, .int j), (2, .int da), (3, .int wh)] [] (sc (wr μ 22 V) nm sk)
  have hw : isW 22 := Or.inl rfl
  refine pw_aload_n dX7_furthest_0 rfl rfl ?_
  refine pw_getR dX7_furthest_1 fa_X7_28 rfl ?_
  refine pw_iload_n dX7_furthest_4 rfl rfl ?_
  refine pw_cVi dX7_furthest_5 mv_X7_138 ckNow (T_X6_hasJoke hw) rfl rfl (Nat.le_of_ble_eq_true rfl) (by decide) (fun x_5 m_5 h_5 => ?_)
  obtain ⟨rfl, rfl⟩ := h_5
  refine pw_if_ne (tgt := 14) dX7_furthest_8 (by decide) (fun c_8 => ?_) (fun c_8 => ?_)
  · skip
    have hb_8 := b2_n c_8
    refine pw_iload_n dX7_furthest_14 rfl rfl ?_
    refine pw_iconst (v := 0) dX7_furthest_15 rfl ?_
    refine pw_bipush (v := 20) dX7_furthest_16 rfl ?_
    refine pw_cSi dX7_furthest_18 ms_X7_116 T_X7_within rfl rfl (Nat.le_of_ble_eq_true rfl) (by decide) (fun x_18 m_18 h_18 => ?_)
    obtain ⟨rfl, rfl⟩ := h_18
    refine pw_if_eq (tgt := 33) dX7_furthest_21 (by decide) (fun c_21 => ?_) (fun c_21 => ?_)
    · skip
      have hb_21 := b2_0 c_21
      refine pw_bipush (v := (-7)) dX7_furthest_33 rfl ?_
      refine pw_iret dX7_furthest_35 rfl ?_
      exact ⟨by unfold furF jkF; rw [hb_8, hb_21]; rfl, rfl⟩
    · skip
      have hb_21 := b2_n c_21
      refine pw_iload_n dX7_furthest_24 rfl rfl ?_
      refine pw_iconst (v := 0) dX7_furthest_25 rfl ?_
      refine pw_iconst (v := 1) dX7_furthest_26 rfl ?_
      refine pw_cSi dX7_furthest_27 ms_X7_116 T_X7_within rfl rfl (Nat.le_of_ble_eq_true rfl) (by decide) (fun x_27 m_27 h_27 => ?_)
      obtain ⟨rfl, rfl⟩ := h_27
      refine pw_if_ne (tgt := 36) dX7_furthest_30 (by decide) (fun c_30 => ?_) (fun c_30 => ?_)
      · skip
        have hb_30 := b2_n c_30
        obtain ⟨j, hlj, hsj, rfl⟩ := jk_of h1 hj5 hb_8
        obtain ⟨da, hd20, rfl⟩ := in_trueL (n := 20) hb_21 (by decide)
        refine pw_iconst (v := (-1)) dX7_furthest_36 rfl ?_
        refine pw_istore (ls2 := [(4, _), (0, _), (1, _), (2, _), (3, _)]) dX7_furthest_37 (by decide) rfl ?_
        refine pw_iconst (v := (-1)) dX7_furthest_39 rfl ?_
        refine pw_istore (ls2 := [(5, _), (4, _), (0, _), (1, _), (2, _), (3, _)]) dX7_furthest_40 (by decide) rfl ?_
        refine pw_iconst (v := 0) dX7_furthest_42 rfl ?_
        refine pw_istore (ls2 := [(6, _), (5, _), (4, _), (0, _), (1, _), (2, _), (3, _)]) dX7_furthest_43 (by decide) rfl ?_
        have L_45 : ∀ (fu_45 : Nat) (i : Nat) (x y : Int32), (i ≤ nh) → (fuL V nh j da (nh - i) i (x, y) = fuL V nh j da nh 0 (-1, -1)) → nh - i < fu_45 → PW l SC RX7 cX7_furthest 8 (some .int) 4 (QI fun x m => x = furF V nh (nI j) (nI da) wh ∧ m = sc (wr μ 22 V) nm sk) 45 [(0, .ref 0), (1, .int (nI j)), (2, .int (nI da)), (3, .int wh), (4, .int x), (5, .int y), (6, .int (nI i))] [] (sc (wr μ 22 V) nm sk) := by
          intro fu_45
          induction fu_45 with
          | zero =>
            intro i x y hi hx hm_45
            exact absurd hm_45 (Nat.not_lt_zero _)
          | succ fu_45 ih_45 =>
            intro i x y hi hx hm_45
            refine pw_iload dX7_furthest_45 rfl ?_
            refine pw_aload_n dX7_furthest_47 rfl rfl ?_
            refine pw_getR dX7_furthest_48 fa_X7_28 rfl ?_
            refine pw_getI dX7_furthest_51 fa_X7_103 rfl ?_
            refine pw_top (y := nI nh) (by rw [rdw0 hw]; exact h5) ?_
            refine pw_icmp_ge (tgt := 96) dX7_furthest_54 (by decide) (fun c_54 => ?_) (fun c_54 => ?_)
            · skip
              have hge := nI_geD (by omega) c_54
              refine pw_iload_n dX7_furthest_96 rfl rfl ?_
              refine pw_if_ne (tgt := 105) dX7_furthest_97 (by decide) (fun c_97 => ?_) (fun c_97 => ?_)
              · skip
                refine pw_iload dX7_furthest_105 rfl ?_
                refine pw_iret dX7_furthest_107 rfl ?_
                have e0 : nh - i = 0 := by omega
                rw [e0] at hx
                change (x, y) = _ at hx
                exact ⟨by unfold furF jkF; rw [hb_8, show inF (nI da) 0 20 = true from hb_21, hb_30, cl_nI (show j < 2 ^ 31 by omega), cl_nI (show da < 2 ^ 31 by omega), ← hx, if_pos rfl, if_pos (by rfl), if_neg c_97], rfl⟩
              · skip
                refine pw_iload dX7_furthest_100 rfl ?_
                refine pw_goto (tgt := 107) dX7_furthest_102 (by decide) ?_
                refine pw_iret dX7_furthest_107 rfl ?_
                have e0 : nh - i = 0 := by omega
                rw [e0] at hx
                change (x, y) = _ at hx
                exact ⟨by unfold furF jkF; rw [hb_8, show inF (nI da) 0 20 = true from hb_21, hb_30, cl_nI (show j < 2 ^ 31 by omega), cl_nI (show da < 2 ^ 31 by omega), ← hx, if_pos rfl, if_pos (by rfl), if_pos c_97], rfl⟩
            · skip
              have hlt := nI_ltD (by omega) c_54
              refine pw_aload_n dX7_furthest_57 rfl rfl ?_
              refine pw_getR dX7_furthest_58 fa_X7_28 rfl ?_
              refine pw_iload_n dX7_furthest_61 rfl rfl ?_
              refine pw_iconst (v := 1) dX7_furthest_62 rfl ?_
              refine pw_iload dX7_furthest_63 rfl ?_
              refine pw_ishl dX7_furthest_65 ?_
              refine pw_iload_n dX7_furthest_66 rfl rfl ?_
              refine pw_cVi dX7_furthest_67 mv_X7_235 ckNow (T_X6_haveBehind (d := da) hw h5 hh6 hsj (by omega)) rfl rfl (Nat.le_of_ble_eq_true rfl) (by decide) (fun x_67 m_67 h_67 => ?_)
              obtain ⟨rfl, rfl⟩ := h_67
              refine pw_cSi dX7_furthest_70 ms_X7_230 T_J6_bitCount_0f7a4 rfl rfl (Nat.le_of_ble_eq_true rfl) (by decide) (fun x_70 m_70 h_70 => ?_)
              obtain ⟨rfl, rfl⟩ := h_70
              refine pw_istore (ls2 := [(7, _), (0, _), (1, _), (2, _), (3, _), (4, _), (5, _), (6, _)]) dX7_furthest_73 (by decide) rfl ?_
              refine pw_iload dX7_furthest_75 rfl ?_
              refine pw_iload dX7_furthest_77 rfl ?_
              refine pw_icmp_le (tgt := 90) dX7_furthest_79 (by decide) (fun c_79 => ?_) (fun c_79 => ?_)
              · skip
                change bcF (hbF V nh j (shF i) da) ≤ y at c_79
                refine pw_iinc (ls2 := [(6, _), (7, _), (0, _), (1, _), (2, _), (3, _), (4, _), (5, _)]) (v := nI (i + 1)) dX7_furthest_90 rfl (inc1 i) (by decide) rfl ?_
                refine pw_goto (tgt := 45) dX7_furthest_93 (by decide) ?_
                refine pw_sub [2, 3, 4, 5, 6, 7, 0] rfl ?_
                exact ih_45 (i + 1) _ _ hlt (by rw [← hx, show nh - i = (nh - (i + 1)) + 1 by omega]; show _ = fuL V nh j da _ (i + 1) (if _ then _ else _); rw [if_pos c_79]) (by omega)
              · skip
                change ¬ (bcF (hbF V nh j (shF i) da) ≤ y) at c_79
                refine pw_iload dX7_furthest_82 rfl ?_
                refine pw_istore (ls2 := [(5, _), (7, _), (0, _), (1, _), (2, _), (3, _), (4, _), (6, _)]) dX7_furthest_84 (by decide) rfl ?_
                refine pw_iload dX7_furthest_86 rfl ?_
                refine pw_istore (ls2 := [(4, _), (5, _), (7, _), (0, _), (1, _), (2, _), (3, _), (6, _)]) dX7_furthest_88 (by decide) rfl ?_
                refine pw_iinc (ls2 := [(6, _), (4, _), (5, _), (7, _), (0, _), (1, _), (2, _), (3, _)]) (v := nI (i + 1)) dX7_furthest_90 rfl (inc1 i) (by decide) rfl ?_
                refine pw_goto (tgt := 45) dX7_furthest_93 (by decide) ?_
                refine pw_sub [4, 5, 6, 7, 1, 2, 0] rfl ?_
                exact ih_45 (i + 1) _ _ hlt (by rw [← hx, show nh - i = (nh - (i + 1)) + 1 by omega]; show _ = fuL V nh j da _ (i + 1) (if _ then _ else _); rw [if_neg c_79]; rfl) (by omega)
        refine pw_sub [3, 4, 5, 6, 2, 1, 0] rfl ?_
        exact L_45 (nh + 1) 0 (-1) (-1) (Nat.zero_le _) rfl (by omega)
      · skip
        have hb_30 := b2_0 c_30
        refine pw_bipush (v := (-7)) dX7_furthest_33 rfl ?_
        refine pw_iret dX7_furthest_35 rfl ?_
        exact ⟨by unfold furF jkF; rw [hb_8, hb_21, hb_30]; rfl, rfl⟩
  · skip
    have hb_8 := b2_0 c_8
    refine pw_bipush (v := (-5)) dX7_furthest_11 rfl ?_
    refine pw_iret dX7_furthest_13 rfl ?_
    exact ⟨by unfold furF jkF; rw [hb_8]; rfl, rfl⟩

set_option maxHeartbeats 4000000 in
set_option maxRecDepth 100000 in
theorem T_X7_rate {l : Launch} {μ : PM} {V : VW} {nm sk : Nat → Int32} {a b v : Int32} : CT l SC yX7_rate cX7_rate 6 (some .int) 3 [.ref 0, .int a, .int b, .int v] (sc (wr μ 22 V) nm sk) (QI fun x m => x = rateX V a b v ∧ m = sc (wr μ 22 (rateV V a b v)) nm sk) := by
  refine CT.of rfl (Nat.le_of_ble_eq_true rfl) ?_
  show PW l SC RX7 cX7_rate 6 (some .int) 3 _ 0 [(0, .ref 0), (1, .int a), (2, .int b), (3, .int v)] [] (sc (wr μ 22 V) nm sk)
  have hw : isW 22 := Or.inl rfl
  refine pw_iload_n dX7_rate_0 rfl rfl ?_
  refine pw_cSi dX7_rate_1 ms_X7_239 T_X7_isTown rfl rfl (Nat.le_of_ble_eq_true rfl) (by decide) (fun x_1 m_1 h_1 => ?_)
  obtain ⟨rfl, rfl⟩ := h_1
  refine pw_if_eq (tgt := 19) dX7_rate_4 (by decide) (fun c_4 => ?_) (fun c_4 => ?_)
  · skip
    have hb_4 := b2_0 c_4
    refine pw_bipush (v := (-5)) dX7_rate_19 rfl ?_
    refine pw_iret dX7_rate_21 rfl ?_
    exact ⟨by unfold rateX rateOK; simp only [hb_4, Bool.and_true, Bool.and_false, Bool.true_and, Bool.false_and, Bool.not_true, Bool.not_false, decide_true, decide_false, Bool.false_eq_true, if_false, if_true], by unfold rateV rateOK; simp only [hb_4, Bool.and_true, Bool.and_false, Bool.true_and, Bool.false_and, Bool.not_true, Bool.not_false, decide_true, decide_false, Bool.false_eq_true, if_false, if_true]⟩
  · skip
    have hb_4 := b2_n c_4
    refine pw_iload_n dX7_rate_7 rfl rfl ?_
    refine pw_cSi dX7_rate_8 ms_X7_239 T_X7_isTown rfl rfl (Nat.le_of_ble_eq_true rfl) (by decide) (fun x_8 m_8 h_8 => ?_)
    obtain ⟨rfl, rfl⟩ := h_8
    refine pw_if_eq (tgt := 19) dX7_rate_11 (by decide) (fun c_11 => ?_) (fun c_11 => ?_)
    · skip
      have hb_11 := b2_0 c_11
      refine pw_bipush (v := (-5)) dX7_rate_19 rfl ?_
      refine pw_iret dX7_rate_21 rfl ?_
      exact ⟨by unfold rateX rateOK; simp only [hb_4, hb_11, Bool.and_true, Bool.and_false, Bool.true_and, Bool.false_and, Bool.not_true, Bool.not_false, decide_true, decide_false, Bool.false_eq_true, if_false, if_true], by unfold rateV rateOK; simp only [hb_4, hb_11, Bool.and_true, Bool.and_false, Bool.true_and, Bool.false_and, Bool.not_true, Bool.not_false, decide_true, decide_false, Bool.false_eq_true, if_false, if_true]⟩
    · skip
      have hb_11 := b2_n c_11
      refine pw_iload_n dX7_rate_14 rfl rfl ?_
      refine pw_iload_n dX7_rate_15 rfl rfl ?_
      refine pw_icmp_ne (tgt := 22) dX7_rate_16 (by decide) (fun c_16 => ?_) (fun c_16 => ?_)
      · skip
        refine pw_iload_n dX7_rate_22 rfl rfl ?_
        refine pw_iconst (v := 1) dX7_rate_23 rfl ?_
        refine pw_sipush (v := 999) dX7_rate_24 rfl ?_
        refine pw_cSi dX7_rate_27 ms_X7_116 T_X7_within rfl rfl (Nat.le_of_ble_eq_true rfl) (by decide) (fun x_27 m_27 h_27 => ?_)
        obtain ⟨rfl, rfl⟩ := h_27
        refine pw_if_ne (tgt := 36) dX7_rate_30 (by decide) (fun c_30 => ?_) (fun c_30 => ?_)
        · skip
          have hb_30 := b2_n c_30
          obtain ⟨a, ha3, rfl⟩ := in_trueL (n := 3) hb_4 (by decide)
          obtain ⟨b, hb3, rfl⟩ := in_trueL (n := 3) hb_11 (by decide)
          refine pw_iload_n dX7_rate_36 rfl rfl ?_
          refine pw_iconst (v := 4) dX7_rate_37 rfl ?_
          refine pw_imul dX7_rate_38 ?_
          refine pw_iload_n dX7_rate_39 rfl rfl ?_
          refine pw_iadd dX7_rate_40 ?_
          refine pw_top (y := nI (4 * a + b)) (by show nI a * nI 4 + nI b = _; rw [pk_mul, nI_add, Nat.mul_comm]) ?_
          refine pw_istore (ls2 := [(4, _), (0, _), (1, _), (2, _), (3, _)]) dX7_rate_41 (by decide) rfl ?_
          refine pw_aload_n dX7_rate_43 rfl rfl ?_
          refine pw_getR dX7_rate_44 fa_X7_28 rfl ?_
          refine pw_getR dX7_rate_47 fa_X7_242 rfl ?_
          refine pw_iload dX7_rate_50 rfl ?_
          refine pw_iald (j := 4 * a + b) dX7_rate_52 rfl rfl (by omega) ?_
          refine pw_top (y := V 9 (4 * a + b)) (by rw [rdw (w := 22) (r := 9) hw (by decide)] <;> rfl) ?_
          refine pw_istore (ls2 := [(5, _), (4, _), (0, _), (1, _), (2, _), (3, _)]) dX7_rate_53 (by decide) rfl ?_
          refine pw_aload_n dX7_rate_55 rfl rfl ?_
          refine pw_getR dX7_rate_56 fa_X7_28 rfl ?_
          refine pw_getR dX7_rate_59 fa_X7_242 rfl ?_
          refine pw_iload dX7_rate_62 rfl ?_
          refine pw_iload_n dX7_rate_64 rfl rfl ?_
          refine pw_iast (j := 4 * a + b) dX7_rate_65 rfl rfl (by omega) ?_
          refine pw_mem (siw (w := 22) (r := 9) hw (by decide)) ?_
          refine pw_iload dX7_rate_66 rfl ?_
          refine pw_iret dX7_rate_68 rfl ?_
          have q1 : inF (nI a) 0 3 = true := hb_4
          have q2 : inF (nI b) 0 3 = true := hb_11
          exact ⟨by unfold rateX rateOK; simp only [q1, q2, c_16, hb_30, cl_nI (show a < 2 ^ 31 by omega), cl_nI (show b < 2 ^ 31 by omega), Bool.and_true, Bool.and_false, Bool.true_and, Bool.false_and, Bool.not_true, Bool.not_false, decide_true, decide_false, Bool.false_eq_true, if_false, if_true], by unfold rateV rateOK; simp only [q1, q2, c_16, hb_30, cl_nI (show a < 2 ^ 31 by omega), cl_nI (show b < 2 ^ 31 by omega), Bool.and_true, Bool.and_false, Bool.true_and, Bool.false_and, Bool.not_true, Bool.not_false, decide_true, decide_false, Bool.false_eq_true, if_false, if_true]⟩
        · skip
          have hb_30 := b2_0 c_30
          refine pw_bipush (v := (-7)) dX7_rate_33 rfl ?_
          refine pw_iret dX7_rate_35 rfl ?_
          exact ⟨by unfold rateX rateOK; simp only [hb_4, hb_11, c_16, hb_30, Bool.and_true, Bool.and_false, Bool.true_and, Bool.false_and, Bool.not_true, Bool.not_false, decide_true, decide_false, Bool.false_eq_true, if_false, if_true], by unfold rateV rateOK; simp only [hb_4, hb_11, c_16, hb_30, Bool.and_true, Bool.and_false, Bool.true_and, Bool.false_and, Bool.not_true, Bool.not_false, decide_true, decide_false, Bool.false_eq_true, if_false, if_true]⟩
      · skip
        refine pw_bipush (v := (-5)) dX7_rate_19 rfl ?_
        refine pw_iret dX7_rate_21 rfl ?_
        exact ⟨by unfold rateX rateOK; simp only [hb_4, hb_11, c_16, Bool.and_true, Bool.and_false, Bool.true_and, Bool.false_and, Bool.not_true, Bool.not_false, decide_true, decide_false, Bool.false_eq_true, if_false, if_true], by unfold rateV rateOK; simp only [hb_4, hb_11, c_16, Bool.and_true, Bool.and_false, Bool.true_and, Bool.false_and, Bool.not_true, Bool.not_false, decide_true, decide_false, Bool.false_eq_true, if_false, if_true]⟩

set_option maxHeartbeats 4000000 in
set_option maxRecDepth 100000 in
theorem T_X7_change {l : Launch} {μ : PM} {V : VW} {nm sk : Nat → Int32} {a b mu : Int32} : CT l SC yX7_change cX7_change 4 (some .long) 3 [.ref 0, .int a, .int b, .int mu] (sc (wr μ 22 V) nm sk) (QL fun x m => x = changeF V a b mu ∧ m = sc (wr μ 22 V) nm sk) := by
  refine CT.of rfl (Nat.le_of_ble_eq_true rfl) ?_
  show PW l SC RX7 cX7_change 4 (some .long) 3 _ 0 [(0, .ref 0), (1, .int a), (2, .int b), (3, .int mu)] [] (sc (wr μ 22 V) nm sk)
  have hw : isW 22 := Or.inl rfl
  refine pw_iload_n dX7_change_0 rfl rfl ?_
  refine pw_cSi dX7_change_1 ms_X7_239 T_X7_isTown rfl rfl (Nat.le_of_ble_eq_true rfl) (by decide) (fun x_1 m_1 h_1 => ?_)
  obtain ⟨rfl, rfl⟩ := h_1
  refine pw_if_eq (tgt := 25) dX7_change_4 (by decide) (fun c_4 => ?_) (fun c_4 => ?_)
  · skip
    have hb_4 := b2_0 c_4
    refine pw_ldc2 dX7_change_25 k_X7_245 ?_
    refine pw_lret dX7_change_28 rfl ?_
    exact ⟨by unfold changeF; rw [hb_4]; rfl, rfl⟩
  · skip
    have hb_4 := b2_n c_4
    refine pw_iload_n dX7_change_7 rfl rfl ?_
    refine pw_cSi dX7_change_8 ms_X7_239 T_X7_isTown rfl rfl (Nat.le_of_ble_eq_true rfl) (by decide) (fun x_8 m_8 h_8 => ?_)
    obtain ⟨rfl, rfl⟩ := h_8
    refine pw_if_eq (tgt := 25) dX7_change_11 (by decide) (fun c_11 => ?_) (fun c_11 => ?_)
    · skip
      have hb_11 := b2_0 c_11
      refine pw_ldc2 dX7_change_25 k_X7_245 ?_
      refine pw_lret dX7_change_28 rfl ?_
      exact ⟨by unfold changeF; rw [hb_4, hb_11]; rfl, rfl⟩
    · skip
      have hb_11 := b2_n c_11
      refine pw_iload_n dX7_change_14 rfl rfl ?_
      refine pw_iconst (v := 0) dX7_change_15 rfl ?_
      refine pw_sipush (v := 9999) dX7_change_16 rfl ?_
      refine pw_cSi dX7_change_19 ms_X7_116 T_X7_within rfl rfl (Nat.le_of_ble_eq_true rfl) (by decide) (fun x_19 m_19 h_19 => ?_)
      obtain ⟨rfl, rfl⟩ := h_19
      refine pw_if_ne (tgt := 29) dX7_change_22 (by decide) (fun c_22 => ?_) (fun c_22 => ?_)
      · skip
        have hb_22 := b2_n c_22
        refine pw_aload_n dX7_change_29 rfl rfl ?_
        refine pw_getR dX7_change_30 fa_X7_28 rfl ?_
        refine pw_iload_n dX7_change_33 rfl rfl ?_
        refine pw_iload_n dX7_change_34 rfl rfl ?_
        refine pw_iload_n dX7_change_35 rfl rfl ?_
        refine pw_i2l dX7_change_36 ?_
        obtain ⟨a, ha3, rfl⟩ := in_trueL (n := 3) hb_4 (by decide)
        obtain ⟨b, hb3, rfl⟩ := in_trueL (n := 3) hb_11 (by decide)
        refine pw_cVl dX7_change_37 mv_X7_247 ckNow (T_X6_changed hw (by omega) (by omega)) rfl rfl (Nat.le_of_ble_eq_true rfl) (by decide) (fun x_37 m_37 h_37 => ?_)
        obtain ⟨rfl, rfl⟩ := h_37
        refine pw_lret dX7_change_40 rfl ?_
        exact ⟨by unfold changeF; rw [show inF (nI a) 0 3 = true from hb_4, show inF (nI b) 0 3 = true from hb_11, hb_22, if_pos (by rfl), cl_nI (show a < 2 ^ 31 by omega), cl_nI (show b < 2 ^ 31 by omega)], rfl⟩
      · skip
        have hb_22 := b2_0 c_22
        refine pw_ldc2 dX7_change_25 k_X7_245 ?_
        refine pw_lret dX7_change_28 rfl ?_
        exact ⟨by unfold changeF; rw [hb_4, hb_11, hb_22]; rfl, rfl⟩

set_option maxHeartbeats 4000000 in
set_option maxRecDepth 100000 in
theorem T_X7_gain {l : Launch} {μ : PM} {V : VW} {nm sk : Nat → Int32} {a mu wh : Int32} : CT l SC yX7_gain cX7_gain 4 (some .long) 9 [.ref 0, .int a, .int mu, .int wh] (sc (wr μ 22 V) nm sk) (QL fun x m => x = gainF V a mu wh ∧ ∃ f d b, m = sc (wr (rwM μ f d b) 22 V) nm sk) := by
  refine CT.of rfl (Nat.le_of_ble_eq_true rfl) ?_
  show PW l SC RX7 cX7_gain 4 (some .long) 9 _ 0 [(0, .ref 0), (1, .int a), (2, .int mu), (3, .int wh)] [] (sc (wr μ 22 V) nm sk)
  have hw : isW 22 := Or.inl rfl
  refine pw_iload_n dX7_gain_0 rfl rfl ?_
  refine pw_cSi dX7_gain_1 ms_X7_239 T_X7_isTown rfl rfl (Nat.le_of_ble_eq_true rfl) (by decide) (fun x_1 m_1 h_1 => ?_)
  obtain ⟨rfl, rfl⟩ := h_1
  refine pw_if_eq (tgt := 27) dX7_gain_4 (by decide) (fun c_4 => ?_) (fun c_4 => ?_)
  · skip
    have hb_4 := b2_0 c_4
    refine pw_ldc2 dX7_gain_27 k_X7_245 ?_
    refine pw_lret dX7_gain_30 rfl ?_
    exact ⟨by unfold gainF; rw [hb_4]; rfl, _, _, _, by rw [← rwM_id]⟩
  · skip
    have hb_4 := b2_n c_4
    refine pw_iload_n dX7_gain_7 rfl rfl ?_
    refine pw_iconst (v := 0) dX7_gain_8 rfl ?_
    refine pw_sipush (v := 9999) dX7_gain_9 rfl ?_
    refine pw_cSi dX7_gain_12 ms_X7_116 T_X7_within rfl rfl (Nat.le_of_ble_eq_true rfl) (by decide) (fun x_12 m_12 h_12 => ?_)
    obtain ⟨rfl, rfl⟩ := h_12
    refine pw_if_eq (tgt := 27) dX7_gain_15 (by decide) (fun c_15 => ?_) (fun c_15 => ?_)
    · skip
      have hb_15 := b2_0 c_15
      refine pw_ldc2 dX7_gain_27 k_X7_245 ?_
      refine pw_lret dX7_gain_30 rfl ?_
      exact ⟨by unfold gainF; rw [hb_4, hb_15]; rfl, _, _, _, by rw [← rwM_id]⟩
    · skip
      have hb_15 := b2_n c_15
      refine pw_iload_n dX7_gain_18 rfl rfl ?_
      refine pw_iconst (v := 0) dX7_gain_19 rfl ?_
      refine pw_iconst (v := 1) dX7_gain_20 rfl ?_
      refine pw_cSi dX7_gain_21 ms_X7_116 T_X7_within rfl rfl (Nat.le_of_ble_eq_true rfl) (by decide) (fun x_21 m_21 h_21 => ?_)
      obtain ⟨rfl, rfl⟩ := h_21
      refine pw_if_ne (tgt := 31) dX7_gain_24 (by decide) (fun c_24 => ?_) (fun c_24 => ?_)
      · skip
        have hb_24 := b2_n c_24
        refine pw_aload_n dX7_gain_31 rfl rfl ?_
        refine pw_getR dX7_gain_32 fa_X7_54 rfl ?_
        refine pw_iload_n dX7_gain_35 rfl rfl ?_
        refine pw_iload_n dX7_gain_36 rfl rfl ?_
        refine pw_i2l dX7_gain_37 ?_
        obtain ⟨a, ha3, rfl⟩ := in_trueL (n := 3) hb_4 (by decide)
        refine pw_cVv dX7_gain_38 mv_X7_251 ckRounds (T_X3_start (a := a) (by omega)) rfl rfl (Nat.le_of_ble_eq_true rfl) (by decide) (fun m_38 h_38 => ?_)
        obtain rfl := h_38
        refine pw_iload_n dX7_gain_41 rfl rfl ?_
        refine pw_if_ne (tgt := 56) dX7_gain_42 (by decide) (fun c_42 => ?_) (fun c_42 => ?_)
        · skip
          refine pw_aload_n dX7_gain_56 rfl rfl ?_
          refine pw_getR dX7_gain_57 fa_X7_54 rfl ?_
          refine pw_getL dX7_gain_60 fa_X7_257 rfl ?_
          refine pw_topl (y := (goF (V 9) a 4 a mu.toInt64 0 (2 ^ a) (mu.toInt64, 0)).1) rfl ?_
          refine pw_lret dX7_gain_63 rfl ?_
          exact ⟨by unfold gainF; rw [show inF (nI a) 0 3 = true from hb_4, hb_15, hb_24, if_pos (by rfl), cl_nI (show a < 2 ^ 31 by omega), if_neg c_42], _, _, _, rfl⟩
        · skip
          refine pw_aload_n dX7_gain_45 rfl rfl ?_
          refine pw_getR dX7_gain_46 fa_X7_54 rfl ?_
          refine pw_getI dX7_gain_49 fa_X7_254 rfl ?_
          refine pw_top (y := (goF (V 9) a 4 a mu.toInt64 0 (2 ^ a) (mu.toInt64, 0)).2) rfl ?_
          refine pw_i2l dX7_gain_52 ?_
          refine pw_goto (tgt := 63) dX7_gain_53 (by decide) ?_
          skip
          refine pw_lret dX7_gain_63 rfl ?_
          exact ⟨by unfold gainF; rw [show inF (nI a) 0 3 = true from hb_4, hb_15, hb_24, if_pos (by rfl), cl_nI (show a < 2 ^ 31 by omega), if_pos c_42], _, _, _, rfl⟩
      · skip
        have hb_24 := b2_0 c_24
        refine pw_ldc2 dX7_gain_27 k_X7_245 ?_
        refine pw_lret dX7_gain_30 rfl ?_
        exact ⟨by unfold gainF; rw [hb_4, hb_15, hb_24]; rfl, _, _, _, by rw [← rwM_id]⟩

