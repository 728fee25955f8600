set_option maxHeartbeats 4000000 in
set_option maxRecDepth 100000 in
theorem T_X8_sheetWrong {l : Launch} {μ : PM} {V : VW} {nm sk st : Nat → Int32} {sn : Int32} {s : Int32} : CT l SM yX8_sheetWrong cX8_sheetWrong 2 (some .int) 3 [.ref 0, .int s] (mm μ V nm sk st sn) (QI fun x m => x = rsF (μ.1 10) (μ.1 11) V s ∧ m = mm μ V nm sk st sn) := by
  refine CT.of rfl (Nat.le_of_ble_eq_true rfl) ?_
  show PW l SM RX8 cX8_sheetWrong 2 (some .int) 3 _ 0 [(0, .ref 0), (1, .int s)] [] (mm μ V nm sk st sn)
  refine pw_iload_n dX8_sheetWrong_0 rfl rfl ?_
  refine pw_iconst (v := 0) dX8_sheetWrong_1 rfl ?_
  refine pw_iconst (v := 3) dX8_sheetWrong_2 rfl ?_
  refine pw_cSi dX8_sheetWrong_3 ms_X8_78 T_X8_in rfl rfl (Nat.le_of_ble_eq_true rfl) (by decide) (fun x_3 m_3 h_3 => ?_)
  obtain ⟨rfl, rfl⟩ := h_3
  refine pw_if_ne (tgt := 12) dX8_sheetWrong_6 (by decide) (fun c_6 => ?_) (fun c_6 => ?_)
  · skip
    have hb_6 := b2_n c_6
    obtain ⟨s, hs3, rfl⟩ := in_trueL (n := 3) hb_6 (by decide)
    refine pw_aload_n dX8_sheetWrong_12 rfl rfl ?_
    refine pw_getR dX8_sheetWrong_13 fa_X8_37 rfl ?_
    refine pw_iload_n dX8_sheetWrong_16 rfl rfl ?_
    refine pw_iald (j := s) dX8_sheetWrong_17 rfl rfl (by omega) ?_
    refine pw_top (y := μ.1 10 s) rfl ?_
    refine pw_iconst (v := (-1)) dX8_sheetWrong_18 rfl ?_
    refine pw_icmp_ne (tgt := 25) dX8_sheetWrong_19 (by decide) (fun c_19 => ?_) (fun c_19 => ?_)
    · skip
      refine pw_aload_n dX8_sheetWrong_25 rfl rfl ?_
      refine pw_getR dX8_sheetWrong_26 fa_X8_40 rfl ?_
      refine pw_iload_n dX8_sheetWrong_29 rfl rfl ?_
      refine pw_iald (j := s) dX8_sheetWrong_30 rfl rfl (by omega) ?_
      refine pw_top (y := μ.1 11 s) rfl ?_
      refine pw_aload_n dX8_sheetWrong_31 rfl rfl ?_
      refine pw_getI dX8_sheetWrong_32 fa_X8_75 rfl ?_
      refine pw_icmp_ne (tgt := 42) dX8_sheetWrong_35 (by decide) (fun c_35 => ?_) (fun c_35 => ?_)
      · skip
        change ¬ (μ.1 11 s = V 0 1) at c_35
        refine pw_bipush (v := (-2)) dX8_sheetWrong_42 rfl ?_
        refine pw_iret dX8_sheetWrong_44 rfl ?_
        exact ⟨by unfold rsF; rw [show inF (nI s) 0 3 = true from hb_6, if_pos rfl, cl_nI (by omega), if_neg c_19, if_neg c_35], rfl⟩
      · skip
        change μ.1 11 s = V 0 1 at c_35
        refine pw_iconst (v := 0) dX8_sheetWrong_38 rfl ?_
        refine pw_goto (tgt := 44) dX8_sheetWrong_39 (by decide) ?_
        refine pw_iret dX8_sheetWrong_44 rfl ?_
        exact ⟨by unfold rsF; rw [show inF (nI s) 0 3 = true from hb_6, if_pos rfl, cl_nI (by omega), if_neg c_19, if_pos c_35], rfl⟩
    · skip
      refine pw_bipush (v := (-11)) dX8_sheetWrong_22 rfl ?_
      refine pw_iret dX8_sheetWrong_24 rfl ?_
      exact ⟨by unfold rsF; rw [show inF (nI s) 0 3 = true from hb_6, if_pos rfl, cl_nI (by omega), if_pos c_19], rfl⟩
  · skip
    have hb_6 := b2_0 c_6
    refine pw_bipush (v := (-2)) dX8_sheetWrong_9 rfl ?_
    refine pw_iret dX8_sheetWrong_11 rfl ?_
    exact ⟨by unfold rsF; rw [hb_6]; rfl, rfl⟩

set_option maxHeartbeats 4000000 in
set_option maxRecDepth 100000 in
theorem T_X8_toldWrong {l : Launch} {μ : PM} {V : VW} {nm sk st : Nat → Int32} {sn : Int32} {s h : Int32} : CT l SM yX8_toldWrong cX8_toldWrong 4 (some .int) 4 [.ref 0, .int s, .int h] (mm μ V nm sk st sn) (QI fun x m => x = rjF (μ.1 10) (μ.1 11) V s h ∧ m = mm μ V nm sk st sn) := by
  refine CT.of rfl (Nat.le_of_ble_eq_true rfl) ?_
  show PW l SM RX8 cX8_toldWrong 4 (some .int) 4 _ 0 [(0, .ref 0), (1, .int s), (2, .int h)] [] (mm μ V nm sk st sn)
  refine pw_aload_n dX8_toldWrong_0 rfl rfl ?_
  refine pw_iload_n dX8_toldWrong_1 rfl rfl ?_
  refine pw_cVi dX8_toldWrong_2 mv_X8_273 ckModel T_X8_sheetWrong rfl rfl (Nat.le_of_ble_eq_true rfl) (by decide) (fun x_2 m_2 h_2 => ?_)
  obtain ⟨rfl, rfl⟩ := h_2
  refine pw_istore_n (ls2 := [(3, _), (0, _), (1, _), (2, _)]) dX8_toldWrong_5 rfl (by decide) rfl ?_
  refine pw_iload_n dX8_toldWrong_6 rfl rfl ?_
  refine pw_if_eq (tgt := 14) dX8_toldWrong_7 (by decide) (fun c_7 => ?_) (fun c_7 => ?_)
  · skip
    refine pw_aload_n dX8_toldWrong_14 rfl rfl ?_
    refine pw_iload_n dX8_toldWrong_15 rfl rfl ?_
    refine pw_cVi dX8_toldWrong_16 mv_X8_167 ckModel T_X8_isHearer rfl rfl (Nat.le_of_ble_eq_true rfl) (by decide) (fun x_16 m_16 h_16 => ?_)
    obtain ⟨rfl, rfl⟩ := h_16
    refine pw_if_eq (tgt := 26) dX8_toldWrong_19 (by decide) (fun c_19 => ?_) (fun c_19 => ?_)
    · skip
      have hb_19 := b2_0 c_19
      refine pw_bipush (v := (-6)) dX8_toldWrong_26 rfl ?_
      refine pw_iret dX8_toldWrong_28 rfl ?_
      exact ⟨by unfold rjF; rw [if_pos c_7, hb_19]; rfl, rfl⟩
    · skip
      have hb_19 := b2_n c_19
      refine pw_iconst (v := 0) dX8_toldWrong_22 rfl ?_
      refine pw_goto (tgt := 28) dX8_toldWrong_23 (by decide) ?_
      refine pw_iret dX8_toldWrong_28 rfl ?_
      exact ⟨by unfold rjF; rw [if_pos c_7, hb_19]; rfl, rfl⟩
  · skip
    refine pw_iload_n dX8_toldWrong_10 rfl rfl ?_
    refine pw_goto (tgt := 28) dX8_toldWrong_11 (by decide) ?_
    refine pw_iret dX8_toldWrong_28 rfl ?_
    exact ⟨by unfold rjF; rw [if_neg c_7], rfl⟩

set_option maxHeartbeats 4000000 in
set_option maxRecDepth 100000 in
theorem T_X8_unlike {l : Launch} {μ : PM} {B : BK} {V : VW} {nm sk st : Nat → Int32} {sn : Int32} {nj s h : Nat} (hL : okL μ B V) (h1 : V 0 1 = nI nj) (hj5 : nj ≤ 5) (hh : h < 6) (hs : s < 4) : CT l SM yX8_unlike cX8_unlike 4 (some .int) 5 [.ref 0, .int (nI s), .int (nI h)] (mm μ V nm sk st sn) (QI fun x m => x = otF B V (μ.1 12) s h nj 0 ∧ ∃ nm2 sk2, m = mm μ (V) nm2 sk2 st sn) := by
  refine CT.of rfl (Nat.le_of_ble_eq_true rfl) ?_
  show PW l SM RX8 cX8_unlike 4 (some .int) 5 _ 0 [(0, .ref 0), (1, .int (nI s)), (2, .int (nI h))] [] (mm μ V nm sk st sn)
  refine pw_iconst (v := 0) dX8_unlike_0 rfl ?_
  refine pw_istore_n (ls2 := [(3, _), (0, _), (1, _), (2, _)]) dX8_unlike_1 rfl (by decide) rfl ?_
  have L_2 : ∀ (fu_2 : Nat) (j : Nat) (nm sk : Nat → Int32), (j ≤ nj) → (otF B V (μ.1 12) s h (nj - j) j = otF B V (μ.1 12) s h nj 0) → nj - j < fu_2 → PW l SM RX8 cX8_unlike 4 (some .int) 5 (QI fun x m => x = otF B V (μ.1 12) s h nj 0 ∧ ∃ nm2 sk2, m = mm μ (V) nm2 sk2 st sn) 2 [(0, .ref 0), (1, .int (nI s)), (2, .int (nI h)), (3, .int (nI j))] [] (mm μ V nm sk st sn) := by
    intro fu_2
    induction fu_2 with
    | zero =>
      intro j nm sk hj hx hm_2
      exact absurd hm_2 (Nat.not_lt_zero _)
    | succ fu_2 ih_2 =>
      intro j nm sk hj hx hm_2
      refine pw_iload_n dX8_unlike_2 rfl rfl ?_
      refine pw_aload_n dX8_unlike_3 rfl rfl ?_
      refine pw_getI dX8_unlike_4 fa_X8_75 rfl ?_
      refine pw_top (y := nI nj) h1 ?_
      refine pw_icmp_ge (tgt := 38) dX8_unlike_7 (by decide) (fun c_7 => ?_) (fun c_7 => ?_)
      · skip
        have hge := nI_geD (by omega) c_7
        refine pw_iconst (v := (-1)) dX8_unlike_38 rfl ?_
        refine pw_iret dX8_unlike_39 rfl ?_
        exact ⟨by rw [← hx, show nj - j = 0 by omega]; rfl, _, _, rfl⟩
      · skip
        have hlt := nI_ltD (by omega) c_7
        refine pw_aload_n dX8_unlike_10 rfl rfl ?_
        refine pw_getR dX8_unlike_11 fa_X8_43 rfl ?_
        refine pw_bipush (v := 40) dX8_unlike_14 rfl ?_
        refine pw_iload_n dX8_unlike_16 rfl rfl ?_
        refine pw_imul dX8_unlike_17 ?_
        refine pw_iload_n dX8_unlike_18 rfl rfl ?_
        refine pw_iadd dX8_unlike_19 ?_
        refine pw_iald (j := 40 * s + j) dX8_unlike_20 rfl (by show nI 40 * nI s + nI j = _; rw [pk_mul, nI_add]) (by omega) ?_
        refine pw_top (y := μ.1 12 (40 * s + j)) rfl ?_
        refine pw_aload_n dX8_unlike_21 rfl rfl ?_
        refine pw_iload_n dX8_unlike_22 rfl rfl ?_
        refine pw_iload_n dX8_unlike_23 rfl rfl ?_
        refine pw_cVi dX8_unlike_24 mv_X8_190 ckModel (T_X8_yieldsOf (j := j) (h := h) hL (by omega) hh) rfl rfl (Nat.le_of_ble_eq_true rfl) (by decide) (fun x_24 m_24 h_24 => ?_)
        obtain ⟨rfl, nm1, sk1, rfl⟩ := h_24
        refine pw_icmp_eq (tgt := 32) dX8_unlike_27 (by decide) (fun c_27 => ?_) (fun c_27 => ?_)
        · skip
          refine pw_iinc (ls2 := [(3, _), (0, _), (1, _), (2, _)]) (v := nI (j + 1)) dX8_unlike_32 rfl (inc1 j) (by decide) rfl ?_
          refine pw_goto (tgt := 2) dX8_unlike_35 (by decide) ?_
          refine pw_sub [1, 2, 3, 0] rfl ?_
          exact ih_2 (j + 1) nm1 sk1 hlt (by rw [← hx, show nj - j = (nj - (j + 1)) + 1 by omega]; show _ = if _ then _ else _; rw [if_pos c_27]) (by omega)
        · skip
          refine pw_iload_n dX8_unlike_30 rfl rfl ?_
          refine pw_iret dX8_unlike_31 rfl ?_
          exact ⟨by rw [← hx, show nj - j = (nj - (j + 1)) + 1 by omega]; show _ = if _ then _ else _; rw [if_neg c_27], _, _, rfl⟩
  refine pw_sub [1, 2, 3, 0] rfl ?_
  exact L_2 (nj + 1) 0 nm sk (Nat.zero_le _) rfl (by omega)

set_option maxHeartbeats 4000000 in
set_option maxRecDepth 100000 in
theorem T_X8_judge {l : Launch} {μ : PM} {B : BK} {V : VW} {nm sk st : Nat → Int32} {sn : Int32} {nj nh : Nat} {s h : Int32} (hL : okL μ B V) (h1 : V 0 1 = nI nj) (hj5 : nj ≤ 5) (h5 : V 0 5 = nI nh) (hh6 : nh ≤ 6) : CT l SM yX8_judge cX8_judge 4 (some .int) 6 [.ref 0, .int s, .int h] (mm μ V nm sk st sn) (QI fun x m => x = judgeF B V (μ.1 10) (μ.1 11) (μ.1 12) nj s h ∧ ∃ nm2 sk2, m = mm μ (V) nm2 sk2 st sn) := by
  refine CT.of rfl (Nat.le_of_ble_eq_true rfl) ?_
  show PW l SM RX8 cX8_judge 4 (some .int) 6 _ 0 [(0, .ref 0), (1, .int s), (2, .int h)] [] (mm μ V nm sk st sn)
  refine pw_aload_n dX8_judge_0 rfl rfl ?_
  refine pw_iload_n dX8_judge_1 rfl rfl ?_
  refine pw_iload_n dX8_judge_2 rfl rfl ?_
  refine pw_cVi dX8_judge_3 mv_X8_276 ckModel T_X8_toldWrong rfl rfl (Nat.le_of_ble_eq_true rfl) (by decide) (fun x_3 m_3 h_3 => ?_)
  obtain ⟨rfl, rfl⟩ := h_3
  refine pw_istore_n (ls2 := [(3, _), (0, _), (1, _), (2, _)]) dX8_judge_6 rfl (by decide) rfl ?_
  refine pw_iload_n dX8_judge_7 rfl rfl ?_
  refine pw_if_ne (tgt := 20) dX8_judge_8 (by decide) (fun c_8 => ?_) (fun c_8 => ?_)
  · skip
    refine pw_iload_n dX8_judge_20 rfl rfl ?_
    refine pw_iret dX8_judge_21 rfl ?_
    exact ⟨by unfold judgeF; rw [if_neg c_8], _, _, rfl⟩
  · skip
    have hr0 : rjF (μ.1 10) (μ.1 11) V s h = 0 := c_8
    obtain ⟨hr1, hhr⟩ := rj_0 hr0
    obtain ⟨s, hs4, rfl, hso, hsz⟩ := rs_0 hr1
    obtain ⟨h, hlh, hsh, rfl⟩ := hr_of h5 hh6 hhr
    refine pw_aload_n dX8_judge_11 rfl rfl ?_
    refine pw_iload_n dX8_judge_12 rfl rfl ?_
    refine pw_iload_n dX8_judge_13 rfl rfl ?_
    refine pw_cVi dX8_judge_14 mv_X8_279 ckModel (T_X8_unlike hL h1 hj5 hsh hs4) rfl rfl (Nat.le_of_ble_eq_true rfl) (by decide) (fun x_14 m_14 h_14 => ?_)
    obtain ⟨rfl, nm1, sk1, rfl⟩ := h_14
    refine pw_goto (tgt := 21) dX8_judge_17 (by decide) ?_
    refine pw_iret dX8_judge_21 rfl ?_
    exact ⟨by unfold judgeF; rw [if_pos hr0, cl_nI (show s < 2 ^ 31 by omega), cl_nI (show h < 2 ^ 31 by omega)], _, _, rfl⟩

set_option maxHeartbeats 4000000 in
set_option maxRecDepth 100000 in
theorem T_X8_whose {l : Launch} {μ : PM} {B : BK} {V : VW} {nm sk st : Nat → Int32} {sn : Int32} {nj nh : Nat} {s : Int32} (hL : okL μ B V) (h1 : V 0 1 = nI nj) (hj5 : nj ≤ 5) (h5 : V 0 5 = nI nh) (hh6 : nh ≤ 6) : CT l SM yX8_whose cX8_whose 5 (some .int) 6 [.ref 0, .int s] (mm μ V nm sk st sn) (QI fun x m => x = whoseF B V (μ.1 10) (μ.1 11) (μ.1 12) nj nh s ∧ ∃ nm2 sk2, m = mm μ (V) nm2 sk2 st sn) := by
  refine CT.of rfl (Nat.le_of_ble_eq_true rfl) ?_
  show PW l SM RX8 cX8_whose 5 (some .int) 6 _ 0 [(0, .ref 0), (1, .int s)] [] (mm μ V nm sk st sn)
  refine pw_aload_n dX8_whose_0 rfl rfl ?_
  refine pw_iload_n dX8_whose_1 rfl rfl ?_
  refine pw_cVi dX8_whose_2 mv_X8_273 ckModel T_X8_sheetWrong rfl rfl (Nat.le_of_ble_eq_true rfl) (by decide) (fun x_2 m_2 h_2 => ?_)
  obtain ⟨rfl, rfl⟩ := h_2
  refine pw_istore_n (ls2 := [(2, _), (0, _), (1, _)]) dX8_whose_5 rfl (by decide) rfl ?_
  refine pw_iload_n dX8_whose_6 rfl rfl ?_
  refine pw_if_eq (tgt := 12) dX8_whose_7 (by decide) (fun c_7 => ?_) (fun c_7 => ?_)
  · skip
    have hr0 : rsF (μ.1 10) (μ.1 11) V s = 0 := c_7
    obtain ⟨s, hs4, rfl, hso, hsz⟩ := rs_0 hr0
    refine pw_iconst (v := 0) dX8_whose_12 rfl ?_
    refine pw_istore_n (ls2 := [(3, _), (2, _), (0, _), (1, _)]) dX8_whose_13 rfl (by decide) rfl ?_
    refine pw_iconst (v := 0) dX8_whose_14 rfl ?_
    refine pw_istore (ls2 := [(4, _), (3, _), (2, _), (0, _), (1, _)]) dX8_whose_15 (by decide) rfl ?_
    have L_17 : ∀ (fu_17 : Nat) (i : Nat) (x : Int32) (nm sk : Nat → Int32), (i ≤ nh) → (whL B V (μ.1 12) s nj (nh - i) i x = whL B V (μ.1 12) s nj nh 0 0) → nh - i < fu_17 → PW l SM RX8 cX8_whose 5 (some .int) 6 (QI fun x m => x = whoseF B V (μ.1 10) (μ.1 11) (μ.1 12) nj nh (nI s) ∧ ∃ nm2 sk2, m = mm μ (V) nm2 sk2 st sn) 17 [(0, .ref 0), (1, .int (nI s)), (3, .int x), (4, .int (nI i))] [] (mm μ V nm sk st sn) := by
      intro fu_17
      induction fu_17 with
      | zero =>
        intro i x nm sk hi hx hm_17
        exact absurd hm_17 (Nat.not_lt_zero _)
      | succ fu_17 ih_17 =>
        intro i x nm sk hi hx hm_17
        refine pw_iload dX8_whose_17 rfl ?_
        refine pw_aload_n dX8_whose_19 rfl rfl ?_
        refine pw_getI dX8_whose_20 fa_X8_82 rfl ?_
        refine pw_top (y := nI nh) h5 ?_
        refine pw_icmp_ge (tgt := 54) dX8_whose_23 (by decide) (fun c_23 => ?_) (fun c_23 => ?_)
        · skip
          have hge := nI_geD (by omega) c_23
          refine pw_iload_n dX8_whose_54 rfl rfl ?_
          refine pw_iret dX8_whose_55 rfl ?_
          have e0 : nh - i = 0 := by omega
          rw [e0] at hx
          change x = _ at hx
          exact ⟨by unfold whoseF; rw [if_pos hr0, cl_nI (show s < 2 ^ 31 by omega), hx], _, _, rfl⟩
        · skip
          have hlt := nI_ltD (by omega) c_23
          refine pw_iload_n dX8_whose_26 rfl rfl ?_
          refine pw_aload_n dX8_whose_27 rfl rfl ?_
          refine pw_iload_n dX8_whose_28 rfl rfl ?_
          refine pw_iload dX8_whose_29 rfl ?_
          refine pw_cVi dX8_whose_31 mv_X8_279 ckModel (T_X8_unlike (h := i) hL h1 hj5 (by omega) hs4) rfl rfl (Nat.le_of_ble_eq_true rfl) (by decide) (fun x_31 m_31 h_31 => ?_)
          obtain ⟨rfl, nm1, sk1, rfl⟩ := h_31
          refine pw_iconst (v := (-1)) dX8_whose_34 rfl ?_
          refine pw_icmp_ne (tgt := 45) dX8_whose_35 (by decide) (fun c_35 => ?_) (fun c_35 => ?_)
          · skip
            refine pw_iconst (v := 0) dX8_whose_45 rfl ?_
            refine pw_ior dX8_whose_46 ?_
            refine pw_istore_n (ls2 := [(3, _), (0, _), (1, _), (4, _)]) dX8_whose_47 rfl (by decide) rfl ?_
            refine pw_iinc (ls2 := [(4, _), (3, _), (0, _), (1, _)]) (v := nI (i + 1)) dX8_whose_48 rfl (inc1 i) (by decide) rfl ?_
            refine pw_goto (tgt := 17) dX8_whose_51 (by decide) ?_
            refine pw_sub [2, 3, 1, 0] rfl ?_
            exact ih_17 (i + 1) _ nm1 sk1 hlt (by rw [← hx, show nh - i = (nh - (i + 1)) + 1 by omega, show x ||| 0 = x from Int32.or_zero]; show _ = whL B V (μ.1 12) s nj _ (i + 1) (if _ then _ else _); rw [if_neg c_35]) (by omega)
          · skip
            refine pw_iconst (v := 1) dX8_whose_38 rfl ?_
            refine pw_iload dX8_whose_39 rfl ?_
            refine pw_ishl dX8_whose_41 ?_
            refine pw_goto (tgt := 46) dX8_whose_42 (by decide) ?_
            refine pw_ior dX8_whose_46 ?_
            refine pw_istore_n (ls2 := [(3, _), (0, _), (1, _), (4, _)]) dX8_whose_47 rfl (by decide) rfl ?_
            refine pw_iinc (ls2 := [(4, _), (3, _), (0, _), (1, _)]) (v := nI (i + 1)) dX8_whose_48 rfl (inc1 i) (by decide) rfl ?_
            refine pw_goto (tgt := 17) dX8_whose_51 (by decide) ?_
            refine pw_sub [2, 3, 1, 0] rfl ?_
            exact ih_17 (i + 1) _ nm1 sk1 hlt (by rw [← hx, show nh - i = (nh - (i + 1)) + 1 by omega]; show _ = whL B V (μ.1 12) s nj _ (i + 1) (if _ then _ else _); rw [if_pos c_35]; rfl) (by omega)
    refine pw_sub [3, 4, 1, 0] rfl ?_
    exact L_17 (nh + 1) 0 0 nm sk (Nat.zero_le _) rfl (by omega)
  · skip
    refine pw_iload_n dX8_whose_10 rfl rfl ?_
    refine pw_iret dX8_whose_11 rfl ?_
    exact ⟨by unfold whoseF; rw [if_neg c_7], _, _, rfl⟩

