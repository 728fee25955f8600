theorem in_out {m n : Nat} (h : n ≤ m) (hm : m < 2 ^ 30) : inF (nI m) 0 (nI n - 1) = false := by
  cases n with
  | zero =>
    unfold inF
    rw [decide_eq_false (fun q : nI m ≤ nI 0 - 1 => nI_pos (n := m) (by omega) (Int32.lt_of_le_of_lt q (by decide)))]
    exact Bool.and_false _
  | succ k =>
    rw [nI_pred]
    exact in_nle (by omega) hm
set_option maxHeartbeats 4000000 in
set_option maxRecDepth 100000 in
theorem T_X8_isUnder {l : Launch} {Ω : SH} {kd ab : Int32} {μ : PM} : CT l Ω yX8_isUnder cX8_isUnder 2 (some .boolean) 1 [.int kd, .int ab] μ (QI fun x m => x = b2 (isOneF kd ab) ∧ m = μ) := by
  refine CT.of rfl (Nat.le_of_ble_eq_true rfl) ?_
  show PW l Ω RX8 cX8_isUnder 2 (some .boolean) 1 _ 0 [(0, .int kd), (1, .int ab)] [] μ
  refine pw_iload_n dX8_isUnder_0 rfl rfl ?_
  refine pw_if_eq (tgt := 29) dX8_isUnder_1 (by decide) (fun c_1 => ?_) (fun c_1 => ?_)
  · skip
    refine pw_iconst (v := 1) dX8_isUnder_29 rfl ?_
    refine pw_goto (tgt := 34) dX8_isUnder_30 (by decide) ?_
    refine pw_zret dX8_isUnder_34 rfl (by decide) ?_
    exact ⟨by unfold isOneF; simp_all [b2], rfl⟩
  · skip
    refine pw_iload_n dX8_isUnder_4 rfl rfl ?_
    refine pw_iload_n dX8_isUnder_5 rfl rfl ?_
    refine pw_icmp_eq (tgt := 29) dX8_isUnder_6 (by decide) (fun c_6 => ?_) (fun c_6 => ?_)
    · skip
      refine pw_iconst (v := 1) dX8_isUnder_29 rfl ?_
      refine pw_goto (tgt := 34) dX8_isUnder_30 (by decide) ?_
      refine pw_zret dX8_isUnder_34 rfl (by decide) ?_
      exact ⟨by unfold isOneF; simp_all [b2], rfl⟩
    · skip
      refine pw_iload_n dX8_isUnder_9 rfl rfl ?_
      refine pw_iconst (v := 1) dX8_isUnder_10 rfl ?_
      refine pw_icmp_ne (tgt := 19) dX8_isUnder_11 (by decide) (fun c_11 => ?_) (fun c_11 => ?_)
      · skip
        refine pw_iload_n dX8_isUnder_19 rfl rfl ?_
        refine pw_iconst (v := 2) dX8_isUnder_20 rfl ?_
        refine pw_icmp_ne (tgt := 33) dX8_isUnder_21 (by decide) (fun c_21 => ?_) (fun c_21 => ?_)
        · skip
          refine pw_iconst (v := 0) dX8_isUnder_33 rfl ?_
          refine pw_zret dX8_isUnder_34 rfl (by decide) ?_
          exact ⟨by unfold isOneF; simp_all [b2], rfl⟩
        · skip
          refine pw_iload_n dX8_isUnder_24 rfl rfl ?_
          refine pw_iconst (v := 4) dX8_isUnder_25 rfl ?_
          refine pw_icmp_ne (tgt := 33) dX8_isUnder_26 (by decide) (fun c_26 => ?_) (fun c_26 => ?_)
          · skip
            refine pw_iconst (v := 0) dX8_isUnder_33 rfl ?_
            refine pw_zret dX8_isUnder_34 rfl (by decide) ?_
            exact ⟨by unfold isOneF; simp_all [b2], rfl⟩
          · skip
            refine pw_iconst (v := 1) dX8_isUnder_29 rfl ?_
            refine pw_goto (tgt := 34) dX8_isUnder_30 (by decide) ?_
            refine pw_zret dX8_isUnder_34 rfl (by decide) ?_
            exact ⟨by unfold isOneF; simp_all [b2], rfl⟩
      · skip
        refine pw_iload_n dX8_isUnder_14 rfl rfl ?_
        refine pw_iconst (v := 3) dX8_isUnder_15 rfl ?_
        refine pw_icmp_eq (tgt := 29) dX8_isUnder_16 (by decide) (fun c_16 => ?_) (fun c_16 => ?_)
        · skip
          refine pw_iconst (v := 1) dX8_isUnder_29 rfl ?_
          refine pw_goto (tgt := 34) dX8_isUnder_30 (by decide) ?_
          refine pw_zret dX8_isUnder_34 rfl (by decide) ?_
          exact ⟨by unfold isOneF; simp_all [b2], rfl⟩
        · skip
          refine pw_iload_n dX8_isUnder_19 rfl rfl ?_
          refine pw_iconst (v := 2) dX8_isUnder_20 rfl ?_
          refine pw_icmp_ne (tgt := 33) dX8_isUnder_21 (by decide) (fun c_21 => ?_) (fun c_21 => ?_)
          · skip
            refine pw_iconst (v := 0) dX8_isUnder_33 rfl ?_
            refine pw_zret dX8_isUnder_34 rfl (by decide) ?_
            exact ⟨by unfold isOneF; simp_all [b2], rfl⟩
          · skip
            refine pw_iload_n dX8_isUnder_24 rfl rfl ?_
            refine pw_iconst (v := 4) dX8_isUnder_25 rfl ?_
            refine pw_icmp_ne (tgt := 33) dX8_isUnder_26 (by decide) (fun c_26 => ?_) (fun c_26 => ?_)
            · skip
              refine pw_iconst (v := 0) dX8_isUnder_33 rfl ?_
              refine pw_zret dX8_isUnder_34 rfl (by decide) ?_
              exact ⟨by unfold isOneF; simp_all [b2], rfl⟩
            · skip
              refine pw_iconst (v := 1) dX8_isUnder_29 rfl ?_
              refine pw_goto (tgt := 34) dX8_isUnder_30 (by decide) ?_
              refine pw_zret dX8_isUnder_34 rfl (by decide) ?_
              exact ⟨by unfold isOneF; simp_all [b2], rfl⟩

set_option maxHeartbeats 4000000 in
set_option maxRecDepth 100000 in
theorem T_X8_taken {l : Launch} {μ : PM} {V : VW} {nm sk st : Nat → Int32} {sn : Int32} {nj nh : Nat} {i k0 : Int32} (h1 : V 0 1 = nI nj) (hj5 : nj ≤ 5) (h5 : V 0 5 = nI nh) (hh6 : nh ≤ 6) (hkd : ∀ j, j < nj → V 1 j ≠ 6 ∧ V 1 j ≠ 6) : CT l SM yX8_taken cX8_taken 3 (some .int) 3 [.ref 0, .int i, .int k0] (mm μ V nm sk st sn) (QI fun x m => x = takF V i k0 ∧ m = mm μ V nm sk st sn) := by
  refine CT.of rfl (Nat.le_of_ble_eq_true rfl) ?_
  show PW l SM RX8 cX8_taken 3 (some .int) 3 _ 0 [(0, .ref 0), (1, .int i), (2, .int k0)] [] (mm μ V nm sk st sn)
  refine pw_iload_n dX8_taken_0 rfl rfl ?_
  refine pw_iconst (v := 0) dX8_taken_1 rfl ?_
  refine pw_bipush (v := 6) dX8_taken_2 rfl ?_
  refine pw_cSi dX8_taken_4 ms_X8_78 T_X8_in rfl rfl (Nat.le_of_ble_eq_true rfl) (by decide) (fun x_4 m_4 h_4 => ?_)
  obtain ⟨rfl, rfl⟩ := h_4
  refine pw_if_ne (tgt := 13) dX8_taken_7 (by decide) (fun c_7 => ?_) (fun c_7 => ?_)
  · skip
    have hb_7 := b2_n c_7
    refine pw_iload_n dX8_taken_13 rfl rfl ?_
    refine pw_iconst (v := 0) dX8_taken_14 rfl ?_
    refine pw_bipush (v := 10) dX8_taken_15 rfl ?_
    refine pw_cSi dX8_taken_17 ms_X8_78 T_X8_in rfl rfl (Nat.le_of_ble_eq_true rfl) (by decide) (fun x_17 m_17 h_17 => ?_)
    obtain ⟨rfl, rfl⟩ := h_17
    refine pw_if_ne (tgt := 26) dX8_taken_20 (by decide) (fun c_20 => ?_) (fun c_20 => ?_)
    · skip
      have hb_20 := b2_n c_20
      obtain ⟨z, hz10, rfl⟩ := in_trueL (n := 10) hb_20 (by decide)
      have hT : takF V (nI z) k0 = if (5 : Int32) ≤ nI z then tkH V (nI z - 5) k0 else tkJ V (nI z) k0 := by unfold takF; rw [hb_7, hb_20, if_pos rfl, if_pos rfl]
      refine pw_iload_n dX8_taken_26 rfl rfl ?_
      refine pw_iconst (v := 5) dX8_taken_27 rfl ?_
      refine pw_icmp_lt (tgt := 70) dX8_taken_28 (by decide) (fun c_28 => ?_) (fun c_28 => ?_)
      · skip
        have hz5 : z < 5 := (nI_ltI (b := 5) (by omega) (by decide)).mp c_28
        rw [if_neg (Int32.not_le.mpr c_28)] at hT
        refine pw_iload_n dX8_taken_70 rfl rfl ?_
        refine pw_aload_n dX8_taken_71 rfl rfl ?_
        refine pw_getI dX8_taken_72 fa_X8_75 rfl ?_
        refine pw_top (y := nI nj) h1 ?_
        refine pw_icmp_lt (tgt := 83) dX8_taken_75 (by decide) (fun c_75 => ?_) (fun c_75 => ?_)
        · skip
          have hlt : z < nj := (nI_ltI (by omega) (by omega)).mp c_75
          have hjr : jkF V (nI z) = true := by unfold jkF; rw [h1]; exact in_t hlt (by omega)
          refine pw_iload_n dX8_taken_83 rfl rfl ?_
          refine pw_bipush (v := 6) dX8_taken_84 rfl ?_
          refine pw_icmp_ge (tgt := 106) dX8_taken_86 (by decide) (fun c_86 => ?_) (fun c_86 => ?_)
          · skip
            have hk6 : k0 = 6 := by
              obtain ⟨y, hy, rfl⟩ := in_trueL (n := 6) hb_7 (by decide)
              have : 6 ≤ y := (nI_leI (a := 6) (by decide) (by omega)).mp c_86
              rw [show y = 6 by omega]; rfl
            refine pw_bipush (v := (-13)) dX8_taken_106 rfl ?_
            refine pw_iret dX8_taken_108 rfl ?_
            exact ⟨by rw [hT]; unfold tkJ; rw [hjr, if_pos rfl, cl_nI (by omega), hk6]; have := (hkd z hlt).1; unfold isOneF; simp_all, rfl⟩
          · skip
            refine pw_aload_n dX8_taken_89 rfl rfl ?_
            refine pw_getR dX8_taken_90 fa_X8_7 rfl ?_
            refine pw_iload_n dX8_taken_93 rfl rfl ?_
            refine pw_iald (j := z) dX8_taken_94 rfl rfl (by omega) ?_
            refine pw_top (y := V 1 z) rfl ?_
            refine pw_iload_n dX8_taken_95 rfl rfl ?_
            refine pw_cSi dX8_taken_96 ms_X8_313 T_X8_isUnder rfl rfl (Nat.le_of_ble_eq_true rfl) (by decide) (fun x_96 m_96 h_96 => ?_)
            obtain ⟨rfl, rfl⟩ := h_96
            refine pw_if_eq (tgt := 106) dX8_taken_99 (by decide) (fun c_99 => ?_) (fun c_99 => ?_)
            · skip
              have hb_99 := b2_0 c_99
              refine pw_bipush (v := (-13)) dX8_taken_106 rfl ?_
              refine pw_iret dX8_taken_108 rfl ?_
              exact ⟨by rw [hT]; unfold tkJ; rw [hjr, if_pos rfl, cl_nI (by omega), hb_99, if_neg Bool.false_ne_true], rfl⟩
            · skip
              have hb_99 := b2_n c_99
              refine pw_iload_n dX8_taken_102 rfl rfl ?_
              refine pw_goto (tgt := 108) dX8_taken_103 (by decide) ?_
              refine pw_iret dX8_taken_108 rfl ?_
              exact ⟨by rw [hT]; unfold tkJ; rw [hjr, if_pos rfl, cl_nI (by omega), hb_99, if_pos rfl], rfl⟩
        · skip
          have hjr : jkF V (nI z) = false := by unfold jkF; rw [h1]; exact in_out (by rcases Nat.lt_or_ge z nj with q | q; exact absurd (nI_lt q (by omega)) c_75; exact q) (by omega)
          refine pw_bipush (v := (-11)) dX8_taken_78 rfl ?_
          refine pw_goto (tgt := 108) dX8_taken_80 (by decide) ?_
          refine pw_iret dX8_taken_108 rfl ?_
          exact ⟨by rw [hT]; unfold tkJ; rw [hjr]; rfl, rfl⟩
      · skip
        have hz5 : 5 ≤ z := by
          rcases Nat.lt_or_ge z 5 with q | q
          · exact absurd (nI_lt (b := 5) q (by decide)) c_28
          · exact q
        rw [if_pos (Int32.not_lt.mp c_28), show nI z - 5 = nI (z - 5) from pk_sub (a := z) (b := 5) hz5] at hT
        refine pw_iload_n dX8_taken_31 rfl rfl ?_
        refine pw_iconst (v := 5) dX8_taken_32 rfl ?_
        refine pw_isub dX8_taken_33 ?_
        refine pw_top (y := nI (z - 5)) (pk_sub (a := z) (b := 5) hz5) ?_
        refine pw_aload_n dX8_taken_34 rfl rfl ?_
        refine pw_getI dX8_taken_35 fa_X8_82 rfl ?_
        refine pw_top (y := nI nh) h5 ?_
        refine pw_icmp_lt (tgt := 46) dX8_taken_38 (by decide) (fun c_38 => ?_) (fun c_38 => ?_)
        · skip
          have hlt : z - 5 < nh := (nI_ltI (by omega) (by omega)).mp c_38
          have hhr : hrF V (nI (z - 5)) = true := by unfold hrF; rw [h5]; exact in_t hlt (by omega)
          refine pw_iload_n dX8_taken_46 rfl rfl ?_
          refine pw_bipush (v := 6) dX8_taken_47 rfl ?_
          refine pw_icmp_ne (tgt := 67) dX8_taken_49 (by decide) (fun c_49 => ?_) (fun c_49 => ?_)
          · skip
            refine pw_bipush (v := (-13)) dX8_taken_67 rfl ?_
            refine pw_iret dX8_taken_69 rfl ?_
            exact ⟨by rw [hT]; unfold tkH; rw [hhr, if_pos rfl, if_neg c_49], rfl⟩
          · skip
            refine pw_aload_n dX8_taken_52 rfl rfl ?_
            refine pw_getR dX8_taken_53 fa_X8_19 rfl ?_
            refine pw_iconst (v := 5) dX8_taken_56 rfl ?_
            refine pw_iload_n dX8_taken_57 rfl rfl ?_
            refine pw_iconst (v := 5) dX8_taken_58 rfl ?_
            refine pw_isub dX8_taken_59 ?_
            refine pw_top (y := nI (z - 5)) (pk_sub (a := z) (b := 5) hz5) ?_
            refine pw_imul dX8_taken_60 ?_
            refine pw_iconst (v := 1) dX8_taken_61 rfl ?_
            refine pw_iadd dX8_taken_62 ?_
            refine pw_iald (j := 5 * (z - 5) + 1) dX8_taken_63 rfl (by show nI 5 * nI (z - 5) + nI 1 = _; rw [pk_mul, nI_add]) (by omega) ?_
            refine pw_top (y := V 5 (z - 5)) (hl_at (by decide)) ?_
            refine pw_goto (tgt := 69) dX8_taken_64 (by decide) ?_
            refine pw_iret dX8_taken_69 rfl ?_
            exact ⟨by rw [hT]; unfold tkH; rw [hhr, if_pos rfl, if_pos c_49, cl_nI (by omega)], rfl⟩
        · skip
          have hhr : hrF V (nI (z - 5)) = false := by unfold hrF; rw [h5]; exact in_out (by rcases Nat.lt_or_ge (z - 5) nh with q | q; exact absurd (nI_lt q (by omega)) c_38; exact q) (by omega)
          refine pw_bipush (v := (-11)) dX8_taken_41 rfl ?_
          refine pw_goto (tgt := 69) dX8_taken_43 (by decide) ?_
          refine pw_iret dX8_taken_69 rfl ?_
          exact ⟨by rw [hT]; unfold tkH; rw [hhr]; rfl, rfl⟩
    · skip
      have hb_20 := b2_0 c_20
      refine pw_bipush (v := (-12)) dX8_taken_23 rfl ?_
      refine pw_iret dX8_taken_25 rfl ?_
      exact ⟨by unfold takF; rw [hb_7, hb_20]; rfl, rfl⟩
  · skip
    have hb_7 := b2_0 c_7
    refine pw_bipush (v := (-2)) dX8_taken_10 rfl ?_
    refine pw_iret dX8_taken_12 rfl ?_
    exact ⟨by unfold takF; rw [hb_7]; rfl, rfl⟩

