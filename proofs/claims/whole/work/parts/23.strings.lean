theorem sdrop : ∀ q, q < 8 → (sbyt.getD 1 []).drop q = (sbyt.getD 1 []).getD q 0 :: (sbyt.getD 1 []).drop (q + 1) := by decide +kernel
set_option maxHeartbeats 4000000 in
set_option maxRecDepth 100000 in
theorem T_J0_coder_7d493 {l : Launch} {Ω : SH} {i : Nat} {μ : PM} (hi : i < 3) : CT l Ω yJ0_coder_7d493 cJ0_coder_7d493 1 (some .byte) 1 [.ref (1000 + i)] μ (QI fun x m => x = 0 ∧ m = μ) := by
  refine CT.of rfl (Nat.le_of_ble_eq_true rfl) ?_
  show PW l Ω RJ0 cJ0_coder_7d493 1 (some .byte) 1 _ 0 [(0, .ref (1000 + i))] [] μ
  refine pw_gsC dJ0_coder_7d493_0 fs_J0_38 ?_
  refine pw_if_eq (tgt := 13) dJ0_coder_7d493_3 (by decide) (fun c_3 => ?_) (fun c_3 => ?_)
  · skip
    exact absurd c_3 (by decide)
  · skip
    refine pw_aload_n dJ0_coder_7d493_6 rfl rfl ?_
    refine pw_scod (i := i) hi dJ0_coder_7d493_7 fs_J0_15 ?_
    refine pw_goto (tgt := 14) dJ0_coder_7d493_10 (by decide) ?_
    refine pw_cret dJ0_coder_7d493_14 rfl rfl ?_
    exact ⟨rfl, rfl⟩

set_option maxHeartbeats 4000000 in
set_option maxRecDepth 100000 in
theorem T_J0_isLatin1_aae02 {l : Launch} {Ω : SH} {i : Nat} {μ : PM} (hi : i < 3) : CT l Ω yJ0_isLatin1_aae02 cJ0_isLatin1_aae02 1 (some .boolean) 1 [.ref (1000 + i)] μ (QI fun x m => x = 1 ∧ m = μ) := by
  refine CT.of rfl (Nat.le_of_ble_eq_true rfl) ?_
  show PW l Ω RJ0 cJ0_isLatin1_aae02 1 (some .boolean) 1 _ 0 [(0, .ref (1000 + i))] [] μ
  refine pw_gsC dJ0_isLatin1_aae02_0 fs_J0_38 ?_
  refine pw_if_eq (tgt := 17) dJ0_isLatin1_aae02_3 (by decide) (fun c_3 => ?_) (fun c_3 => ?_)
  · skip
    exact absurd c_3 (by decide)
  · skip
    refine pw_aload_n dJ0_isLatin1_aae02_6 rfl rfl ?_
    refine pw_scod (i := i) hi dJ0_isLatin1_aae02_7 fs_J0_15 ?_
    refine pw_if_ne (tgt := 17) dJ0_isLatin1_aae02_10 (by decide) (fun c_10 => ?_) (fun c_10 => ?_)
    · skip
      exact absurd rfl c_10
    · skip
      refine pw_iconst (v := 1) dJ0_isLatin1_aae02_13 rfl ?_
      refine pw_goto (tgt := 18) dJ0_isLatin1_aae02_14 (by decide) ?_
      refine pw_zret dJ0_isLatin1_aae02_18 rfl (by simp) ?_
      exact ⟨rfl, rfl⟩

set_option maxHeartbeats 4000000 in
set_option maxRecDepth 100000 in
theorem T_J0_length_8abf5 {l : Launch} {Ω : SH} {i : Nat} {μ : PM} (hi : i < 3) : CT l Ω yJ0_length_8abf5 cJ0_length_8abf5 1 (some .int) 2 [.ref (1000 + i)] μ (QI fun x m => x = nI (slen.getD i 0) ∧ m = μ) := by
  refine CT.of rfl (Nat.le_of_ble_eq_true rfl) ?_
  show PW l Ω RJ0 cJ0_length_8abf5 1 (some .int) 2 _ 0 [(0, .ref (1000 + i))] [] μ
  refine pw_aload_n dJ0_length_8abf5_0 rfl rfl ?_
  refine pw_sval (i := i) hi dJ0_length_8abf5_1 fs_J0_9 ?_
  refine pw_salen (i := i) hi dJ0_length_8abf5_4 ?_
  refine pw_aload_n dJ0_length_8abf5_5 rfl rfl ?_
  refine pw_cVi dJ0_length_8abf5_6 mv_J0_335 (ckS (i := i) hi) (T_J0_coder_7d493 hi) rfl rfl (Nat.le_of_ble_eq_true rfl) (by decide) (fun x_6 m_6 h_6 => ?_)
  obtain ⟨rfl, rfl⟩ := h_6
  refine pw_ishr dJ0_length_8abf5_9 ?_
  refine pw_iret dJ0_length_8abf5_10 rfl ?_
  exact ⟨slen_shr i hi, rfl⟩

set_option maxHeartbeats 4000000 in
set_option maxRecDepth 100000 in
theorem T_J3_checkIndex_n {l : Launch} {Ω : SH} {a n : Nat} {μ : PM} (ha : a < n) (hn : n ≤ 100) : CT l Ω yJ3_checkIndex_8e157 cJ3_checkIndex_8e157 3 (some .int) 1 [.int (nI a), .int (nI n), .null] μ (QI fun x m => x = nI a ∧ m = μ) := by
  refine CT.of rfl (Nat.le_of_ble_eq_true rfl) ?_
  show PW l Ω RJ3 cJ3_checkIndex_8e157 3 (some .int) 1 _ 0 [(0, .int (nI a)), (1, .int (nI n)), (2, .null)] [] μ
  refine pw_iload_n dJ3_checkIndex_8e157_0 rfl rfl ?_
  refine pw_if_lt (tgt := 9) dJ3_checkIndex_8e157_1 (by decide) (fun c_1 => ?_) (fun c_1 => ?_)
  · skip
    exact absurd c_1 (nI_pos (by omega))
  · skip
    refine pw_iload_n dJ3_checkIndex_8e157_4 rfl rfl ?_
    refine pw_iload_n dJ3_checkIndex_8e157_5 rfl rfl ?_
    refine pw_icmp_lt (tgt := 16) dJ3_checkIndex_8e157_6 (by decide) (fun c_6 => ?_) (fun c_6 => ?_)
    · skip
      refine pw_iload_n dJ3_checkIndex_8e157_16 rfl rfl ?_
      refine pw_iret dJ3_checkIndex_8e157_17 rfl ?_
      exact ⟨rfl, rfl⟩
    · skip
      exact absurd (nI_lt ha (by omega)) c_6

set_option maxHeartbeats 4000000 in
set_option maxRecDepth 100000 in
theorem T_J3_checkIndex_r {l : Launch} {Ω : SH} {a n : Nat} {μ : PM} (ha : a < n) (hn : n ≤ 100) : CT l Ω yJ3_checkIndex_8e157 cJ3_checkIndex_8e157 3 (some .int) 1 [.int (nI a), .int (nI n), .ref 2000] μ (QI fun x m => x = nI a ∧ m = μ) := by
  refine CT.of rfl (Nat.le_of_ble_eq_true rfl) ?_
  show PW l Ω RJ3 cJ3_checkIndex_8e157 3 (some .int) 1 _ 0 [(0, .int (nI a)), (1, .int (nI n)), (2, .ref 2000)] [] μ
  refine pw_iload_n dJ3_checkIndex_8e157_0 rfl rfl ?_
  refine pw_if_lt (tgt := 9) dJ3_checkIndex_8e157_1 (by decide) (fun c_1 => ?_) (fun c_1 => ?_)
  · skip
    exact absurd c_1 (nI_pos (by omega))
  · skip
    refine pw_iload_n dJ3_checkIndex_8e157_4 rfl rfl ?_
    refine pw_iload_n dJ3_checkIndex_8e157_5 rfl rfl ?_
    refine pw_icmp_lt (tgt := 16) dJ3_checkIndex_8e157_6 (by decide) (fun c_6 => ?_) (fun c_6 => ?_)
    · skip
      refine pw_iload_n dJ3_checkIndex_8e157_16 rfl rfl ?_
      refine pw_iret dJ3_checkIndex_8e157_17 rfl ?_
      exact ⟨rfl, rfl⟩
    · skip
      exact absurd (nI_lt ha (by omega)) c_6

set_option maxHeartbeats 4000000 in
set_option maxRecDepth 100000 in
theorem T_J0_checkIndex_df160 {l : Launch} {Ω : SH} {a n : Nat} {μ : PM} (ha : a < n) (hn : n ≤ 100) : CT l Ω yJ0_checkIndex_df160 cJ0_checkIndex_df160 2 none 2 [.int (nI a), .int (nI n)] μ (QV fun m => m = μ) := by
  refine CT.of rfl (Nat.le_of_ble_eq_true rfl) ?_
  show PW l Ω RJ0 cJ0_checkIndex_df160 2 none 2 _ 0 [(0, .int (nI a)), (1, .int (nI n))] [] μ
  refine pw_iload_n dJ0_checkIndex_df160_0 rfl rfl ?_
  refine pw_iload_n dJ0_checkIndex_df160_1 rfl rfl ?_
  refine pw_gsS dJ0_checkIndex_df160_2 fs_J0_1053 ?_ ?_
  · refine pw_cSi dJ0_checkIndex_df160_5 ms_J0_1059 (T_J3_checkIndex_n ha hn) rfl rfl (Nat.le_of_ble_eq_true rfl) (by decide) (fun x_5 m_5 h_5 => ?_)
    obtain ⟨rfl, rfl⟩ := h_5
    refine pw_pop dJ0_checkIndex_df160_8 rfl ?_
    exact pw_vret dJ0_checkIndex_df160_9 rfl rfl
  · refine pw_cSi dJ0_checkIndex_df160_5 ms_J0_1059 (T_J3_checkIndex_r ha hn) rfl rfl (Nat.le_of_ble_eq_true rfl) (by decide) (fun x_5 m_5 h_5 => ?_)
    obtain ⟨rfl, rfl⟩ := h_5
    refine pw_pop dJ0_checkIndex_df160_8 rfl ?_
    exact pw_vret dJ0_checkIndex_df160_9 rfl rfl

set_option maxHeartbeats 4000000 in
set_option maxRecDepth 100000 in
theorem T_J1_charAt_3b067 {l : Launch} {Ω : SH} {i k0 : Nat} {μ : PM} (hi : i < 3) (hk : k0 < slen.getD i 0) : CT l Ω yJ1_charAt_3b067 cJ1_charAt_3b067 2 (some .char) 3 [.ref (1100 + i), .int (nI k0)] μ (QI fun x m => x = sch i k0 ∧ m = μ) := by
  refine CT.of rfl (Nat.le_of_ble_eq_true rfl) ?_
  show PW l Ω RJ1 cJ1_charAt_3b067 2 (some .char) 3 _ 0 [(0, .ref (1100 + i)), (1, .int (nI k0))] [] μ
  refine pw_iload_n dJ1_charAt_3b067_0 rfl rfl ?_
  refine pw_aload_n dJ1_charAt_3b067_1 rfl rfl ?_
  refine pw_salen (i := i) hi dJ1_charAt_3b067_2 ?_
  refine pw_cSv dJ1_charAt_3b067_3 ms_J1_9 (T_J0_checkIndex_df160 hk (by have := slen_le i hi; omega)) rfl rfl (Nat.le_of_ble_eq_true rfl) (by decide) (fun m_3 h_3 => ?_)
  obtain rfl := h_3
  refine pw_aload_n dJ1_charAt_3b067_6 rfl rfl ?_
  refine pw_iload_n dJ1_charAt_3b067_7 rfl rfl ?_
  refine pw_sbal (i := i) hi dJ1_charAt_3b067_8 rfl hk (by have := slen_le i hi; omega) ?_
  refine pw_sipush (v := 255) dJ1_charAt_3b067_9 rfl ?_
  refine pw_iand dJ1_charAt_3b067_12 ?_
  refine pw_i2c dJ1_charAt_3b067_13 ?_
  refine pw_top (y := sch i k0) (sch_all i hi k0 hk).1 ?_
  refine pw_cret dJ1_charAt_3b067_14 rfl (sch_all i hi k0 hk).2 ?_
  exact ⟨rfl, rfl⟩

set_option maxHeartbeats 4000000 in
set_option maxRecDepth 100000 in
theorem T_J0_charAt_5068e {l : Launch} {Ω : SH} {i k0 : Nat} {μ : PM} (hi : i < 3) (hk : k0 < slen.getD i 0) : CT l Ω yJ0_charAt_5068e cJ0_charAt_5068e 2 (some .char) 4 [.ref (1000 + i), .int (nI k0)] μ (QI fun x m => x = sch i k0 ∧ m = μ) := by
  refine CT.of rfl (Nat.le_of_ble_eq_true rfl) ?_
  show PW l Ω RJ0 cJ0_charAt_5068e 2 (some .char) 4 _ 0 [(0, .ref (1000 + i)), (1, .int (nI k0))] [] μ
  refine pw_aload_n dJ0_charAt_5068e_0 rfl rfl ?_
  refine pw_cVi dJ0_charAt_5068e_1 mv_J0_492 (ckS (i := i) hi) (T_J0_isLatin1_aae02 hi) rfl rfl (Nat.le_of_ble_eq_true rfl) (by decide) (fun x_1 m_1 h_1 => ?_)
  obtain ⟨rfl, rfl⟩ := h_1
  refine pw_if_eq (tgt := 16) dJ0_charAt_5068e_4 (by decide) (fun c_4 => ?_) (fun c_4 => ?_)
  · skip
    exact absurd c_4 (by decide)
  · skip
    refine pw_aload_n dJ0_charAt_5068e_7 rfl rfl ?_
    refine pw_sval (i := i) hi dJ0_charAt_5068e_8 fs_J0_9 ?_
    refine pw_iload_n dJ0_charAt_5068e_11 rfl rfl ?_
    refine pw_cSi dJ0_charAt_5068e_12 ms_J0_495 (T_J1_charAt_3b067 hi hk) rfl rfl (Nat.le_of_ble_eq_true rfl) (by decide) (fun x_12 m_12 h_12 => ?_)
    obtain ⟨rfl, rfl⟩ := h_12
    refine pw_cret dJ0_charAt_5068e_15 rfl (sch_all i hi k0 hk).2 ?_
    exact ⟨rfl, rfl⟩

set_option maxHeartbeats 4000000 in
set_option maxRecDepth 100000 in
theorem T_J1_canEncode_9a6ad {l : Launch} {Ω : SH} {c : Int32} {μ : PM} : CT l Ω yJ1_canEncode_9a6ad cJ1_canEncode_9a6ad 1 (some .boolean) 1 [.int c] μ (QI fun x m => x = b2 (inF c 0 255) ∧ m = μ) := by
  refine CT.of rfl (Nat.le_of_ble_eq_true rfl) ?_
  show PW l Ω RJ1 cJ1_canEncode_9a6ad 1 (some .boolean) 1 _ 0 [(0, .int c)] [] μ
  refine pw_iload_n dJ1_canEncode_9a6ad_0 rfl rfl ?_
  refine pw_if_lt (tgt := 15) dJ1_canEncode_9a6ad_1 (by decide) (fun c_1 => ?_) (fun c_1 => ?_)
  · skip
    refine pw_iconst (v := 0) dJ1_canEncode_9a6ad_15 rfl ?_
    refine pw_zret dJ1_canEncode_9a6ad_16 rfl (by simp) ?_
    exact ⟨by unfold inF; rw [decide_eq_false (Int32.not_le.mpr c_1)]; rfl, rfl⟩
  · skip
    refine pw_iload_n dJ1_canEncode_9a6ad_4 rfl rfl ?_
    refine pw_sipush (v := 255) dJ1_canEncode_9a6ad_5 rfl ?_
    refine pw_icmp_gt (tgt := 15) dJ1_canEncode_9a6ad_8 (by decide) (fun c_8 => ?_) (fun c_8 => ?_)
    · skip
      refine pw_iconst (v := 0) dJ1_canEncode_9a6ad_15 rfl ?_
      refine pw_zret dJ1_canEncode_9a6ad_16 rfl (by simp) ?_
      exact ⟨by unfold inF; rw [decide_eq_false (Int32.not_le.mpr c_8)]; cases decide (0 ≤ c) <;> rfl, rfl⟩
    · skip
      refine pw_iconst (v := 1) dJ1_canEncode_9a6ad_11 rfl ?_
      refine pw_goto (tgt := 16) dJ1_canEncode_9a6ad_12 (by decide) ?_
      refine pw_zret dJ1_canEncode_9a6ad_16 rfl (by simp) ?_
      exact ⟨by unfold inF; rw [decide_eq_true (Int32.not_lt.mp c_1), decide_eq_true (Int32.not_lt.mp c_8)]; rfl, rfl⟩

set_option maxHeartbeats 4000000 in
set_option maxRecDepth 100000 in
theorem T_J1_indexOfChar_4cfef {l : Launch} {Ω : SH} {c : Int32} {μ : PM} : CT l Ω yJ1_indexOfChar_4cfef cJ1_indexOfChar_4cfef 6 (some .int) 1 [.ref 1101, .int c, .int 0, .int 8] μ (QI fun x m => x = ixL c.toInt8.toInt32 (sbyt.getD 1 []) 0 ∧ m = μ) := by
  refine CT.of rfl (Nat.le_of_ble_eq_true rfl) ?_
  show PW l Ω RJ1 cJ1_indexOfChar_4cfef 6 (some .int) 1 _ 0 [(0, .ref 1101), (1, .int c), (2, .int 0), (3, .int 8)] [] μ
  refine pw_iload_n dJ1_indexOfChar_4cfef_0 rfl rfl ?_
  refine pw_i2b dJ1_indexOfChar_4cfef_1 ?_
  refine pw_istore (ls2 := [(4, _), (0, _), (1, _), (2, _), (3, _)]) dJ1_indexOfChar_4cfef_2 (by decide) rfl ?_
  refine pw_iload_n dJ1_indexOfChar_4cfef_4 rfl rfl ?_
  refine pw_istore (ls2 := [(5, _), (4, _), (0, _), (1, _), (2, _), (3, _)]) dJ1_indexOfChar_4cfef_5 (by decide) rfl ?_
  have L_7 : ∀ (fu_7 : Nat) (q : Nat), (q ≤ 8) → (ixL c.toInt8.toInt32 ((sbyt.getD 1 []).drop q) q = ixL c.toInt8.toInt32 (sbyt.getD 1 []) 0) → 8 - q < fu_7 → PW l Ω RJ1 cJ1_indexOfChar_4cfef 6 (some .int) 1 (QI fun x m => x = ixL c.toInt8.toInt32 (sbyt.getD 1 []) 0 ∧ m = μ) 7 [(0, .ref 1101), (3, .int 8), (4, .int c.toInt8.toInt32), (5, .int (nI q))] [] (μ) := by
    intro fu_7
    induction fu_7 with
    | zero =>
      intro q hq hx hm_7
      exact absurd hm_7 (Nat.not_lt_zero _)
    | succ fu_7 ih_7 =>
      intro q hq hx hm_7
      refine pw_iload dJ1_indexOfChar_4cfef_7 rfl ?_
      refine pw_iload_n dJ1_indexOfChar_4cfef_9 rfl rfl ?_
      refine pw_icmp_ge (tgt := 31) dJ1_indexOfChar_4cfef_10 (by decide) (fun c_10 => ?_) (fun c_10 => ?_)
      · skip
        have hge := nI_geD (n := 8) (by decide) c_10
        refine pw_iconst (v := (-1)) dJ1_indexOfChar_4cfef_31 rfl ?_
        refine pw_iret dJ1_indexOfChar_4cfef_32 rfl ?_
        exact ⟨by rw [← hx, show q = 8 by omega]; rfl, rfl⟩
      · skip
        have hlt := nI_ltD (n := 8) (by omega) c_10
        refine pw_aload_n dJ1_indexOfChar_4cfef_13 rfl rfl ?_
        refine pw_iload dJ1_indexOfChar_4cfef_14 rfl ?_
        refine pw_sbal (i := 1) (by decide) dJ1_indexOfChar_4cfef_16 (j := q) rfl (show q < 8 from hlt) (by decide) ?_
        obtain ⟨b, hb⟩ : ∃ b, b = (sbyt.getD 1 []).getD q 0 := ⟨_, rfl⟩
        rw [← hb]
        refine pw_iload dJ1_indexOfChar_4cfef_17 rfl ?_
        refine pw_icmp_ne (tgt := 25) dJ1_indexOfChar_4cfef_19 (by decide) (fun c_19 => ?_) (fun c_19 => ?_)
        · skip
          refine pw_iinc (ls2 := [(5, _), (0, _), (3, _), (4, _)]) (v := nI (q + 1)) dJ1_indexOfChar_4cfef_25 rfl (inc1 q) (by decide) rfl ?_
          refine pw_goto (tgt := 7) dJ1_indexOfChar_4cfef_28 (by decide) ?_
          refine pw_sub [1, 2, 3, 0] rfl ?_
          exact ih_7 (q + 1) hlt (by rw [← hx]; have e := sdrop q hlt; rw [e]; show _ = if _ then _ else _; rw [← hb, if_neg c_19]) (by omega)
        · skip
          refine pw_iload dJ1_indexOfChar_4cfef_22 rfl ?_
          refine pw_iret dJ1_indexOfChar_4cfef_24 rfl ?_
          exact ⟨by rw [← hx]; have e := sdrop q hlt; rw [e]; show _ = if _ then _ else _; rw [← hb, if_pos c_19], rfl⟩
  refine pw_sub [2, 5, 1, 0] rfl ?_
  exact L_7 9 0 (Nat.zero_le _) rfl (by omega)

set_option maxHeartbeats 4000000 in
set_option maxRecDepth 100000 in
theorem T_J1_indexOf_4cfef {l : Launch} {Ω : SH} {c : Int32} {μ : PM} : CT l Ω yJ1_indexOf_4cfef cJ1_indexOf_4cfef 4 (some .int) 3 [.ref 1101, .int c, .int 0, .int 8] μ (QI fun x m => x = ixS c ∧ m = μ) := by
  refine CT.of rfl (Nat.le_of_ble_eq_true rfl) ?_
  show PW l Ω RJ1 cJ1_indexOf_4cfef 4 (some .int) 3 _ 0 [(0, .ref 1101), (1, .int c), (2, .int 0), (3, .int 8)] [] μ
  refine pw_iload_n dJ1_indexOf_4cfef_0 rfl rfl ?_
  refine pw_cSi dJ1_indexOf_4cfef_1 ms_J1_88 T_J1_canEncode_9a6ad rfl rfl (Nat.le_of_ble_eq_true rfl) (by decide) (fun x_1 m_1 h_1 => ?_)
  obtain ⟨rfl, rfl⟩ := h_1
  refine pw_if_ne (tgt := 9) dJ1_indexOf_4cfef_4 (by decide) (fun c_4 => ?_) (fun c_4 => ?_)
  · skip
    have hb := b2_n c_4
    refine pw_iload_n dJ1_indexOf_4cfef_9 rfl rfl ?_
    refine pw_iconst (v := 0) dJ1_indexOf_4cfef_10 rfl ?_
    refine pw_imax dJ1_indexOf_4cfef_11 lnk_J1_92 (by decide) (Nat.le_of_ble_eq_true rfl) ?_
    refine pw_top (y := 0) (by decide) ?_
    refine pw_istore_n (ls2 := [(2, _), (0, _), (1, _), (3, _)]) dJ1_indexOf_4cfef_14 rfl (by decide) rfl ?_
    refine pw_iload_n dJ1_indexOf_4cfef_15 rfl rfl ?_
    refine pw_aload_n dJ1_indexOf_4cfef_16 rfl rfl ?_
    refine pw_salen (i := 1) (by decide) dJ1_indexOf_4cfef_17 ?_
    refine pw_imin dJ1_indexOf_4cfef_18 lnk_J1_38 (by decide) (Nat.le_of_ble_eq_true rfl) ?_
    refine pw_top (y := 8) (by decide) ?_
    refine pw_istore_n (ls2 := [(3, _), (2, _), (0, _), (1, _)]) dJ1_indexOf_4cfef_21 rfl (by decide) rfl ?_
    refine pw_iload_n dJ1_indexOf_4cfef_22 rfl rfl ?_
    refine pw_iload_n dJ1_indexOf_4cfef_23 rfl rfl ?_
    refine pw_icmp_lt (tgt := 29) dJ1_indexOf_4cfef_24 (by decide) (fun c_24 => ?_) (fun c_24 => ?_)
    · skip
      refine pw_aload_n dJ1_indexOf_4cfef_29 rfl rfl ?_
      refine pw_iload_n dJ1_indexOf_4cfef_30 rfl rfl ?_
      refine pw_iload_n dJ1_indexOf_4cfef_31 rfl rfl ?_
      refine pw_iload_n dJ1_indexOf_4cfef_32 rfl rfl ?_
      refine pw_cSi dJ1_indexOf_4cfef_33 ms_J1_95 T_J1_indexOfChar_4cfef rfl rfl (Nat.le_of_ble_eq_true rfl) (by decide) (fun x_33 m_33 h_33 => ?_)
      obtain ⟨rfl, rfl⟩ := h_33
      refine pw_iret dJ1_indexOf_4cfef_36 rfl ?_
      exact ⟨by unfold ixS; rw [hb]; rfl, rfl⟩
    · skip
      exact absurd (by decide) c_24
  · skip
    have hb := b2_0 c_4
    refine pw_iconst (v := (-1)) dJ1_indexOf_4cfef_7 rfl ?_
    refine pw_iret dJ1_indexOf_4cfef_8 rfl ?_
    exact ⟨by unfold ixS; rw [hb]; rfl, rfl⟩

set_option maxHeartbeats 4000000 in
set_option maxRecDepth 100000 in
theorem T_J0_indexOf_7cf53 {l : Launch} {Ω : SH} {c : Int32} {μ : PM} : CT l Ω yJ0_indexOf_7cf53 cJ0_indexOf_7cf53 3 (some .int) 4 [.ref 1001, .int c, .int 0] μ (QI fun x m => x = ixS c ∧ m = μ) := by
  refine CT.of rfl (Nat.le_of_ble_eq_true rfl) ?_
  show PW l Ω RJ0 cJ0_indexOf_7cf53 3 (some .int) 4 _ 0 [(0, .ref 1001), (1, .int c), (2, .int 0)] [] μ
  refine pw_aload_n dJ0_indexOf_7cf53_0 rfl rfl ?_
  refine pw_cVi dJ0_indexOf_7cf53_1 mv_J0_492 (ckS (i := 1) (by decide)) (T_J0_isLatin1_aae02 (i := 1) (by decide)) rfl rfl (Nat.le_of_ble_eq_true rfl) (by decide) (fun x_1 m_1 h_1 => ?_)
  obtain ⟨rfl, rfl⟩ := h_1
  refine pw_if_eq (tgt := 23) dJ0_indexOf_7cf53_4 (by decide) (fun c_4 => ?_) (fun c_4 => ?_)
  · skip
    exact absurd c_4 (by decide)
  · skip
    refine pw_aload_n dJ0_indexOf_7cf53_7 rfl rfl ?_
    refine pw_sval (i := 1) (by decide) dJ0_indexOf_7cf53_8 fs_J0_9 ?_
    refine pw_iload_n dJ0_indexOf_7cf53_11 rfl rfl ?_
    refine pw_iload_n dJ0_indexOf_7cf53_12 rfl rfl ?_
    refine pw_aload_n dJ0_indexOf_7cf53_13 rfl rfl ?_
    refine pw_cVi dJ0_indexOf_7cf53_14 mv_J0_505 (ckS (i := 1) (by decide)) (T_J0_length_8abf5 (i := 1) (by decide)) rfl rfl (Nat.le_of_ble_eq_true rfl) (by decide) (fun x_14 m_14 h_14 => ?_)
    obtain ⟨rfl, rfl⟩ := h_14
    refine pw_cSi dJ0_indexOf_7cf53_17 ms_J0_637 T_J1_indexOf_4cfef rfl rfl (Nat.le_of_ble_eq_true rfl) (by decide) (fun x_17 m_17 h_17 => ?_)
    obtain ⟨rfl, rfl⟩ := h_17
    refine pw_goto (tgt := 36) dJ0_indexOf_7cf53_20 (by decide) ?_
    refine pw_iret dJ0_indexOf_7cf53_36 rfl ?_
    exact ⟨rfl, rfl⟩

set_option maxHeartbeats 4000000 in
set_option maxRecDepth 100000 in
theorem T_J0_indexOf_0f7a4 {l : Launch} {Ω : SH} {c : Int32} {μ : PM} : CT l Ω yJ0_indexOf_0f7a4 cJ0_indexOf_0f7a4 2 (some .int) 5 [.ref 1001, .int c] μ (QI fun x m => x = ixS c ∧ m = μ) := by
  refine CT.of rfl (Nat.le_of_ble_eq_true rfl) ?_
  show PW l Ω RJ0 cJ0_indexOf_0f7a4 2 (some .int) 5 _ 0 [(0, .ref 1001), (1, .int c)] [] μ
  refine pw_aload_n dJ0_indexOf_0f7a4_0 rfl rfl ?_
  refine pw_iload_n dJ0_indexOf_0f7a4_1 rfl rfl ?_
  refine pw_iconst (v := 0) dJ0_indexOf_0f7a4_2 rfl ?_
  refine pw_cVi dJ0_indexOf_0f7a4_3 mv_J0_633 (ckS (i := 1) (by decide)) T_J0_indexOf_7cf53 rfl rfl (Nat.le_of_ble_eq_true rfl) (by decide) (fun x_3 m_3 h_3 => ?_)
  obtain ⟨rfl, rfl⟩ := h_3
  refine pw_iret dJ0_indexOf_0f7a4_6 rfl ?_
  exact ⟨rfl, rfl⟩

