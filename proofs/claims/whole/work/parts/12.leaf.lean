theorem bound_mm {v hi : Int32} (hp : 0 ≤ hi) : (if (0 : Int32) < (if hi < v then hi else v) then (if hi < v then hi else v) else 0) = boundF v 0 hi := by
  unfold boundF
  have hp2 := Int32.le_iff_toInt_le.mp hp
  have z0 : (0 : Int32).toInt = 0 := rfl
  by_cases h1 : hi < v
  · rw [if_pos h1]
    have h1' := Int32.lt_iff_toInt_lt.mp h1
    have h3 : ¬ v < 0 := fun h => by have := Int32.lt_iff_toInt_lt.mp h; omega
    rw [if_neg h3]
    by_cases h2 : 0 < hi
    · rw [if_pos h2]
    · rw [if_neg h2]
      have h2' : ¬ (0 : Int32).toInt < hi.toInt := fun h => h2 (Int32.lt_iff_toInt_lt.mpr h)
      exact (Int32.toInt_inj.mp (by omega))
  · rw [if_neg h1]
    by_cases h2 : v < 0
    · rw [if_pos h2, if_neg]
      intro h
      have a := Int32.lt_iff_toInt_lt.mp h
      have b := Int32.lt_iff_toInt_lt.mp h2
      omega
    · rw [if_neg h2]
      by_cases h3 : 0 < v
      · rw [if_pos h3]
      · rw [if_neg h3]
        have a : ¬ (0 : Int32).toInt < v.toInt := fun h => h3 (Int32.lt_iff_toInt_lt.mpr h)
        have b : ¬ v.toInt < (0 : Int32).toInt := fun h => h2 (Int32.lt_iff_toInt_lt.mpr h)
        exact (Int32.toInt_inj.mp (by omega))
def bitF (b : Int32) (i : Nat) : Bool := decide ((b >>> (nI i &&& 31)) &&& 1 = 1)
set_option maxHeartbeats 4000000 in
set_option maxRecDepth 100000 in
theorem T_X7_bounded {l : Launch} {Ω : SH} {v hi : Int32} {μ : PM} (hp : 0 ≤ hi) : CT l Ω yX7_bounded cX7_bounded 2 (some .int) 2 [.int v, .int hi] μ (QI fun x m => x = boundF v 0 hi ∧ m = μ) := by
  refine CT.of rfl (Nat.le_of_ble_eq_true rfl) ?_
  show PW l Ω RX7 cX7_bounded 2 (some .int) 2 _ 0 [(0, .int v), (1, .int hi)] [] μ
  refine pw_iconst (v := 0) dX7_bounded_0 rfl ?_
  refine pw_iload_n dX7_bounded_1 rfl rfl ?_
  refine pw_iload_n dX7_bounded_2 rfl rfl ?_
  refine pw_imin dX7_bounded_3 lnk_X7_342 (by decide) (Nat.le_of_ble_eq_true rfl) ?_
  refine pw_imax dX7_bounded_6 lnk_X7_313 (by decide) (Nat.le_of_ble_eq_true rfl) ?_
  refine pw_iret dX7_bounded_9 rfl ?_
  exact ⟨bound_mm hp, rfl⟩

set_option maxHeartbeats 4000000 in
set_option maxRecDepth 100000 in
theorem T_X7_hasBit {l : Launch} {Ω : SH} {b : Int32} {i : Nat} {μ : PM} : CT l Ω yX7_hasBit cX7_hasBit 2 (some .boolean) 1 [.int b, .int (nI i)] μ (QI fun x m => x = b2 (bitF b i) ∧ m = μ) := by
  refine CT.of rfl (Nat.le_of_ble_eq_true rfl) ?_
  show PW l Ω RX7 cX7_hasBit 2 (some .boolean) 1 _ 0 [(0, .int b), (1, .int (nI i))] [] μ
  refine pw_iload_n dX7_hasBit_0 rfl rfl ?_
  refine pw_iload_n dX7_hasBit_1 rfl rfl ?_
  refine pw_ishr dX7_hasBit_2 ?_
  refine pw_iconst (v := 1) dX7_hasBit_3 rfl ?_
  refine pw_iand dX7_hasBit_4 ?_
  refine pw_iconst (v := 1) dX7_hasBit_5 rfl ?_
  refine pw_icmp_ne (tgt := 13) dX7_hasBit_6 (by decide) (fun c_6 => ?_) (fun c_6 => ?_)
  · skip
    refine pw_iconst (v := 0) dX7_hasBit_13 rfl ?_
    refine pw_zret dX7_hasBit_14 rfl (by simp) ?_
    exact ⟨by simp [bitF, b2, c_6], rfl⟩
  · skip
    refine pw_iconst (v := 1) dX7_hasBit_9 rfl ?_
    refine pw_goto (tgt := 14) dX7_hasBit_10 (by decide) ?_
    refine pw_zret dX7_hasBit_14 rfl (by simp) ?_
    exact ⟨by simp [bitF, b2, c_6], rfl⟩

set_option maxHeartbeats 4000000 in
set_option maxRecDepth 100000 in
theorem T_X7_isByte {l : Launch} {Ω : SH} {v : Int32} {μ : PM} : CT l Ω yX7_isByte cX7_isByte 1 (some .boolean) 2 [.int v] μ (QI fun x m => x = b2 (inF v 0 255) ∧ m = μ) := by
  refine CT.of rfl (Nat.le_of_ble_eq_true rfl) ?_
  show PW l Ω RX7 cX7_isByte 1 (some .boolean) 2 _ 0 [(0, .int v)] [] μ
  refine pw_iload_n dX7_isByte_0 rfl rfl ?_
  refine pw_iconst (v := 0) dX7_isByte_1 rfl ?_
  refine pw_sipush (v := 255) dX7_isByte_2 rfl ?_
  refine pw_cSi dX7_isByte_5 ms_X7_116 T_X7_within rfl rfl (Nat.le_of_ble_eq_true rfl) (by decide) (fun x_5 m_5 h_5 => ?_)
  obtain ⟨rfl, rfl⟩ := h_5
  refine pw_zret dX7_isByte_8 rfl (b2_01 _) ?_
  exact ⟨rfl, rfl⟩

set_option maxHeartbeats 4000000 in
set_option maxRecDepth 100000 in
theorem T_X7_isTown {l : Launch} {Ω : SH} {v : Int32} {μ : PM} : CT l Ω yX7_isTown cX7_isTown 1 (some .boolean) 2 [.int v] μ (QI fun x m => x = b2 (inF v 0 3) ∧ m = μ) := by
  refine CT.of rfl (Nat.le_of_ble_eq_true rfl) ?_
  show PW l Ω RX7 cX7_isTown 1 (some .boolean) 2 _ 0 [(0, .int v)] [] μ
  refine pw_iload_n dX7_isTown_0 rfl rfl ?_
  refine pw_iconst (v := 0) dX7_isTown_1 rfl ?_
  refine pw_iconst (v := 3) dX7_isTown_2 rfl ?_
  refine pw_cSi dX7_isTown_3 ms_X7_116 T_X7_within rfl rfl (Nat.le_of_ble_eq_true rfl) (by decide) (fun x_3 m_3 h_3 => ?_)
  obtain ⟨rfl, rfl⟩ := h_3
  refine pw_zret dX7_isTown_6 rfl (b2_01 _) ?_
  exact ⟨rfl, rfl⟩

set_option maxHeartbeats 4000000 in
set_option maxRecDepth 100000 in
theorem T_X7_isSheet {l : Launch} {Ω : SH} {v : Int32} {μ : PM} : CT l Ω yX7_isSheet cX7_isSheet 1 (some .boolean) 2 [.int v] μ (QI fun x m => x = b2 (inF v 0 3) ∧ m = μ) := by
  refine CT.of rfl (Nat.le_of_ble_eq_true rfl) ?_
  show PW l Ω RX7 cX7_isSheet 1 (some .boolean) 2 _ 0 [(0, .int v)] [] μ
  refine pw_iload_n dX7_isSheet_0 rfl rfl ?_
  refine pw_iconst (v := 0) dX7_isSheet_1 rfl ?_
  refine pw_iconst (v := 3) dX7_isSheet_2 rfl ?_
  refine pw_cSi dX7_isSheet_3 ms_X7_116 T_X7_within rfl rfl (Nat.le_of_ble_eq_true rfl) (by decide) (fun x_3 m_3 h_3 => ?_)
  obtain ⟨rfl, rfl⟩ := h_3
  refine pw_zret dX7_isSheet_6 rfl (b2_01 _) ?_
  exact ⟨rfl, rfl⟩

set_option maxHeartbeats 4000000 in
set_option maxRecDepth 100000 in
theorem T_X1_joined {l : Launch} {Ω : SH} {c a b : Int32} {μ : PM} : CT l Ω yX1_joined cX1_joined 3 (some .int) 1 [.int c, .int a, .int b] μ (QI fun x m => x = joinF c a b ∧ m = μ) := by
  refine CT.of rfl (Nat.le_of_ble_eq_true rfl) ?_
  show PW l Ω RX1 cX1_joined 3 (some .int) 1 _ 0 [(0, .int c), (1, .int a), (2, .int b)] [] μ
  refine pw_iload_n dX1_joined_0 rfl rfl ?_
  by_cases q_1_0 : c = (-17)
  · skip
    refine pw_tsIn (v := (-17)) (tgt := 94) dX1_joined_1 q_1_0 (by decide) (by decide) rfl (by decide) ?_
    refine pw_iload_n dX1_joined_94 rfl rfl ?_
    refine pw_iload_n dX1_joined_95 rfl rfl ?_
    refine pw_isub dX1_joined_96 ?_
    refine pw_iret dX1_joined_97 rfl ?_
    refine ⟨?_, rfl⟩
    simp_all [joinF]
  by_cases q_1_1 : c = (-16)
  · skip
    refine pw_tsIn (v := (-16)) (tgt := 90) dX1_joined_1 q_1_1 (by decide) (by decide) rfl (by decide) ?_
    refine pw_iload_n dX1_joined_90 rfl rfl ?_
    refine pw_iload_n dX1_joined_91 rfl rfl ?_
    refine pw_iadd dX1_joined_92 ?_
    refine pw_iret dX1_joined_93 rfl ?_
    refine ⟨?_, rfl⟩
    simp_all [joinF]
  by_cases q_1_2 : c = (-15)
  · skip
    refine pw_tsIn (v := (-15)) (tgt := 79) dX1_joined_1 q_1_2 (by decide) (by decide) rfl (by decide) ?_
    refine pw_iload_n dX1_joined_79 rfl rfl ?_
    refine pw_iload_n dX1_joined_80 rfl rfl ?_
    refine pw_icmp_ne (tgt := 88) dX1_joined_81 (by decide) (fun c_81 => ?_) (fun c_81 => ?_)
    · skip
      refine pw_iconst (v := 0) dX1_joined_88 rfl ?_
      refine pw_iret dX1_joined_89 rfl ?_
      refine ⟨?_, rfl⟩
      simp_all [joinF]
    · skip
      refine pw_iconst (v := 1) dX1_joined_84 rfl ?_
      refine pw_goto (tgt := 89) dX1_joined_85 (by decide) ?_
      refine pw_iret dX1_joined_89 rfl ?_
      refine ⟨?_, rfl⟩
      simp_all [joinF]
  by_cases q_1_3 : c = (-14)
  · skip
    refine pw_tsIn (v := (-14)) (tgt := 68) dX1_joined_1 q_1_3 (by decide) (by decide) rfl (by decide) ?_
    refine pw_iload_n dX1_joined_68 rfl rfl ?_
    refine pw_iload_n dX1_joined_69 rfl rfl ?_
    refine pw_icmp_ge (tgt := 77) dX1_joined_70 (by decide) (fun c_70 => ?_) (fun c_70 => ?_)
    · skip
      refine pw_iconst (v := 0) dX1_joined_77 rfl ?_
      refine pw_iret dX1_joined_78 rfl ?_
      refine ⟨?_, rfl⟩
      simp_all [joinF]
    · skip
      refine pw_iconst (v := 1) dX1_joined_73 rfl ?_
      refine pw_goto (tgt := 78) dX1_joined_74 (by decide) ?_
      refine pw_iret dX1_joined_78 rfl ?_
      refine ⟨?_, rfl⟩
      simp_all [joinF]
  by_cases q_1_4 : c = (-13)
  · skip
    refine pw_tsIn (v := (-13)) (tgt := 54) dX1_joined_1 q_1_4 (by decide) (by decide) rfl (by decide) ?_
    refine pw_iload_n dX1_joined_54 rfl rfl ?_
    refine pw_if_eq (tgt := 66) dX1_joined_55 (by decide) (fun c_55 => ?_) (fun c_55 => ?_)
    · skip
      refine pw_iconst (v := 0) dX1_joined_66 rfl ?_
      refine pw_iret dX1_joined_67 rfl ?_
      refine ⟨?_, rfl⟩
      simp_all [joinF]
    · skip
      refine pw_iload_n dX1_joined_58 rfl rfl ?_
      refine pw_if_eq (tgt := 66) dX1_joined_59 (by decide) (fun c_59 => ?_) (fun c_59 => ?_)
      · skip
        refine pw_iconst (v := 0) dX1_joined_66 rfl ?_
        refine pw_iret dX1_joined_67 rfl ?_
        refine ⟨?_, rfl⟩
        simp_all [joinF]
      · skip
        refine pw_iconst (v := 1) dX1_joined_62 rfl ?_
        refine pw_goto (tgt := 67) dX1_joined_63 (by decide) ?_
        refine pw_iret dX1_joined_67 rfl ?_
        refine ⟨?_, rfl⟩
        simp_all [joinF]
  by_cases q_1_5 : c = (-12)
  · skip
    refine pw_tsIn (v := (-12)) (tgt := 40) dX1_joined_1 q_1_5 (by decide) (by decide) rfl (by decide) ?_
    refine pw_iload_n dX1_joined_40 rfl rfl ?_
    refine pw_if_ne (tgt := 48) dX1_joined_41 (by decide) (fun c_41 => ?_) (fun c_41 => ?_)
    · skip
      refine pw_iconst (v := 1) dX1_joined_48 rfl ?_
      refine pw_goto (tgt := 53) dX1_joined_49 (by decide) ?_
      refine pw_iret dX1_joined_53 rfl ?_
      refine ⟨?_, rfl⟩
      simp_all [joinF]
    · skip
      refine pw_iload_n dX1_joined_44 rfl rfl ?_
      refine pw_if_eq (tgt := 52) dX1_joined_45 (by decide) (fun c_45 => ?_) (fun c_45 => ?_)
      · skip
        refine pw_iconst (v := 0) dX1_joined_52 rfl ?_
        refine pw_iret dX1_joined_53 rfl ?_
        refine ⟨?_, rfl⟩
        simp_all [joinF]
      · skip
        refine pw_iconst (v := 1) dX1_joined_48 rfl ?_
        refine pw_goto (tgt := 53) dX1_joined_49 (by decide) ?_
        refine pw_iret dX1_joined_53 rfl ?_
        refine ⟨?_, rfl⟩
        simp_all [joinF]
  have zq_1_0 := lv_neT q_1_0 (a := -17) rfl
  have zq_1_1 := lv_neT q_1_1 (a := -16) rfl
  have zq_1_2 := lv_neT q_1_2 (a := -15) rfl
  have zq_1_3 := lv_neT q_1_3 (a := -14) rfl
  have zq_1_4 := lv_neT q_1_4 (a := -13) rfl
  have zq_1_5 := lv_neT q_1_5 (a := -12) rfl
  refine pw_tsOut (tgt := 98) dX1_joined_1 (by omega) (by decide) ?_
  refine pw_iload_n dX1_joined_98 rfl rfl ?_
  refine pw_iload_n dX1_joined_99 rfl rfl ?_
  refine pw_imul dX1_joined_100 ?_
  refine pw_iret dX1_joined_101 rfl ?_
  refine ⟨?_, rfl⟩
  simp_all [joinF]

