set_option maxHeartbeats 4000000 in
set_option maxRecDepth 100000 in
theorem T_X0_plain {l : Launch} {Ω : SH} {said worn : Int32} {hd : Bool} {μ : PM} : CT l Ω yX0_plain cX0_plain 4 (some .int) 1 [.int said, .int worn, .int (b2 hd)] μ (QI fun x m => x = plainF said worn hd ∧ m = μ) := by
  refine CT.of rfl (Nat.le_of_ble_eq_true rfl) ?_
  show PW l Ω RX0 cX0_plain 4 (some .int) 1 _ 0 [(0, .int said), (1, .int worn), (2, .int (b2 hd))] [] μ
  refine pw_iload_n dX0_plain_0 rfl rfl ?_
  refine pw_iconst (v := 2) dX0_plain_1 rfl ?_
  refine pw_iload_n dX0_plain_2 rfl rfl ?_
  refine pw_imul dX0_plain_3 ?_
  refine pw_isub dX0_plain_4 ?_
  refine pw_istore_n (ls2 := [(3, _), (0, _), (1, _), (2, _)]) dX0_plain_5 rfl (by decide) rfl ?_
  refine pw_iload_n dX0_plain_6 rfl rfl ?_
  refine pw_if_eq (tgt := 16) dX0_plain_7 (by decide) (fun c_7 => ?_) (fun c_7 => ?_)
  · skip
    refine pw_iload_n dX0_plain_16 rfl rfl ?_
    refine pw_iret dX0_plain_17 rfl ?_
    cases hd <;> simp_all [plainF, b2]
  · skip
    skip
    refine pw_iload_n dX0_plain_10 rfl rfl ?_
    refine pw_iconst (v := 2) dX0_plain_11 rfl ?_
    refine pw_idiv dX0_plain_12 (by decide) ?_
    refine pw_goto (tgt := 17) dX0_plain_13 (by decide) ?_
    refine pw_iret dX0_plain_17 rfl ?_
    cases hd <;> simp_all [plainF, b2]

set_option maxHeartbeats 4000000 in
set_option maxRecDepth 100000 in
theorem T_X0_pun {l : Launch} {Ω : SH} {said worn more : Int32} {hd : Bool} {μ : PM} : CT l Ω yX0_pun cX0_pun 4 (some .int) 2 [.int said, .int worn, .int (b2 hd), .int more] μ (QI fun x m => x = plainF said worn hd / 2 + more ∧ m = μ) := by
  refine CT.of rfl (Nat.le_of_ble_eq_true rfl) ?_
  show PW l Ω RX0 cX0_pun 4 (some .int) 2 _ 0 [(0, .int said), (1, .int worn), (2, .int (b2 hd)), (3, .int more)] [] μ
  refine pw_iload_n dX0_pun_0 rfl rfl ?_
  refine pw_iload_n dX0_pun_1 rfl rfl ?_
  refine pw_iload_n dX0_pun_2 rfl rfl ?_
  refine pw_cSi dX0_pun_3 ms_X0_16 T_X0_plain rfl rfl (Nat.le_of_ble_eq_true rfl) (by decide) (fun x_3 m_3 h_3 => ?_)
  obtain ⟨rfl, rfl⟩ := h_3
  refine pw_iconst (v := 2) dX0_pun_6 rfl ?_
  refine pw_idiv dX0_pun_7 (by decide) ?_
  refine pw_iload_n dX0_pun_8 rfl rfl ?_
  refine pw_iadd dX0_pun_9 ?_
  refine pw_iret dX0_pun_10 rfl ?_
  exact ⟨rfl, rfl⟩

set_option maxHeartbeats 4000000 in
set_option maxRecDepth 100000 in
theorem T_X0_yarn {l : Launch} {Ω : SH} {said worn more : Int32} {hd : Bool} {μ : PM} : CT l Ω yX0_yarn cX0_yarn 4 (some .int) 2 [.int said, .int worn, .int (b2 hd), .int more] μ (QI fun x m => x = plainF said worn hd + 2 * more ∧ m = μ) := by
  refine CT.of rfl (Nat.le_of_ble_eq_true rfl) ?_
  show PW l Ω RX0 cX0_yarn 4 (some .int) 2 _ 0 [(0, .int said), (1, .int worn), (2, .int (b2 hd)), (3, .int more)] [] μ
  refine pw_iload_n dX0_yarn_0 rfl rfl ?_
  refine pw_iload_n dX0_yarn_1 rfl rfl ?_
  refine pw_iload_n dX0_yarn_2 rfl rfl ?_
  refine pw_cSi dX0_yarn_3 ms_X0_16 T_X0_plain rfl rfl (Nat.le_of_ble_eq_true rfl) (by decide) (fun x_3 m_3 h_3 => ?_)
  obtain ⟨rfl, rfl⟩ := h_3
  refine pw_iconst (v := 2) dX0_yarn_6 rfl ?_
  refine pw_iload_n dX0_yarn_7 rfl rfl ?_
  refine pw_imul dX0_yarn_8 ?_
  refine pw_iadd dX0_yarn_9 ?_
  refine pw_iret dX0_yarn_10 rfl ?_
  exact ⟨rfl, rfl⟩

set_option maxHeartbeats 4000000 in
set_option maxRecDepth 100000 in
theorem T_X0_worth {l : Launch} {Ω : SH} {kind said worn more : Int32} {hd : Bool} {μ : PM} : CT l Ω yX0_worth cX0_worth 5 (some .int) 3 [.int kind, .int said, .int worn, .int (b2 hd), .int more] μ (QI fun x m => x = kindF kind said worn hd more ∧ m = μ) := by
  refine CT.of rfl (Nat.le_of_ble_eq_true rfl) ?_
  show PW l Ω RX0 cX0_worth 5 (some .int) 3 _ 0 [(0, .int kind), (1, .int said), (2, .int worn), (3, .int (b2 hd)), (4, .int more)] [] μ
  refine pw_iload_n dX0_worth_0 rfl rfl ?_
  by_cases q_1_0 : kind = 1
  · skip
    refine pw_tsIn (v := 1) (tgt := 36) dX0_worth_1 q_1_0 (by decide) (by decide) rfl (by decide) ?_
    refine pw_iload_n dX0_worth_36 rfl rfl ?_
    refine pw_iload_n dX0_worth_37 rfl rfl ?_
    refine pw_iload_n dX0_worth_38 rfl rfl ?_
    refine pw_iload dX0_worth_39 rfl ?_
    refine pw_cSi dX0_worth_41 ms_X0_7 T_X0_pun rfl rfl (Nat.le_of_ble_eq_true rfl) (by decide) (fun x_41 m_41 h_41 => ?_)
    obtain ⟨rfl, rfl⟩ := h_41
    refine pw_iret dX0_worth_44 rfl ?_
    refine ⟨?_, rfl⟩
    cases hd <;> simp_all [kindF, b2]
  by_cases q_1_1 : kind = 2
  · skip
    refine pw_tsIn (v := 2) (tgt := 45) dX0_worth_1 q_1_1 (by decide) (by decide) rfl (by decide) ?_
    refine pw_iload_n dX0_worth_45 rfl rfl ?_
    refine pw_iload_n dX0_worth_46 rfl rfl ?_
    refine pw_iload_n dX0_worth_47 rfl rfl ?_
    refine pw_iload dX0_worth_48 rfl ?_
    refine pw_cSi dX0_worth_50 ms_X0_13 T_X0_yarn rfl rfl (Nat.le_of_ble_eq_true rfl) (by decide) (fun x_50 m_50 h_50 => ?_)
    obtain ⟨rfl, rfl⟩ := h_50
    refine pw_iret dX0_worth_53 rfl ?_
    refine ⟨?_, rfl⟩
    cases hd <;> simp_all [kindF, b2]
  by_cases q_1_2 : kind = 3
  · skip
    refine pw_tsIn (v := 3) (tgt := 54) dX0_worth_1 q_1_2 (by decide) (by decide) rfl (by decide) ?_
    refine pw_iload_n dX0_worth_54 rfl rfl ?_
    refine pw_iload_n dX0_worth_55 rfl rfl ?_
    refine pw_iconst (v := 0) dX0_worth_56 rfl ?_
    refine pw_iload dX0_worth_57 rfl ?_
    refine pw_cSi dX0_worth_59 ms_X0_7 (T_X0_pun (hd := false)) rfl rfl (Nat.le_of_ble_eq_true rfl) (by decide) (fun x_59 m_59 h_59 => ?_)
    obtain ⟨rfl, rfl⟩ := h_59
    refine pw_iload_n dX0_worth_62 rfl rfl ?_
    refine pw_if_eq (tgt := 70) dX0_worth_63 (by decide) (fun c_63 => ?_) (fun c_63 => ?_)
    · skip
      refine pw_iconst (v := 3) dX0_worth_70 rfl ?_
      refine pw_isub dX0_worth_71 ?_
      refine pw_iret dX0_worth_72 rfl ?_
      refine ⟨?_, rfl⟩
      cases hd <;> simp_all [kindF, b2]
    · skip
      refine pw_iconst (v := 0) dX0_worth_66 rfl ?_
      refine pw_goto (tgt := 71) dX0_worth_67 (by decide) ?_
      refine pw_isub dX0_worth_71 ?_
      refine pw_iret dX0_worth_72 rfl ?_
      refine ⟨?_, rfl⟩
      cases hd <;> simp_all [kindF, b2]
  by_cases q_1_3 : kind = 4
  · skip
    refine pw_tsIn (v := 4) (tgt := 73) dX0_worth_1 q_1_3 (by decide) (by decide) rfl (by decide) ?_
    refine pw_iload_n dX0_worth_73 rfl rfl ?_
    refine pw_bipush (v := 9) dX0_worth_74 rfl ?_
    refine pw_icmp_le (tgt := 96) dX0_worth_76 (by decide) (fun c_76 => ?_) (fun c_76 => ?_)
    · skip
      refine pw_iload_n dX0_worth_96 rfl rfl ?_
      refine pw_iload_n dX0_worth_97 rfl rfl ?_
      refine pw_iload_n dX0_worth_98 rfl rfl ?_
      refine pw_iload dX0_worth_99 rfl ?_
      refine pw_cSi dX0_worth_101 ms_X0_13 T_X0_yarn rfl rfl (Nat.le_of_ble_eq_true rfl) (by decide) (fun x_101 m_101 h_101 => ?_)
      obtain ⟨rfl, rfl⟩ := h_101
      refine pw_iret dX0_worth_104 rfl ?_
      refine ⟨?_, rfl⟩
      cases hd <;> simp_all [kindF, b2] <;> exact fun h => absurd h (Int32.not_lt.mpr c_76)
    · skip
      have d_76 := Int32.not_le.mp c_76
      refine pw_iload_n dX0_worth_79 rfl rfl ?_
      refine pw_iload_n dX0_worth_80 rfl rfl ?_
      refine pw_bipush (v := 9) dX0_worth_81 rfl ?_
      refine pw_isub dX0_worth_83 ?_
      refine pw_iload_n dX0_worth_84 rfl rfl ?_
      refine pw_iload dX0_worth_85 rfl ?_
      refine pw_cSi dX0_worth_87 ms_X0_13 T_X0_yarn rfl rfl (Nat.le_of_ble_eq_true rfl) (by decide) (fun x_87 m_87 h_87 => ?_)
      obtain ⟨rfl, rfl⟩ := h_87
      refine pw_bipush (v := 10) dX0_worth_90 rfl ?_
      refine pw_iadd dX0_worth_92 ?_
      refine pw_goto (tgt := 104) dX0_worth_93 (by decide) ?_
      refine pw_iret dX0_worth_104 rfl ?_
      refine ⟨?_, rfl⟩
      cases hd <;> simp_all [kindF, b2]
  by_cases q_1_4 : kind = 5
  · skip
    refine pw_tsIn (v := 5) (tgt := 105) dX0_worth_1 q_1_4 (by decide) (by decide) rfl (by decide) ?_
    refine pw_iload_n dX0_worth_105 rfl rfl ?_
    refine pw_iload_n dX0_worth_106 rfl rfl ?_
    refine pw_iload_n dX0_worth_107 rfl rfl ?_
    refine pw_cSi dX0_worth_108 ms_X0_16 T_X0_plain rfl rfl (Nat.le_of_ble_eq_true rfl) (by decide) (fun x_108 m_108 h_108 => ?_)
    obtain ⟨rfl, rfl⟩ := h_108
    refine pw_bipush (v := 9) dX0_worth_111 rfl ?_
    refine pw_imul dX0_worth_113 ?_
    refine pw_bipush (v := 10) dX0_worth_114 rfl ?_
    refine pw_idiv dX0_worth_116 (by decide) ?_
    refine pw_iret dX0_worth_117 rfl ?_
    refine ⟨?_, rfl⟩
    cases hd <;> simp_all [kindF, b2]
  have zq_1_0 := lv_neT q_1_0 (a := 1) rfl
  have zq_1_1 := lv_neT q_1_1 (a := 2) rfl
  have zq_1_2 := lv_neT q_1_2 (a := 3) rfl
  have zq_1_3 := lv_neT q_1_3 (a := 4) rfl
  have zq_1_4 := lv_neT q_1_4 (a := 5) rfl
  refine pw_tsOut (tgt := 118) dX0_worth_1 (by omega) (by decide) ?_
  refine pw_iload_n dX0_worth_118 rfl rfl ?_
  refine pw_iload_n dX0_worth_119 rfl rfl ?_
  refine pw_iload_n dX0_worth_120 rfl rfl ?_
  refine pw_cSi dX0_worth_121 ms_X0_16 T_X0_plain rfl rfl (Nat.le_of_ble_eq_true rfl) (by decide) (fun x_121 m_121 h_121 => ?_)
  obtain ⟨rfl, rfl⟩ := h_121
  refine pw_iret dX0_worth_124 rfl ?_
  refine ⟨?_, rfl⟩
  cases hd <;> simp_all [kindF, b2]

set_option maxHeartbeats 4000000 in
set_option maxRecDepth 100000 in
theorem T_X0_wornMore {l : Launch} {Ω : SH} {kind : Int32} {μ : PM} : CT l Ω yX0_wornMore cX0_wornMore 1 (some .int) 1 [.int kind] μ (QI fun x m => x = moreF kind ∧ m = μ) := by
  refine CT.of rfl (Nat.le_of_ble_eq_true rfl) ?_
  show PW l Ω RX0 cX0_wornMore 1 (some .int) 1 _ 0 [(0, .int kind)] [] μ
  refine pw_iload_n dX0_wornMore_0 rfl rfl ?_
  by_cases q_1_0 : kind = 2
  · skip
    refine pw_tsIn (v := 2) (tgt := 28) dX0_wornMore_1 q_1_0 (by decide) (by decide) rfl (by decide) ?_
    refine pw_iconst (v := 2) dX0_wornMore_28 rfl ?_
    refine pw_iret dX0_wornMore_29 rfl ?_
    simp_all [moreF]
  by_cases q_1_1 : kind = 3
  · skip
    refine pw_tsIn (v := 3) (tgt := 32) dX0_wornMore_1 q_1_1 (by decide) (by decide) rfl (by decide) ?_
    refine pw_iconst (v := 0) dX0_wornMore_32 rfl ?_
    refine pw_iret dX0_wornMore_33 rfl ?_
    simp_all [moreF]
  by_cases q_1_2 : kind = 4
  · skip
    refine pw_tsIn (v := 4) (tgt := 30) dX0_wornMore_1 q_1_2 (by decide) (by decide) rfl (by decide) ?_
    refine pw_iconst (v := 2) dX0_wornMore_30 rfl ?_
    refine pw_iret dX0_wornMore_31 rfl ?_
    simp_all [moreF]
  have zq_1_0 := lv_neT q_1_0 (a := 2) rfl
  have zq_1_1 := lv_neT q_1_1 (a := 3) rfl
  have zq_1_2 := lv_neT q_1_2 (a := 4) rfl
  refine pw_tsOut (tgt := 34) dX0_wornMore_1 (by omega) (by decide) ?_
  refine pw_iconst (v := 1) dX0_wornMore_34 rfl ?_
  refine pw_iret dX0_wornMore_35 rfl ?_
  simp_all [moreF]

set_option maxHeartbeats 4000000 in
set_option maxRecDepth 100000 in
theorem T_X0_tellsOn {l : Launch} {Ω : SH} {kind more : Int32} {μ : PM} : CT l Ω yX0_tellsOn cX0_tellsOn 2 (some .int) 1 [.int kind, .int more] μ (QI fun x m => x = onF kind more ∧ m = μ) := by
  refine CT.of rfl (Nat.le_of_ble_eq_true rfl) ?_
  show PW l Ω RX0 cX0_tellsOn 2 (some .int) 1 _ 0 [(0, .int kind), (1, .int more)] [] μ
  refine pw_iload_n dX0_tellsOn_0 rfl rfl ?_
  by_cases q_1_0 : kind = 1
  · skip
    refine pw_tsIn (v := 1) (tgt := 36) dX0_tellsOn_1 q_1_0 (by decide) (by decide) rfl (by decide) ?_
    refine pw_iconst (v := 2) dX0_tellsOn_36 rfl ?_
    refine pw_iret dX0_tellsOn_37 rfl ?_
    simp_all [onF]
  by_cases q_1_1 : kind = 2
  · skip
    refine pw_tsIn (v := 2) (tgt := 48) dX0_tellsOn_1 q_1_1 (by decide) (by decide) rfl (by decide) ?_
    refine pw_iconst (v := 1) dX0_tellsOn_48 rfl ?_
    refine pw_iret dX0_tellsOn_49 rfl ?_
    simp_all [onF]
  by_cases q_1_2 : kind = 3
  · skip
    refine pw_tsIn (v := 3) (tgt := 38) dX0_tellsOn_1 q_1_2 (by decide) (by decide) rfl (by decide) ?_
    refine pw_iconst (v := 2) dX0_tellsOn_38 rfl ?_
    refine pw_iret dX0_tellsOn_39 rfl ?_
    simp_all [onF]
  by_cases q_1_3 : kind = 4
  · skip
    refine pw_tsIn (v := 4) (tgt := 40) dX0_tellsOn_1 q_1_3 (by decide) (by decide) rfl (by decide) ?_
    refine pw_iconst (v := 0) dX0_tellsOn_40 rfl ?_
    refine pw_iret dX0_tellsOn_41 rfl ?_
    simp_all [onF]
  by_cases q_1_4 : kind = 5
  · skip
    refine pw_tsIn (v := 5) (tgt := 42) dX0_tellsOn_1 q_1_4 (by decide) (by decide) rfl (by decide) ?_
    refine pw_iconst (v := 1) dX0_tellsOn_42 rfl ?_
    refine pw_iload_n dX0_tellsOn_43 rfl rfl ?_
    refine pw_iconst (v := 3) dX0_tellsOn_44 rfl ?_
    refine pw_idiv dX0_tellsOn_45 (by decide) ?_
    refine pw_iadd dX0_tellsOn_46 ?_
    refine pw_iret dX0_tellsOn_47 rfl ?_
    simp_all [onF]
  have zq_1_0 := lv_neT q_1_0 (a := 1) rfl
  have zq_1_1 := lv_neT q_1_1 (a := 2) rfl
  have zq_1_2 := lv_neT q_1_2 (a := 3) rfl
  have zq_1_3 := lv_neT q_1_3 (a := 4) rfl
  have zq_1_4 := lv_neT q_1_4 (a := 5) rfl
  refine pw_tsOut (tgt := 48) dX0_tellsOn_1 (by omega) (by decide) ?_
  refine pw_iconst (v := 1) dX0_tellsOn_48 rfl ?_
  refine pw_iret dX0_tellsOn_49 rfl ?_
  simp_all [onF]

set_option maxHeartbeats 4000000 in
set_option maxRecDepth 100000 in
theorem T_X0_isOne {l : Launch} {Ω : SH} {kind ab : Int32} {μ : PM} : CT l Ω yX0_isOne cX0_isOne 2 (some .boolean) 1 [.int kind, .int ab] μ (QI fun x m => x = b2 (isOneF kind ab) ∧ m = μ) := by
  refine CT.of rfl (Nat.le_of_ble_eq_true rfl) ?_
  show PW l Ω RX0 cX0_isOne 2 (some .boolean) 1 _ 0 [(0, .int kind), (1, .int ab)] [] μ
  refine pw_iload_n dX0_isOne_0 rfl rfl ?_
  refine pw_iload_n dX0_isOne_1 rfl rfl ?_
  refine pw_icmp_eq (tgt := 9) dX0_isOne_2 (by decide) (fun c_2 => ?_) (fun c_2 => ?_)
  · skip
    refine pw_iconst (v := 1) dX0_isOne_9 rfl ?_
    refine pw_zret dX0_isOne_10 rfl (by simp) ?_
    simp_all [isOneF, b2]
  · skip
    refine pw_iload_n dX0_isOne_5 rfl rfl ?_
    refine pw_if_ne (tgt := 11) dX0_isOne_6 (by decide) (fun c_6 => ?_) (fun c_6 => ?_)
    · skip
      refine pw_iload_n dX0_isOne_11 rfl rfl ?_
      refine pw_iconst (v := 3) dX0_isOne_12 rfl ?_
      refine pw_icmp_ne (tgt := 21) dX0_isOne_13 (by decide) (fun c_13 => ?_) (fun c_13 => ?_)
      · skip
        refine pw_iload_n dX0_isOne_21 rfl rfl ?_
        refine pw_iconst (v := 4) dX0_isOne_22 rfl ?_
        refine pw_icmp_ne (tgt := 35) dX0_isOne_23 (by decide) (fun c_23 => ?_) (fun c_23 => ?_)
        · skip
          refine pw_iconst (v := 0) dX0_isOne_35 rfl ?_
          refine pw_zret dX0_isOne_36 rfl (by simp) ?_
          simp_all [isOneF, b2]
        · skip
          refine pw_iload_n dX0_isOne_26 rfl rfl ?_
          refine pw_iconst (v := 2) dX0_isOne_27 rfl ?_
          refine pw_icmp_ne (tgt := 35) dX0_isOne_28 (by decide) (fun c_28 => ?_) (fun c_28 => ?_)
          · skip
            refine pw_iconst (v := 0) dX0_isOne_35 rfl ?_
            refine pw_zret dX0_isOne_36 rfl (by simp) ?_
            simp_all [isOneF, b2]
          · skip
            refine pw_iconst (v := 1) dX0_isOne_31 rfl ?_
            refine pw_goto (tgt := 36) dX0_isOne_32 (by decide) ?_
            refine pw_zret dX0_isOne_36 rfl (by simp) ?_
            simp_all [isOneF, b2]
      · skip
        refine pw_iload_n dX0_isOne_16 rfl rfl ?_
        refine pw_iconst (v := 1) dX0_isOne_17 rfl ?_
        refine pw_icmp_eq (tgt := 31) dX0_isOne_18 (by decide) (fun c_18 => ?_) (fun c_18 => ?_)
        · skip
          refine pw_iconst (v := 1) dX0_isOne_31 rfl ?_
          refine pw_goto (tgt := 36) dX0_isOne_32 (by decide) ?_
          refine pw_zret dX0_isOne_36 rfl (by simp) ?_
          simp_all [isOneF, b2]
        · skip
          refine pw_iload_n dX0_isOne_21 rfl rfl ?_
          refine pw_iconst (v := 4) dX0_isOne_22 rfl ?_
          refine pw_icmp_ne (tgt := 35) dX0_isOne_23 (by decide) (fun c_23 => ?_) (fun c_23 => ?_)
          · skip
            refine pw_iconst (v := 0) dX0_isOne_35 rfl ?_
            refine pw_zret dX0_isOne_36 rfl (by simp) ?_
            simp_all [isOneF, b2]
          · skip
            refine pw_iload_n dX0_isOne_26 rfl rfl ?_
            refine pw_iconst (v := 2) dX0_isOne_27 rfl ?_
            refine pw_icmp_ne (tgt := 35) dX0_isOne_28 (by decide) (fun c_28 => ?_) (fun c_28 => ?_)
            · skip
              refine pw_iconst (v := 0) dX0_isOne_35 rfl ?_
              refine pw_zret dX0_isOne_36 rfl (by simp) ?_
              simp_all [isOneF, b2]
            · skip
              refine pw_iconst (v := 1) dX0_isOne_31 rfl ?_
              refine pw_goto (tgt := 36) dX0_isOne_32 (by decide) ?_
              refine pw_zret dX0_isOne_36 rfl (by simp) ?_
              simp_all [isOneF, b2]
    · skip
      refine pw_iconst (v := 1) dX0_isOne_9 rfl ?_
      refine pw_zret dX0_isOne_10 rfl (by simp) ?_
      simp_all [isOneF, b2]

set_option maxHeartbeats 4000000 in
set_option maxRecDepth 100000 in
theorem T_X7_within {l : Launch} {Ω : SH} {v lo hi : Int32} {μ : PM} : CT l Ω yX7_within cX7_within 3 (some .boolean) 1 [.int v, .int lo, .int hi] μ (QI fun x m => x = b2 (inF v lo hi) ∧ m = μ) := by
  refine CT.of rfl (Nat.le_of_ble_eq_true rfl) ?_
  show PW l Ω RX7 cX7_within 3 (some .boolean) 1 _ 0 [(0, .int v), (1, .int lo), (2, .int hi)] [] μ
  refine pw_iload_n dX7_within_0 rfl rfl ?_
  refine pw_iload_n dX7_within_1 rfl rfl ?_
  refine pw_icmp_gt (tgt := 14) dX7_within_2 (by decide) (fun c_2 => ?_) (fun c_2 => ?_)
  · skip
    refine pw_iconst (v := 0) dX7_within_14 rfl ?_
    refine pw_zret dX7_within_15 rfl (by simp) ?_
    exact ⟨by unfold inF; rw [decide_eq_false (Int32.not_le.mpr c_2)]; rfl, rfl⟩
  · skip
    refine pw_iload_n dX7_within_5 rfl rfl ?_
    refine pw_iload_n dX7_within_6 rfl rfl ?_
    refine pw_icmp_gt (tgt := 14) dX7_within_7 (by decide) (fun c_7 => ?_) (fun c_7 => ?_)
    · skip
      refine pw_iconst (v := 0) dX7_within_14 rfl ?_
      refine pw_zret dX7_within_15 rfl (by simp) ?_
      exact ⟨by unfold inF; rw [decide_eq_false (Int32.not_le.mpr c_7)]; cases decide (lo ≤ v) <;> rfl, rfl⟩
    · skip
      refine pw_iconst (v := 1) dX7_within_10 rfl ?_
      refine pw_goto (tgt := 15) dX7_within_11 (by decide) ?_
      refine pw_zret dX7_within_15 rfl (by simp) ?_
      exact ⟨by unfold inF; rw [decide_eq_true (Int32.not_lt.mp c_2), decide_eq_true (Int32.not_lt.mp c_7)]; rfl, rfl⟩

