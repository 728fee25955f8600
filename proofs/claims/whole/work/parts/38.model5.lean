theorem one_lsb (y : Int32) : decide (y &&& 1 = 1) = y.toBitVec.getLsbD 0 := by
  rw [pk_and y 1 rfl]
  show decide (nI (y.toBitVec.toNat % 2 ^ 1) = 1) = y.toBitVec.toNat.testBit 0
  rw [Nat.testBit_zero]
  have h : y.toBitVec.toNat % 2 ^ 1 = 0 ∨ y.toBitVec.toNat % 2 ^ 1 = 1 := by omega
  rcases h with h | h
  · rw [h]; decide
  · rw [h]; decide
theorem bit_lsb (x : Int32) : ∀ i, i < 6 → bitF x i = x.toBitVec.getLsbD i := by
  have g : ∀ (s : Int32) (i : Nat), (s.toBitVec.smod 32).toNat = i → i < 6 → decide ((x >>> s) &&& 1 = 1) = x.toBitVec.getLsbD i := by
    intro s i hs hi
    rw [one_lsb]
    show (x.toBitVec.sshiftRight (s.toBitVec.smod 32).toNat).getLsbD 0 = _
    rw [hs, BitVec.getLsbD_sshiftRight]
    simp only [Nat.add_zero]
    rw [if_pos (by omega)]
    simp
  intro i hi
  match i, hi with
  | 0, _ => exact g _ 0 (by decide) (by decide)
  | 1, _ => exact g _ 1 (by decide) (by decide)
  | 2, _ => exact g _ 2 (by decide) (by decide)
  | 3, _ => exact g _ 3 (by decide) (by decide)
  | 4, _ => exact g _ 4 (by decide) (by decide)
  | 5, _ => exact g _ 5 (by decide) (by decide)
theorem bit_an (a b : Int32) {i : Nat} (h : i < 6) : bitF (a &&& (b ^^^ (-1))) i = (bitF a i && !(bitF b i)) := by
  have h1 : (-1 : Int32).toBitVec.getLsbD i = true := by
    match i, h with
    | 0, _ => decide
    | 1, _ => decide
    | 2, _ => decide
    | 3, _ => decide
    | 4, _ => decide
    | 5, _ => decide
  rw [bit_lsb _ i h, bit_lsb _ i h, bit_lsb _ i h, Int32.toBitVec_and, Int32.toBitVec_xor, BitVec.getLsbD_and, BitVec.getLsbD_xor, h1]
  cases a.toBitVec.getLsbD i <;> cases b.toBitVec.getLsbD i <;> rfl
theorem told_0 {fh : Int32} : ∀ (m o : Nat) (x l : Int32), ¬ 0 < l → toldOnF fh o m x l = x
  | 0, _, _, _, _ => rfl
  | m + 1, o, x, l, h => by
    show (if 0 < l then _ else x) = x
    rw [if_neg h]
set_option maxHeartbeats 4000000 in
set_option maxRecDepth 100000 in
theorem T_X8_isTown {l : Launch} {Ω : SH} {v : Int32} {μ : PM} : CT l Ω yX8_isTown cX8_isTown 1 (some .boolean) 2 [.int v] μ (QI fun x m => x = b2 (inF v 0 3) ∧ m = μ) := by
  refine CT.of rfl (Nat.le_of_ble_eq_true rfl) ?_
  show PW l Ω RX8 cX8_isTown 1 (some .boolean) 2 _ 0 [(0, .int v)] [] μ
  refine pw_iload_n dX8_isTown_0 rfl rfl ?_
  refine pw_iconst (v := 0) dX8_isTown_1 rfl ?_
  refine pw_iconst (v := 3) dX8_isTown_2 rfl ?_
  refine pw_cSi dX8_isTown_3 ms_X8_78 T_X8_in rfl rfl (Nat.le_of_ble_eq_true rfl) (by decide) (fun x_3 m_3 h_3 => ?_)
  obtain ⟨rfl, rfl⟩ := h_3
  refine pw_zret dX8_isTown_6 rfl (b2_01 _) ?_
  exact ⟨rfl, rfl⟩

set_option maxHeartbeats 4000000 in
set_option maxRecDepth 100000 in
theorem T_X8_rate {l : Launch} {μ : PM} {V : VW} {nm sk st : Nat → Int32} {sn : Int32} {a b v : Int32} : CT l SM yX8_rate cX8_rate 5 (some .int) 3 [.ref 0, .int a, .int b, .int v] (mm μ V nm sk st sn) (QI fun x m => x = rateX V a b v ∧ m = mm μ (rateV V a b v) nm sk st sn) := by
  refine CT.of rfl (Nat.le_of_ble_eq_true rfl) ?_
  show PW l SM RX8 cX8_rate 5 (some .int) 3 _ 0 [(0, .ref 0), (1, .int a), (2, .int b), (3, .int v)] [] (mm μ V nm sk st sn)
  refine pw_iload_n dX8_rate_0 rfl rfl ?_
  refine pw_cSi dX8_rate_1 ms_X8_244 T_X8_isTown rfl rfl (Nat.le_of_ble_eq_true rfl) (by decide) (fun x_1 m_1 h_1 => ?_)
  obtain ⟨rfl, rfl⟩ := h_1
  refine pw_if_eq (tgt := 19) dX8_rate_4 (by decide) (fun c_4 => ?_) (fun c_4 => ?_)
  · skip
    have hb_4 := b2_0 c_4
    refine pw_bipush (v := (-5)) dX8_rate_19 rfl ?_
    refine pw_iret dX8_rate_21 rfl ?_
    exact ⟨by unfold rateX rateOK; simp only [hb_4, Bool.and_true, Bool.and_false, Bool.true_and, Bool.false_and, Bool.not_true, Bool.not_false, decide_true, decide_false, Bool.false_eq_true, if_false, if_true], by unfold rateV rateOK; simp only [hb_4, Bool.and_true, Bool.and_false, Bool.true_and, Bool.false_and, Bool.not_true, Bool.not_false, decide_true, decide_false, Bool.false_eq_true, if_false, if_true]⟩
  · skip
    have hb_4 := b2_n c_4
    refine pw_iload_n dX8_rate_7 rfl rfl ?_
    refine pw_cSi dX8_rate_8 ms_X8_244 T_X8_isTown rfl rfl (Nat.le_of_ble_eq_true rfl) (by decide) (fun x_8 m_8 h_8 => ?_)
    obtain ⟨rfl, rfl⟩ := h_8
    refine pw_if_eq (tgt := 19) dX8_rate_11 (by decide) (fun c_11 => ?_) (fun c_11 => ?_)
    · skip
      have hb_11 := b2_0 c_11
      refine pw_bipush (v := (-5)) dX8_rate_19 rfl ?_
      refine pw_iret dX8_rate_21 rfl ?_
      exact ⟨by unfold rateX rateOK; simp only [hb_4, hb_11, Bool.and_true, Bool.and_false, Bool.true_and, Bool.false_and, Bool.not_true, Bool.not_false, decide_true, decide_false, Bool.false_eq_true, if_false, if_true], by unfold rateV rateOK; simp only [hb_4, hb_11, Bool.and_true, Bool.and_false, Bool.true_and, Bool.false_and, Bool.not_true, Bool.not_false, decide_true, decide_false, Bool.false_eq_true, if_false, if_true]⟩
    · skip
      have hb_11 := b2_n c_11
      refine pw_iload_n dX8_rate_14 rfl rfl ?_
      refine pw_iload_n dX8_rate_15 rfl rfl ?_
      refine pw_icmp_ne (tgt := 22) dX8_rate_16 (by decide) (fun c_16 => ?_) (fun c_16 => ?_)
      · skip
        refine pw_iload_n dX8_rate_22 rfl rfl ?_
        refine pw_iconst (v := 1) dX8_rate_23 rfl ?_
        refine pw_sipush (v := 999) dX8_rate_24 rfl ?_
        refine pw_cSi dX8_rate_27 ms_X8_78 T_X8_in rfl rfl (Nat.le_of_ble_eq_true rfl) (by decide) (fun x_27 m_27 h_27 => ?_)
        obtain ⟨rfl, rfl⟩ := h_27
        refine pw_if_ne (tgt := 36) dX8_rate_30 (by decide) (fun c_30 => ?_) (fun c_30 => ?_)
        · skip
          have hb_30 := b2_n c_30
          obtain ⟨a, ha3, rfl⟩ := in_trueL (n := 3) hb_4 (by decide)
          obtain ⟨b, hb3, rfl⟩ := in_trueL (n := 3) hb_11 (by decide)
          refine pw_aload_n dX8_rate_36 rfl rfl ?_
          refine pw_getR dX8_rate_37 fa_X8_22 rfl ?_
          refine pw_iconst (v := 4) dX8_rate_40 rfl ?_
          refine pw_iload_n dX8_rate_41 rfl rfl ?_
          refine pw_imul dX8_rate_42 ?_
          refine pw_iload_n dX8_rate_43 rfl rfl ?_
          refine pw_iadd dX8_rate_44 ?_
          refine pw_iald (j := 4 * a + b) dX8_rate_45 rfl (by show nI 4 * nI a + nI b = _; rw [pk_mul, nI_add]) (by omega) ?_
          refine pw_top (y := V 9 (4 * a + b)) rfl ?_
          refine pw_istore (ls2 := [(4, _), (0, _), (1, _), (2, _), (3, _)]) dX8_rate_46 (by decide) rfl ?_
          refine pw_aload_n dX8_rate_48 rfl rfl ?_
          refine pw_getR dX8_rate_49 fa_X8_22 rfl ?_
          refine pw_iconst (v := 4) dX8_rate_52 rfl ?_
          refine pw_iload_n dX8_rate_53 rfl rfl ?_
          refine pw_imul dX8_rate_54 ?_
          refine pw_iload_n dX8_rate_55 rfl rfl ?_
          refine pw_iadd dX8_rate_56 ?_
          refine pw_iload_n dX8_rate_57 rfl rfl ?_
          refine pw_iast (j := 4 * a + b) dX8_rate_58 rfl (by show nI 4 * nI a + nI b = _; rw [pk_mul, nI_add]) (by omega) ?_
          refine pw_mem m_5 ?_
          refine pw_iload dX8_rate_59 rfl ?_
          refine pw_iret dX8_rate_61 rfl ?_
          have q1 : inF (nI a) 0 3 = true := hb_4
          have q2 : inF (nI b) 0 3 = true := hb_11
          exact ⟨by unfold rateX rateOK; simp only [q1, q2, c_16, hb_30, cl_nI (show a < 2 ^ 31 by omega), cl_nI (show b < 2 ^ 31 by omega), Bool.and_true, Bool.and_false, Bool.true_and, Bool.false_and, Bool.not_true, Bool.not_false, decide_true, decide_false, Bool.false_eq_true, if_false, if_true], by unfold rateV rateOK; simp only [q1, q2, c_16, hb_30, cl_nI (show a < 2 ^ 31 by omega), cl_nI (show b < 2 ^ 31 by omega), Bool.and_true, Bool.and_false, Bool.true_and, Bool.false_and, Bool.not_true, Bool.not_false, decide_true, decide_false, Bool.false_eq_true, if_false, if_true]⟩
        · skip
          have hb_30 := b2_0 c_30
          refine pw_bipush (v := (-7)) dX8_rate_33 rfl ?_
          refine pw_iret dX8_rate_35 rfl ?_
          exact ⟨by unfold rateX rateOK; simp only [hb_4, hb_11, c_16, hb_30, Bool.and_true, Bool.and_false, Bool.true_and, Bool.false_and, Bool.not_true, Bool.not_false, decide_true, decide_false, Bool.false_eq_true, if_false, if_true], by unfold rateV rateOK; simp only [hb_4, hb_11, c_16, hb_30, Bool.and_true, Bool.and_false, Bool.true_and, Bool.false_and, Bool.not_true, Bool.not_false, decide_true, decide_false, Bool.false_eq_true, if_false, if_true]⟩
      · skip
        refine pw_bipush (v := (-5)) dX8_rate_19 rfl ?_
        refine pw_iret dX8_rate_21 rfl ?_
        exact ⟨by unfold rateX rateOK; simp only [hb_4, hb_11, c_16, Bool.and_true, Bool.and_false, Bool.true_and, Bool.false_and, Bool.not_true, Bool.not_false, decide_true, decide_false, Bool.false_eq_true, if_false, if_true], by unfold rateV rateOK; simp only [hb_4, hb_11, c_16, Bool.and_true, Bool.and_false, Bool.true_and, Bool.false_and, Bool.not_true, Bool.not_false, decide_true, decide_false, Bool.false_eq_true, if_false, if_true]⟩

set_option maxHeartbeats 4000000 in
set_option maxRecDepth 100000 in
theorem T_X8_changes {l : Launch} {μ : PM} {V : VW} {nm sk st : Nat → Int32} {sn : Int32} {a b : Nat} {mu : Int64} (ha : a < 4) (hb : b < 4) : CT l SM yX8_changes cX8_changes 5 (some .long) 1 [.ref 0, .int (nI a), .int (nI b), .long mu] (mm μ V nm sk st sn) (QL fun x m => x = chF (V 9) a b mu ∧ m = mm μ V nm sk st sn) := by
  refine CT.of rfl (Nat.le_of_ble_eq_true rfl) ?_
  show PW l SM RX8 cX8_changes 5 (some .long) 1 _ 0 [(0, .ref 0), (1, .int (nI a)), (2, .int (nI b)), (3, .long mu)] [] (mm μ V nm sk st sn)
  refine pw_iload_n dX8_changes_0 rfl rfl ?_
  refine pw_iload_n dX8_changes_1 rfl rfl ?_
  refine pw_icmp_ne (tgt := 9) dX8_changes_2 (by decide) (fun c_2 => ?_) (fun c_2 => ?_)
  · skip
    have hne : ¬ a = b := fun h => c_2 (by rw [h])
    refine pw_lload_n dX8_changes_9 rfl rfl ?_
    refine pw_aload_n dX8_changes_10 rfl rfl ?_
    refine pw_getR dX8_changes_11 fa_X8_22 rfl ?_
    refine pw_iconst (v := 4) dX8_changes_14 rfl ?_
    refine pw_iload_n dX8_changes_15 rfl rfl ?_
    refine pw_imul dX8_changes_16 ?_
    refine pw_iload_n dX8_changes_17 rfl rfl ?_
    refine pw_iadd dX8_changes_18 ?_
    refine pw_iald (j := 4 * a + b) dX8_changes_19 rfl (by show nI 4 * nI a + nI b = _; rw [pk_mul, nI_add]) (by omega) ?_
    refine pw_top (y := V 9 (4 * a + b)) rfl ?_
    refine pw_i2l dX8_changes_20 ?_
    refine pw_lmul dX8_changes_21 ?_
    refine pw_ldc2 dX8_changes_22 k_X8_247 ?_
    refine pw_ldiv dX8_changes_25 (by decide) ?_
    refine pw_lret dX8_changes_26 rfl ?_
    exact ⟨by unfold chF; rw [if_neg hne], rfl⟩
  · skip
    have heq : a = b := (nI_eq (by omega) (by omega)).mp c_2
    refine pw_lload_n dX8_changes_5 rfl rfl ?_
    refine pw_goto (tgt := 26) dX8_changes_6 (by decide) ?_
    refine pw_lret dX8_changes_26 rfl ?_
    exact ⟨by unfold chF; rw [if_pos heq], rfl⟩

set_option maxHeartbeats 4000000 in
set_option maxRecDepth 100000 in
theorem T_X8_change {l : Launch} {μ : PM} {V : VW} {nm sk st : Nat → Int32} {sn : Int32} {a b mu : Int32} : CT l SM yX8_change cX8_change 4 (some .long) 3 [.ref 0, .int a, .int b, .int mu] (mm μ V nm sk st sn) (QL fun x m => x = changeF V a b mu ∧ m = mm μ V nm sk st sn) := by
  refine CT.of rfl (Nat.le_of_ble_eq_true rfl) ?_
  show PW l SM RX8 cX8_change 4 (some .long) 3 _ 0 [(0, .ref 0), (1, .int a), (2, .int b), (3, .int mu)] [] (mm μ V nm sk st sn)
  refine pw_iload_n dX8_change_0 rfl rfl ?_
  refine pw_cSi dX8_change_1 ms_X8_244 T_X8_isTown rfl rfl (Nat.le_of_ble_eq_true rfl) (by decide) (fun x_1 m_1 h_1 => ?_)
  obtain ⟨rfl, rfl⟩ := h_1
  refine pw_if_eq (tgt := 36) dX8_change_4 (by decide) (fun c_4 => ?_) (fun c_4 => ?_)
  · skip
    have hb_4 := b2_0 c_4
    refine pw_ldc2 dX8_change_36 k_X8_253 ?_
    refine pw_lret dX8_change_39 rfl ?_
    exact ⟨by unfold changeF; rw [hb_4]; rfl, rfl⟩
  · skip
    have hb_4 := b2_n c_4
    refine pw_iload_n dX8_change_7 rfl rfl ?_
    refine pw_cSi dX8_change_8 ms_X8_244 T_X8_isTown rfl rfl (Nat.le_of_ble_eq_true rfl) (by decide) (fun x_8 m_8 h_8 => ?_)
    obtain ⟨rfl, rfl⟩ := h_8
    refine pw_if_eq (tgt := 36) dX8_change_11 (by decide) (fun c_11 => ?_) (fun c_11 => ?_)
    · skip
      have hb_11 := b2_0 c_11
      refine pw_ldc2 dX8_change_36 k_X8_253 ?_
      refine pw_lret dX8_change_39 rfl ?_
      exact ⟨by unfold changeF; rw [hb_4, hb_11]; rfl, rfl⟩
    · skip
      have hb_11 := b2_n c_11
      refine pw_iload_n dX8_change_14 rfl rfl ?_
      refine pw_iconst (v := 0) dX8_change_15 rfl ?_
      refine pw_sipush (v := 9999) dX8_change_16 rfl ?_
      refine pw_cSi dX8_change_19 ms_X8_78 T_X8_in rfl rfl (Nat.le_of_ble_eq_true rfl) (by decide) (fun x_19 m_19 h_19 => ?_)
      obtain ⟨rfl, rfl⟩ := h_19
      refine pw_if_eq (tgt := 36) dX8_change_22 (by decide) (fun c_22 => ?_) (fun c_22 => ?_)
      · skip
        have hb_22 := b2_0 c_22
        refine pw_ldc2 dX8_change_36 k_X8_253 ?_
        refine pw_lret dX8_change_39 rfl ?_
        exact ⟨by unfold changeF; rw [hb_4, hb_11, hb_22]; rfl, rfl⟩
      · skip
        have hb_22 := b2_n c_22
        refine pw_aload_n dX8_change_25 rfl rfl ?_
        refine pw_iload_n dX8_change_26 rfl rfl ?_
        refine pw_iload_n dX8_change_27 rfl rfl ?_
        refine pw_iload_n dX8_change_28 rfl rfl ?_
        refine pw_i2l dX8_change_29 ?_
        obtain ⟨a, ha3, rfl⟩ := in_trueL (n := 3) hb_4 (by decide)
        obtain ⟨b, hb3, rfl⟩ := in_trueL (n := 3) hb_11 (by decide)
        refine pw_cVl dX8_change_30 mv_X8_249 ckModel (T_X8_changes (by omega) (by omega)) rfl rfl (Nat.le_of_ble_eq_true rfl) (by decide) (fun x_30 m_30 h_30 => ?_)
        obtain ⟨rfl, rfl⟩ := h_30
        refine pw_goto (tgt := 39) dX8_change_33 (by decide) ?_
        refine pw_lret dX8_change_39 rfl ?_
        exact ⟨by unfold changeF; rw [show inF (nI a) 0 3 = true from hb_4, show inF (nI b) 0 3 = true from hb_11, hb_22, if_pos (by rfl), cl_nI (show a < 2 ^ 31 by omega), cl_nI (show b < 2 ^ 31 by omega)], rfl⟩

set_option maxHeartbeats 4000000 in
set_option maxRecDepth 100000 in
theorem T_X8_goesOn {l : Launch} {μ : PM} {V : VW} {nm sk st : Nat → Int32} {sn : Int32} {n j d : Nat} {fi : Int32} (hn : V 0 5 = nI n) (hn6 : n ≤ 6) (hj : j < 5) (hd : d ≤ 100) : CT l SM yX8_goesOn cX8_goesOn 11 (some .int) 2 [.ref 0, .int (nI j), .int fi, .int (nI d)] (mm μ V nm sk st sn) (QI fun x m => x = hbF V n j fi d ∧ m = mm μ V nm sk st sn) := by
  refine CT.of rfl (Nat.le_of_ble_eq_true rfl) ?_
  show PW l SM RX8 cX8_goesOn 11 (some .int) 2 _ 0 [(0, .ref 0), (1, .int (nI j)), (2, .int fi), (3, .int (nI d))] [] (mm μ V nm sk st sn)
  refine pw_iload_n dX8_goesOn_0 rfl rfl ?_
  refine pw_istore (ls2 := [(4, _), (0, _), (1, _), (2, _), (3, _)]) dX8_goesOn_1 (by decide) rfl ?_
  refine pw_iconst (v := 0) dX8_goesOn_3 rfl ?_
  refine pw_istore (ls2 := [(5, _), (4, _), (0, _), (1, _), (2, _), (3, _)]) dX8_goesOn_4 (by decide) rfl ?_
  have L_6 : ∀ (fu_6 : Nat) (q : Nat) (x : Int32), (q ≤ d) → (x = daysF (V 6) n (onF (V 1 j) (V 2 j)) fi q) → d - q < fu_6 → PW l SM RX8 cX8_goesOn 11 (some .int) 2 (QI fun x m => x = hbF V n j fi d ∧ m = mm μ V nm sk st sn) 6 [(0, .ref 0), (1, .int (nI j)), (3, .int (nI d)), (4, .int x), (5, .int (nI q))] [] (mm μ V nm sk st sn) := by
    intro fu_6
    induction fu_6 with
    | zero =>
      intro q x hq hx hm_6
      exact absurd hm_6 (Nat.not_lt_zero _)
    | succ fu_6 ih_6 =>
      intro q x hq hx hm_6
      refine pw_iload dX8_goesOn_6 rfl ?_
      refine pw_iload_n dX8_goesOn_8 rfl rfl ?_
      refine pw_icmp_ge (tgt := 155) dX8_goesOn_9 (by decide) (fun c_9 => ?_) (fun c_9 => ?_)
      · skip
        have hge := nI_geD (by omega) c_9
        refine pw_iload dX8_goesOn_155 rfl ?_
        refine pw_iret dX8_goesOn_157 rfl ?_
        exact ⟨by unfold hbF; rw [hx, show q = d by omega], rfl⟩
      · skip
        have hlt := nI_ltD (by omega) c_9
        refine pw_iload dX8_goesOn_12 rfl ?_
        refine pw_istore (ls2 := [(6, _), (0, _), (1, _), (3, _), (4, _), (5, _)]) dX8_goesOn_14 (by decide) rfl ?_
        refine pw_iconst (v := 0) dX8_goesOn_16 rfl ?_
        refine pw_istore (ls2 := [(7, _), (6, _), (0, _), (1, _), (3, _), (4, _), (5, _)]) dX8_goesOn_17 (by decide) rfl ?_
        have L_19 : ∀ (fu_19 : Nat) (h : Nat) (y : Int32), (h ≤ n) → (y = dayF (V 6) n (onF (V 1 j) (V 2 j)) x h x) → n - h < fu_19 → PW l SM RX8 cX8_goesOn 11 (some .int) 2 (QI fun x m => x = hbF V n j fi d ∧ m = mm μ V nm sk st sn) 19 [(0, .ref 0), (1, .int (nI j)), (3, .int (nI d)), (4, .int y), (5, .int (nI q)), (6, .int x), (7, .int (nI h))] [] (mm μ V nm sk st sn) := by
          intro fu_19
          induction fu_19 with
          | zero =>
            intro h y hh hy hm_19
            exact absurd hm_19 (Nat.not_lt_zero _)
          | succ fu_19 ih_19 =>
            intro h y hh hy hm_19
            refine pw_iload dX8_goesOn_19 rfl ?_
            refine pw_aload_n dX8_goesOn_21 rfl rfl ?_
            refine pw_getI dX8_goesOn_22 fa_X8_82 rfl ?_
            refine pw_top (y := nI n) hn ?_
            refine pw_icmp_ge (tgt := 149) dX8_goesOn_25 (by decide) (fun c_25 => ?_) (fun c_25 => ?_)
            · skip
              have hgh := nI_geD (by omega) c_25
              refine pw_iinc (ls2 := [(5, _), (0, _), (1, _), (3, _), (4, _), (6, _), (7, _)]) (v := nI (q + 1)) dX8_goesOn_149 rfl (inc1 q) (by decide) rfl ?_
              refine pw_goto (tgt := 6) dX8_goesOn_152 (by decide) ?_
              refine pw_sub [1, 2, 3, 4, 0] rfl ?_
              exact ih_6 (q + 1) y hlt (by rw [hy, show h = n by omega, hx]; rfl) (by omega)
            · skip
              have hlh := nI_ltD (by omega) c_25
              refine pw_iload dX8_goesOn_28 rfl ?_
              refine pw_iload dX8_goesOn_30 rfl ?_
              refine pw_ishr dX8_goesOn_32 ?_
              refine pw_iconst (v := 1) dX8_goesOn_33 rfl ?_
              refine pw_iand dX8_goesOn_34 ?_
              refine pw_iconst (v := 1) dX8_goesOn_35 rfl ?_
              refine pw_icmp_ne (tgt := 47) dX8_goesOn_36 (by decide) (fun c_36 => ?_) (fun c_36 => ?_)
              · skip
                have hbh := bit_f c_36
                refine pw_iconst (v := 0) dX8_goesOn_47 rfl ?_
                refine pw_top (y := if bitF x h then (onF (V 1 j) (V 2 j)) else 0) (by rw [hbh]; rfl) ?_
                refine pw_istore (ls2 := [(8, _), (0, _), (1, _), (3, _), (4, _), (5, _), (6, _), (7, _)]) dX8_goesOn_48 (by decide) rfl ?_
                refine pw_iconst (v := 0) dX8_goesOn_50 rfl ?_
                refine pw_istore (ls2 := [(9, _), (8, _), (0, _), (1, _), (3, _), (4, _), (5, _), (6, _), (7, _)]) dX8_goesOn_51 (by decide) rfl ?_
                have L_53 : ∀ (fu_53 : Nat) (o : Nat) (z w : Int32), (o ≤ n) → (toldOnF (V 6 h) o (n - o) z w = if bitF x h then toldOnF (V 6 h) 0 n y (onF (V 1 j) (V 2 j)) else y) → n - o < fu_53 → PW l SM RX8 cX8_goesOn 11 (some .int) 2 (QI fun x m => x = hbF V n j fi d ∧ m = mm μ V nm sk st sn) 53 [(0, .ref 0), (1, .int (nI j)), (3, .int (nI d)), (4, .int z), (5, .int (nI q)), (6, .int x), (7, .int (nI h)), (8, .int w), (9, .int (nI o))] [] (mm μ V nm sk st sn) := by
                  intro fu_53
                  induction fu_53 with
                  | zero =>
                    intro o z w ho ht hm_53
                    exact absurd hm_53 (Nat.not_lt_zero _)
                  | succ fu_53 ih_53 =>
                    intro o z w ho ht hm_53
                    refine pw_iload dX8_goesOn_53 rfl ?_
                    refine pw_aload_n dX8_goesOn_55 rfl rfl ?_
                    refine pw_getI dX8_goesOn_56 fa_X8_82 rfl ?_
                    refine pw_top (y := nI n) hn ?_
                    refine pw_icmp_ge (tgt := 143) dX8_goesOn_59 (by decide) (fun c_59 => ?_) (fun c_59 => ?_)
                    · skip
                      have hgo := nI_geD (by omega) c_59
                      refine pw_iinc (ls2 := [(7, _), (0, _), (1, _), (3, _), (4, _), (5, _), (6, _), (8, _), (9, _)]) (v := nI (h + 1)) dX8_goesOn_143 rfl (inc1 h) (by decide) rfl ?_
                      refine pw_goto (tgt := 19) dX8_goesOn_146 (by decide) ?_
                      refine pw_sub [1, 2, 3, 4, 5, 6, 0] rfl ?_
                      have e0 : n - o = 0 := by omega
                      rw [e0] at ht
                      change z = _ at ht
                      exact ih_19 (h + 1) z hlh (by rw [ht, hy]; show _ = if bitF x h then _ else _; cases bitF x h <;> rfl) (by omega)
                    · skip
                      have hlo := nI_ltD (by omega) c_59
                      have hmo : n - o = (n - (o + 1)) + 1 := by omega
                      have hto := ht
                      rw [hmo] at hto
                      change (if 0 < w then (if bitF (V 6 h &&& (z ^^^ (-1))) o then _ else _) else z) = _ at hto
                      rw [bit_an _ _ (by omega)] at hto
                      refine pw_iload dX8_goesOn_62 rfl ?_
                      refine pw_if_le (tgt := 101) dX8_goesOn_64 (by decide) (fun c_64 => ?_) (fun c_64 => ?_)
                      · skip
                        have hw0 : ¬ 0 < w := Int32.not_lt.mpr c_64
                        rw [if_neg hw0] at hto
                        refine pw_iconst (v := 0) dX8_goesOn_101 rfl ?_
                        refine pw_istore (ls2 := [(10, _), (0, _), (1, _), (3, _), (4, _), (5, _), (6, _), (7, _), (8, _), (9, _)]) dX8_goesOn_102 (by decide) rfl ?_
                        refine pw_iload dX8_goesOn_104 rfl ?_
                        refine pw_iload dX8_goesOn_106 rfl ?_
                        refine pw_if_eq (tgt := 118) dX8_goesOn_108 (by decide) (fun c_108 => ?_) (fun c_108 => ?_)
                        · skip
                          refine pw_iconst (v := 0) dX8_goesOn_118 rfl ?_
                          refine pw_ior dX8_goesOn_119 ?_
                          refine pw_istore (ls2 := [(4, _), (10, _), (0, _), (1, _), (3, _), (5, _), (6, _), (7, _), (8, _), (9, _)]) dX8_goesOn_120 (by decide) rfl ?_
                          refine pw_iload dX8_goesOn_122 rfl ?_
                          refine pw_iload dX8_goesOn_124 rfl ?_
                          refine pw_if_eq (tgt := 133) dX8_goesOn_126 (by decide) (fun c_126 => ?_) (fun c_126 => ?_)
                          · skip
                            refine pw_iconst (v := 0) dX8_goesOn_133 rfl ?_
                            refine pw_isub dX8_goesOn_134 ?_
                            refine pw_istore (ls2 := [(8, _), (4, _), (10, _), (0, _), (1, _), (3, _), (5, _), (6, _), (7, _), (9, _)]) dX8_goesOn_135 (by decide) rfl ?_
                            refine pw_iinc (ls2 := [(9, _), (8, _), (4, _), (10, _), (0, _), (1, _), (3, _), (5, _), (6, _), (7, _)]) (v := nI (o + 1)) dX8_goesOn_137 rfl (inc1 o) (by decide) rfl ?_
                            refine pw_goto (tgt := 53) dX8_goesOn_140 (by decide) ?_
                            refine pw_sub [4, 5, 6, 2, 7, 8, 9, 1, 0] rfl ?_
                            exact ih_53 (o + 1) _ _ hlo (by rw [show z ||| 0 = z from Int32.or_zero, show w - 0 = w from Int32.sub_zero w]; rw [told_0 _ _ _ _ hw0]; exact hto) (by omega)
                          · skip
                            exact absurd rfl c_126
                        · skip
                          exact absurd rfl c_108
                      · skip
                        have hw1 : 0 < w := Int32.not_le.mp c_64
                        rw [if_pos hw1] at hto
                        refine pw_aload_n dX8_goesOn_67 rfl rfl ?_
                        refine pw_getR dX8_goesOn_68 fa_X8_19 rfl ?_
                        refine pw_iconst (v := 5) dX8_goesOn_71 rfl ?_
                        refine pw_iload dX8_goesOn_72 rfl ?_
                        refine pw_imul dX8_goesOn_74 ?_
                        refine pw_iconst (v := 2) dX8_goesOn_75 rfl ?_
                        refine pw_iadd dX8_goesOn_76 ?_
                        refine pw_iald (j := 5 * h + 2) dX8_goesOn_77 rfl (by show nI 5 * nI h + nI 2 = _; rw [pk_mul, nI_add]) (by omega) ?_
                        refine pw_top (y := V 6 h) (hl_at (by decide)) ?_
                        refine pw_iload dX8_goesOn_78 rfl ?_
                        refine pw_ishr dX8_goesOn_80 ?_
                        refine pw_iconst (v := 1) dX8_goesOn_81 rfl ?_
                        refine pw_iand dX8_goesOn_82 ?_
                        refine pw_iconst (v := 1) dX8_goesOn_83 rfl ?_
                        refine pw_icmp_ne (tgt := 101) dX8_goesOn_84 (by decide) (fun c_84 => ?_) (fun c_84 => ?_)
                        · skip
                          have hbf := bit_f c_84
                          rw [hbf, Bool.false_and, if_neg Bool.false_ne_true] at hto
                          refine pw_iconst (v := 0) dX8_goesOn_101 rfl ?_
                          refine pw_istore (ls2 := [(10, _), (0, _), (1, _), (3, _), (4, _), (5, _), (6, _), (7, _), (8, _), (9, _)]) dX8_goesOn_102 (by decide) rfl ?_
                          refine pw_iload dX8_goesOn_104 rfl ?_
                          refine pw_iload dX8_goesOn_106 rfl ?_
                          refine pw_if_eq (tgt := 118) dX8_goesOn_108 (by decide) (fun c_108 => ?_) (fun c_108 => ?_)
                          · skip
                            refine pw_iconst (v := 0) dX8_goesOn_118 rfl ?_
                            refine pw_ior dX8_goesOn_119 ?_
                            refine pw_istore (ls2 := [(4, _), (10, _), (0, _), (1, _), (3, _), (5, _), (6, _), (7, _), (8, _), (9, _)]) dX8_goesOn_120 (by decide) rfl ?_
                            refine pw_iload dX8_goesOn_122 rfl ?_
                            refine pw_iload dX8_goesOn_124 rfl ?_
                            refine pw_if_eq (tgt := 133) dX8_goesOn_126 (by decide) (fun c_126 => ?_) (fun c_126 => ?_)
                            · skip
                              refine pw_iconst (v := 0) dX8_goesOn_133 rfl ?_
                              refine pw_isub dX8_goesOn_134 ?_
                              refine pw_istore (ls2 := [(8, _), (4, _), (10, _), (0, _), (1, _), (3, _), (5, _), (6, _), (7, _), (9, _)]) dX8_goesOn_135 (by decide) rfl ?_
                              refine pw_iinc (ls2 := [(9, _), (8, _), (4, _), (10, _), (0, _), (1, _), (3, _), (5, _), (6, _), (7, _)]) (v := nI (o + 1)) dX8_goesOn_137 rfl (inc1 o) (by decide) rfl ?_
                              refine pw_goto (tgt := 53) dX8_goesOn_140 (by decide) ?_
                              refine pw_sub [4, 5, 6, 2, 7, 8, 9, 1, 0] rfl ?_
                              exact ih_53 (o + 1) _ _ hlo (by rw [show z ||| 0 = z from Int32.or_zero, show w - 0 = w from Int32.sub_zero w]; exact hto) (by omega)
                            · skip
                              exact absurd rfl c_126
                          · skip
                            exact absurd rfl c_108
                        · skip
                          have hbf := bit_t c_84
                          rw [hbf, Bool.true_and] at hto
                          refine pw_iload dX8_goesOn_87 rfl ?_
                          refine pw_iload dX8_goesOn_89 rfl ?_
                          refine pw_ishr dX8_goesOn_91 ?_
                          refine pw_iconst (v := 1) dX8_goesOn_92 rfl ?_
                          refine pw_iand dX8_goesOn_93 ?_
                          refine pw_if_ne (tgt := 101) dX8_goesOn_94 (by decide) (fun c_94 => ?_) (fun c_94 => ?_)
                          · skip
                            have hbz := bit_n c_94
                            rw [hbz, Bool.not_true, if_neg Bool.false_ne_true] at hto
                            refine pw_iconst (v := 0) dX8_goesOn_101 rfl ?_
                            refine pw_istore (ls2 := [(10, _), (0, _), (1, _), (3, _), (4, _), (5, _), (6, _), (7, _), (8, _), (9, _)]) dX8_goesOn_102 (by decide) rfl ?_
                            refine pw_iload dX8_goesOn_104 rfl ?_
                            refine pw_iload dX8_goesOn_106 rfl ?_
                            refine pw_if_eq (tgt := 118) dX8_goesOn_108 (by decide) (fun c_108 => ?_) (fun c_108 => ?_)
                            · skip
                              refine pw_iconst (v := 0) dX8_goesOn_118 rfl ?_
                              refine pw_ior dX8_goesOn_119 ?_
                              refine pw_istore (ls2 := [(4, _), (10, _), (0, _), (1, _), (3, _), (5, _), (6, _), (7, _), (8, _), (9, _)]) dX8_goesOn_120 (by decide) rfl ?_
                              refine pw_iload dX8_goesOn_122 rfl ?_
                              refine pw_iload dX8_goesOn_124 rfl ?_
                              refine pw_if_eq (tgt := 133) dX8_goesOn_126 (by decide) (fun c_126 => ?_) (fun c_126 => ?_)
                              · skip
                                refine pw_iconst (v := 0) dX8_goesOn_133 rfl ?_
                                refine pw_isub dX8_goesOn_134 ?_
                                refine pw_istore (ls2 := [(8, _), (4, _), (10, _), (0, _), (1, _), (3, _), (5, _), (6, _), (7, _), (9, _)]) dX8_goesOn_135 (by decide) rfl ?_
                                refine pw_iinc (ls2 := [(9, _), (8, _), (4, _), (10, _), (0, _), (1, _), (3, _), (5, _), (6, _), (7, _)]) (v := nI (o + 1)) dX8_goesOn_137 rfl (inc1 o) (by decide) rfl ?_
                                refine pw_goto (tgt := 53) dX8_goesOn_140 (by decide) ?_
                                refine pw_sub [4, 5, 6, 2, 7, 8, 9, 1, 0] rfl ?_
                                exact ih_53 (o + 1) _ _ hlo (by rw [show z ||| 0 = z from Int32.or_zero, show w - 0 = w from Int32.sub_zero w]; exact hto) (by omega)
                              · skip
                                exact absurd rfl c_126
                            · skip
                              exact absurd rfl c_108
                          · skip
                            have hbz := bit_0 c_94
                            rw [hbz, Bool.not_false, if_pos rfl] at hto
                            refine pw_iconst (v := 1) dX8_goesOn_97 rfl ?_
                            refine pw_goto (tgt := 102) dX8_goesOn_98 (by decide) ?_
                            refine pw_istore (ls2 := [(10, _), (0, _), (1, _), (3, _), (4, _), (5, _), (6, _), (7, _), (8, _), (9, _)]) dX8_goesOn_102 (by decide) rfl ?_
                            refine pw_iload dX8_goesOn_104 rfl ?_
                            refine pw_iload dX8_goesOn_106 rfl ?_
                            refine pw_if_eq (tgt := 118) dX8_goesOn_108 (by decide) (fun c_108 => ?_) (fun c_108 => ?_)
                            · skip
                              exact absurd c_108 (by decide)
                            · skip
                              refine pw_iconst (v := 1) dX8_goesOn_111 rfl ?_
                              refine pw_iload dX8_goesOn_112 rfl ?_
                              refine pw_ishl dX8_goesOn_114 ?_
                              refine pw_goto (tgt := 119) dX8_goesOn_115 (by decide) ?_
                              refine pw_ior dX8_goesOn_119 ?_
                              refine pw_istore (ls2 := [(4, _), (10, _), (0, _), (1, _), (3, _), (5, _), (6, _), (7, _), (8, _), (9, _)]) dX8_goesOn_120 (by decide) rfl ?_
                              refine pw_iload dX8_goesOn_122 rfl ?_
                              refine pw_iload dX8_goesOn_124 rfl ?_
                              refine pw_if_eq (tgt := 133) dX8_goesOn_126 (by decide) (fun c_126 => ?_) (fun c_126 => ?_)
                              · skip
                                exact absurd c_126 (by decide)
                              · skip
                                refine pw_iconst (v := 1) dX8_goesOn_129 rfl ?_
                                refine pw_goto (tgt := 134) dX8_goesOn_130 (by decide) ?_
                                refine pw_isub dX8_goesOn_134 ?_
                                refine pw_istore (ls2 := [(8, _), (4, _), (10, _), (0, _), (1, _), (3, _), (5, _), (6, _), (7, _), (9, _)]) dX8_goesOn_135 (by decide) rfl ?_
                                refine pw_iinc (ls2 := [(9, _), (8, _), (4, _), (10, _), (0, _), (1, _), (3, _), (5, _), (6, _), (7, _)]) (v := nI (o + 1)) dX8_goesOn_137 rfl (inc1 o) (by decide) rfl ?_
                                refine pw_goto (tgt := 53) dX8_goesOn_140 (by decide) ?_
                                refine pw_sub [4, 5, 6, 2, 7, 8, 9, 1, 0] rfl ?_
                                exact ih_53 (o + 1) _ _ hlo (by rw [show w - 1 = w + Int32.ofInt (-1) from Int32.sub_eq_add_neg w 1]; exact hto) (by omega)
                refine pw_sub [2, 3, 4, 5, 6, 7, 8, 1, 0] rfl ?_
                exact L_53 (n + 1) 0 y _ (Nat.zero_le _) (by
                  cases bitF x h with
                  | true => rfl
                  | false => exact told_0 _ _ _ _ (by rw [if_neg Bool.false_ne_true]; decide)) (by omega)
              · skip
                have hbh := bit_t c_36
                refine pw_aload_n dX8_goesOn_39 rfl rfl ?_
                refine pw_iload_n dX8_goesOn_40 rfl rfl ?_
                refine pw_cVi dX8_goesOn_41 mv_X8_177 ckModel (T_X8_onOf hj) rfl rfl (Nat.le_of_ble_eq_true rfl) (by decide) (fun x_41 m_41 h_41 => ?_)
                obtain ⟨rfl, rfl⟩ := h_41
                refine pw_goto (tgt := 48) dX8_goesOn_44 (by decide) ?_
                refine pw_top (y := if bitF x h then (onF (V 1 j) (V 2 j)) else 0) (by rw [hbh]; rfl) ?_
                refine pw_istore (ls2 := [(8, _), (0, _), (1, _), (3, _), (4, _), (5, _), (6, _), (7, _)]) dX8_goesOn_48 (by decide) rfl ?_
                refine pw_iconst (v := 0) dX8_goesOn_50 rfl ?_
                refine pw_istore (ls2 := [(9, _), (8, _), (0, _), (1, _), (3, _), (4, _), (5, _), (6, _), (7, _)]) dX8_goesOn_51 (by decide) rfl ?_
                have L_53 : ∀ (fu_53 : Nat) (o : Nat) (z w : Int32), (o ≤ n) → (toldOnF (V 6 h) o (n - o) z w = if bitF x h then toldOnF (V 6 h) 0 n y (onF (V 1 j) (V 2 j)) else y) → n - o < fu_53 → PW l SM RX8 cX8_goesOn 11 (some .int) 2 (QI fun x m => x = hbF V n j fi d ∧ m = mm μ V nm sk st sn) 53 [(0, .ref 0), (1, .int (nI j)), (3, .int (nI d)), (4, .int z), (5, .int (nI q)), (6, .int x), (7, .int (nI h)), (8, .int w), (9, .int (nI o))] [] (mm μ V nm sk st sn) := by
                  intro fu_53
                  induction fu_53 with
                  | zero =>
                    intro o z w ho ht hm_53
                    exact absurd hm_53 (Nat.not_lt_zero _)
                  | succ fu_53 ih_53 =>
                    intro o z w ho ht hm_53
                    refine pw_iload dX8_goesOn_53 rfl ?_
                    refine pw_aload_n dX8_goesOn_55 rfl rfl ?_
                    refine pw_getI dX8_goesOn_56 fa_X8_82 rfl ?_
                    refine pw_top (y := nI n) hn ?_
                    refine pw_icmp_ge (tgt := 143) dX8_goesOn_59 (by decide) (fun c_59 => ?_) (fun c_59 => ?_)
                    · skip
                      have hgo := nI_geD (by omega) c_59
                      refine pw_iinc (ls2 := [(7, _), (0, _), (1, _), (3, _), (4, _), (5, _), (6, _), (8, _), (9, _)]) (v := nI (h + 1)) dX8_goesOn_143 rfl (inc1 h) (by decide) rfl ?_
                      refine pw_goto (tgt := 19) dX8_goesOn_146 (by decide) ?_
                      refine pw_sub [1, 2, 3, 4, 5, 6, 0] rfl ?_
                      have e0 : n - o = 0 := by omega
                      rw [e0] at ht
                      change z = _ at ht
                      exact ih_19 (h + 1) z hlh (by rw [ht, hy]; show _ = if bitF x h then _ else _; cases bitF x h <;> rfl) (by omega)
                    · skip
                      have hlo := nI_ltD (by omega) c_59
                      have hmo : n - o = (n - (o + 1)) + 1 := by omega
                      have hto := ht
                      rw [hmo] at hto
                      change (if 0 < w then (if bitF (V 6 h &&& (z ^^^ (-1))) o then _ else _) else z) = _ at hto
                      rw [bit_an _ _ (by omega)] at hto
                      refine pw_iload dX8_goesOn_62 rfl ?_
                      refine pw_if_le (tgt := 101) dX8_goesOn_64 (by decide) (fun c_64 => ?_) (fun c_64 => ?_)
                      · skip
                        have hw0 : ¬ 0 < w := Int32.not_lt.mpr c_64
                        rw [if_neg hw0] at hto
                        refine pw_iconst (v := 0) dX8_goesOn_101 rfl ?_
                        refine pw_istore (ls2 := [(10, _), (0, _), (1, _), (3, _), (4, _), (5, _), (6, _), (7, _), (8, _), (9, _)]) dX8_goesOn_102 (by decide) rfl ?_
                        refine pw_iload dX8_goesOn_104 rfl ?_
                        refine pw_iload dX8_goesOn_106 rfl ?_
                        refine pw_if_eq (tgt := 118) dX8_goesOn_108 (by decide) (fun c_108 => ?_) (fun c_108 => ?_)
                        · skip
                          refine pw_iconst (v := 0) dX8_goesOn_118 rfl ?_
                          refine pw_ior dX8_goesOn_119 ?_
                          refine pw_istore (ls2 := [(4, _), (10, _), (0, _), (1, _), (3, _), (5, _), (6, _), (7, _), (8, _), (9, _)]) dX8_goesOn_120 (by decide) rfl ?_
                          refine pw_iload dX8_goesOn_122 rfl ?_
                          refine pw_iload dX8_goesOn_124 rfl ?_
                          refine pw_if_eq (tgt := 133) dX8_goesOn_126 (by decide) (fun c_126 => ?_) (fun c_126 => ?_)
                          · skip
                            refine pw_iconst (v := 0) dX8_goesOn_133 rfl ?_
                            refine pw_isub dX8_goesOn_134 ?_
                            refine pw_istore (ls2 := [(8, _), (4, _), (10, _), (0, _), (1, _), (3, _), (5, _), (6, _), (7, _), (9, _)]) dX8_goesOn_135 (by decide) rfl ?_
                            refine pw_iinc (ls2 := [(9, _), (8, _), (4, _), (10, _), (0, _), (1, _), (3, _), (5, _), (6, _), (7, _)]) (v := nI (o + 1)) dX8_goesOn_137 rfl (inc1 o) (by decide) rfl ?_
                            refine pw_goto (tgt := 53) dX8_goesOn_140 (by decide) ?_
                            refine pw_sub [4, 5, 6, 2, 7, 8, 9, 1, 0] rfl ?_
                            exact ih_53 (o + 1) _ _ hlo (by rw [show z ||| 0 = z from Int32.or_zero, show w - 0 = w from Int32.sub_zero w]; rw [told_0 _ _ _ _ hw0]; exact hto) (by omega)
                          · skip
                            exact absurd rfl c_126
                        · skip
                          exact absurd rfl c_108
                      · skip
                        have hw1 : 0 < w := Int32.not_le.mp c_64
                        rw [if_pos hw1] at hto
                        refine pw_aload_n dX8_goesOn_67 rfl rfl ?_
                        refine pw_getR dX8_goesOn_68 fa_X8_19 rfl ?_
                        refine pw_iconst (v := 5) dX8_goesOn_71 rfl ?_
                        refine pw_iload dX8_goesOn_72 rfl ?_
                        refine pw_imul dX8_goesOn_74 ?_
                        refine pw_iconst (v := 2) dX8_goesOn_75 rfl ?_
                        refine pw_iadd dX8_goesOn_76 ?_
                        refine pw_iald (j := 5 * h + 2) dX8_goesOn_77 rfl (by show nI 5 * nI h + nI 2 = _; rw [pk_mul, nI_add]) (by omega) ?_
                        refine pw_top (y := V 6 h) (hl_at (by decide)) ?_
                        refine pw_iload dX8_goesOn_78 rfl ?_
                        refine pw_ishr dX8_goesOn_80 ?_
                        refine pw_iconst (v := 1) dX8_goesOn_81 rfl ?_
                        refine pw_iand dX8_goesOn_82 ?_
                        refine pw_iconst (v := 1) dX8_goesOn_83 rfl ?_
                        refine pw_icmp_ne (tgt := 101) dX8_goesOn_84 (by decide) (fun c_84 => ?_) (fun c_84 => ?_)
                        · skip
                          have hbf := bit_f c_84
                          rw [hbf, Bool.false_and, if_neg Bool.false_ne_true] at hto
                          refine pw_iconst (v := 0) dX8_goesOn_101 rfl ?_
                          refine pw_istore (ls2 := [(10, _), (0, _), (1, _), (3, _), (4, _), (5, _), (6, _), (7, _), (8, _), (9, _)]) dX8_goesOn_102 (by decide) rfl ?_
                          refine pw_iload dX8_goesOn_104 rfl ?_
                          refine pw_iload dX8_goesOn_106 rfl ?_
                          refine pw_if_eq (tgt := 118) dX8_goesOn_108 (by decide) (fun c_108 => ?_) (fun c_108 => ?_)
                          · skip
                            refine pw_iconst (v := 0) dX8_goesOn_118 rfl ?_
                            refine pw_ior dX8_goesOn_119 ?_
                            refine pw_istore (ls2 := [(4, _), (10, _), (0, _), (1, _), (3, _), (5, _), (6, _), (7, _), (8, _), (9, _)]) dX8_goesOn_120 (by decide) rfl ?_
                            refine pw_iload dX8_goesOn_122 rfl ?_
                            refine pw_iload dX8_goesOn_124 rfl ?_
                            refine pw_if_eq (tgt := 133) dX8_goesOn_126 (by decide) (fun c_126 => ?_) (fun c_126 => ?_)
                            · skip
                              refine pw_iconst (v := 0) dX8_goesOn_133 rfl ?_
                              refine pw_isub dX8_goesOn_134 ?_
                              refine pw_istore (ls2 := [(8, _), (4, _), (10, _), (0, _), (1, _), (3, _), (5, _), (6, _), (7, _), (9, _)]) dX8_goesOn_135 (by decide) rfl ?_
                              refine pw_iinc (ls2 := [(9, _), (8, _), (4, _), (10, _), (0, _), (1, _), (3, _), (5, _), (6, _), (7, _)]) (v := nI (o + 1)) dX8_goesOn_137 rfl (inc1 o) (by decide) rfl ?_
                              refine pw_goto (tgt := 53) dX8_goesOn_140 (by decide) ?_
                              refine pw_sub [4, 5, 6, 2, 7, 8, 9, 1, 0] rfl ?_
                              exact ih_53 (o + 1) _ _ hlo (by rw [show z ||| 0 = z from Int32.or_zero, show w - 0 = w from Int32.sub_zero w]; exact hto) (by omega)
                            · skip
                              exact absurd rfl c_126
                          · skip
                            exact absurd rfl c_108
                        · skip
                          have hbf := bit_t c_84
                          rw [hbf, Bool.true_and] at hto
                          refine pw_iload dX8_goesOn_87 rfl ?_
                          refine pw_iload dX8_goesOn_89 rfl ?_
                          refine pw_ishr dX8_goesOn_91 ?_
                          refine pw_iconst (v := 1) dX8_goesOn_92 rfl ?_
                          refine pw_iand dX8_goesOn_93 ?_
                          refine pw_if_ne (tgt := 101) dX8_goesOn_94 (by decide) (fun c_94 => ?_) (fun c_94 => ?_)
                          · skip
                            have hbz := bit_n c_94
                            rw [hbz, Bool.not_true, if_neg Bool.false_ne_true] at hto
                            refine pw_iconst (v := 0) dX8_goesOn_101 rfl ?_
                            refine pw_istore (ls2 := [(10, _), (0, _), (1, _), (3, _), (4, _), (5, _), (6, _), (7, _), (8, _), (9, _)]) dX8_goesOn_102 (by decide) rfl ?_
                            refine pw_iload dX8_goesOn_104 rfl ?_
                            refine pw_iload dX8_goesOn_106 rfl ?_
                            refine pw_if_eq (tgt := 118) dX8_goesOn_108 (by decide) (fun c_108 => ?_) (fun c_108 => ?_)
                            · skip
                              refine pw_iconst (v := 0) dX8_goesOn_118 rfl ?_
                              refine pw_ior dX8_goesOn_119 ?_
                              refine pw_istore (ls2 := [(4, _), (10, _), (0, _), (1, _), (3, _), (5, _), (6, _), (7, _), (8, _), (9, _)]) dX8_goesOn_120 (by decide) rfl ?_
                              refine pw_iload dX8_goesOn_122 rfl ?_
                              refine pw_iload dX8_goesOn_124 rfl ?_
                              refine pw_if_eq (tgt := 133) dX8_goesOn_126 (by decide) (fun c_126 => ?_) (fun c_126 => ?_)
                              · skip
                                refine pw_iconst (v := 0) dX8_goesOn_133 rfl ?_
                                refine pw_isub dX8_goesOn_134 ?_
                                refine pw_istore (ls2 := [(8, _), (4, _), (10, _), (0, _), (1, _), (3, _), (5, _), (6, _), (7, _), (9, _)]) dX8_goesOn_135 (by decide) rfl ?_
                                refine pw_iinc (ls2 := [(9, _), (8, _), (4, _), (10, _), (0, _), (1, _), (3, _), (5, _), (6, _), (7, _)]) (v := nI (o + 1)) dX8_goesOn_137 rfl (inc1 o) (by decide) rfl ?_
                                refine pw_goto (tgt := 53) dX8_goesOn_140 (by decide) ?_
                                refine pw_sub [4, 5, 6, 2, 7, 8, 9, 1, 0] rfl ?_
                                exact ih_53 (o + 1) _ _ hlo (by rw [show z ||| 0 = z from Int32.or_zero, show w - 0 = w from Int32.sub_zero w]; exact hto) (by omega)
                              · skip
                                exact absurd rfl c_126
                            · skip
                              exact absurd rfl c_108
                          · skip
                            have hbz := bit_0 c_94
                            rw [hbz, Bool.not_false, if_pos rfl] at hto
                            refine pw_iconst (v := 1) dX8_goesOn_97 rfl ?_
                            refine pw_goto (tgt := 102) dX8_goesOn_98 (by decide) ?_
                            refine pw_istore (ls2 := [(10, _), (0, _), (1, _), (3, _), (4, _), (5, _), (6, _), (7, _), (8, _), (9, _)]) dX8_goesOn_102 (by decide) rfl ?_
                            refine pw_iload dX8_goesOn_104 rfl ?_
                            refine pw_iload dX8_goesOn_106 rfl ?_
                            refine pw_if_eq (tgt := 118) dX8_goesOn_108 (by decide) (fun c_108 => ?_) (fun c_108 => ?_)
                            · skip
                              exact absurd c_108 (by decide)
                            · skip
                              refine pw_iconst (v := 1) dX8_goesOn_111 rfl ?_
                              refine pw_iload dX8_goesOn_112 rfl ?_
                              refine pw_ishl dX8_goesOn_114 ?_
                              refine pw_goto (tgt := 119) dX8_goesOn_115 (by decide) ?_
                              refine pw_ior dX8_goesOn_119 ?_
                              refine pw_istore (ls2 := [(4, _), (10, _), (0, _), (1, _), (3, _), (5, _), (6, _), (7, _), (8, _), (9, _)]) dX8_goesOn_120 (by decide) rfl ?_
                              refine pw_iload dX8_goesOn_122 rfl ?_
                              refine pw_iload dX8_goesOn_124 rfl ?_
                              refine pw_if_eq (tgt := 133) dX8_goesOn_126 (by decide) (fun c_126 => ?_) (fun c_126 => ?_)
                              · skip
                                exact absurd c_126 (by decide)
                              · skip
                                refine pw_iconst (v := 1) dX8_goesOn_129 rfl ?_
                                refine pw_goto (tgt := 134) dX8_goesOn_130 (by decide) ?_
                                refine pw_isub dX8_goesOn_134 ?_
                                refine pw_istore (ls2 := [(8, _), (4, _), (10, _), (0, _), (1, _), (3, _), (5, _), (6, _), (7, _), (9, _)]) dX8_goesOn_135 (by decide) rfl ?_
                                refine pw_iinc (ls2 := [(9, _), (8, _), (4, _), (10, _), (0, _), (1, _), (3, _), (5, _), (6, _), (7, _)]) (v := nI (o + 1)) dX8_goesOn_137 rfl (inc1 o) (by decide) rfl ?_
                                refine pw_goto (tgt := 53) dX8_goesOn_140 (by decide) ?_
                                refine pw_sub [4, 5, 6, 2, 7, 8, 9, 1, 0] rfl ?_
                                exact ih_53 (o + 1) _ _ hlo (by rw [show w - 1 = w + Int32.ofInt (-1) from Int32.sub_eq_add_neg w 1]; exact hto) (by omega)
                refine pw_sub [2, 3, 4, 5, 6, 7, 8, 1, 0] rfl ?_
                exact L_53 (n + 1) 0 y _ (Nat.zero_le _) (by
                  cases bitF x h with
                  | true => rfl
                  | false => exact told_0 _ _ _ _ (by rw [if_neg Bool.false_ne_true]; decide)) (by omega)
        refine pw_sub [2, 3, 4, 5, 6, 1, 0] rfl ?_
        exact L_19 (n + 1) 0 x (Nat.zero_le _) rfl (by omega)
  refine pw_sub [2, 3, 5, 1, 0] rfl ?_
  exact L_6 (d + 1) 0 fi (Nat.zero_le _) rfl (by omega)

set_option maxHeartbeats 4000000 in
set_option maxRecDepth 100000 in
theorem T_X8_spread {l : Launch} {μ : PM} {V : VW} {nm sk st : Nat → Int32} {sn : Int32} {nj nh : Nat} {j fi da : Int32} (h1 : V 0 1 = nI nj) (hj5 : nj ≤ 5) (h5 : V 0 5 = nI nh) (hh6 : nh ≤ 6) : CT l SM yX8_spread cX8_spread 4 (some .int) 4 [.ref 0, .int j, .int fi, .int da] (mm μ V nm sk st sn) (QI fun x m => x = spreadF V nh j fi da ∧ m = mm μ V nm sk st sn) := by
  refine CT.of rfl (Nat.le_of_ble_eq_true rfl) ?_
  show PW l SM RX8 cX8_spread 4 (some .int) 4 _ 0 [(0, .ref 0), (1, .int j), (2, .int fi), (3, .int da)] [] (mm μ V nm sk st sn)
  refine pw_aload_n dX8_spread_0 rfl rfl ?_
  refine pw_iload_n dX8_spread_1 rfl rfl ?_
  refine pw_cVi dX8_spread_2 mv_X8_174 ckModel T_X8_isJoke rfl rfl (Nat.le_of_ble_eq_true rfl) (by decide) (fun x_2 m_2 h_2 => ?_)
  obtain ⟨rfl, rfl⟩ := h_2
  refine pw_if_ne (tgt := 11) dX8_spread_5 (by decide) (fun c_5 => ?_) (fun c_5 => ?_)
  · skip
    have hb_5 := b2_n c_5
    refine pw_aload_n dX8_spread_11 rfl rfl ?_
    refine pw_iload_n dX8_spread_12 rfl rfl ?_
    refine pw_cVi dX8_spread_13 mv_X8_180 ckModel T_X8_areSome rfl rfl (Nat.le_of_ble_eq_true rfl) (by decide) (fun x_13 m_13 h_13 => ?_)
    obtain ⟨rfl, rfl⟩ := h_13
    refine pw_if_eq (tgt := 39) dX8_spread_16 (by decide) (fun c_16 => ?_) (fun c_16 => ?_)
    · skip
      have hb_16 := b2_0 c_16
      refine pw_bipush (v := (-7)) dX8_spread_39 rfl ?_
      refine pw_iret dX8_spread_41 rfl ?_
      exact ⟨by unfold spreadF; rw [hb_5, hb_16]; rfl, rfl⟩
    · skip
      have hb_16 := b2_n c_16
      refine pw_iload_n dX8_spread_19 rfl rfl ?_
      refine pw_iconst (v := 0) dX8_spread_20 rfl ?_
      refine pw_bipush (v := 20) dX8_spread_21 rfl ?_
      refine pw_cSi dX8_spread_23 ms_X8_78 T_X8_in rfl rfl (Nat.le_of_ble_eq_true rfl) (by decide) (fun x_23 m_23 h_23 => ?_)
      obtain ⟨rfl, rfl⟩ := h_23
      refine pw_if_eq (tgt := 39) dX8_spread_26 (by decide) (fun c_26 => ?_) (fun c_26 => ?_)
      · skip
        have hb_26 := b2_0 c_26
        refine pw_bipush (v := (-7)) dX8_spread_39 rfl ?_
        refine pw_iret dX8_spread_41 rfl ?_
        exact ⟨by unfold spreadF; rw [hb_5, hb_16, hb_26]; rfl, rfl⟩
      · skip
        have hb_26 := b2_n c_26
        refine pw_aload_n dX8_spread_29 rfl rfl ?_
        refine pw_iload_n dX8_spread_30 rfl rfl ?_
        refine pw_iload_n dX8_spread_31 rfl rfl ?_
        refine pw_iload_n dX8_spread_32 rfl rfl ?_
        obtain ⟨j, hlj, hsj, rfl⟩ := jk_of h1 hj5 hb_5
        obtain ⟨da, hd20, rfl⟩ := in_trueL (n := 20) hb_26 (by decide)
        refine pw_cVi dX8_spread_33 mv_X8_241 ckModel (T_X8_goesOn h5 hh6 hsj (by omega)) rfl rfl (Nat.le_of_ble_eq_true rfl) (by decide) (fun x_33 m_33 h_33 => ?_)
        obtain ⟨rfl, rfl⟩ := h_33
        refine pw_goto (tgt := 41) dX8_spread_36 (by decide) ?_
        refine pw_iret dX8_spread_41 rfl ?_
        exact ⟨by unfold spreadF; rw [hb_5, hb_16, show inF (nI da) 0 20 = true from hb_26, cl_nI (show j < 2 ^ 31 by omega), cl_nI (show da < 2 ^ 31 by omega)]; rfl, rfl⟩
  · skip
    have hb_5 := b2_0 c_5
    refine pw_bipush (v := (-5)) dX8_spread_8 rfl ?_
    refine pw_iret dX8_spread_10 rfl ?_
    exact ⟨by unfold spreadF; rw [hb_5]; rfl, rfl⟩

