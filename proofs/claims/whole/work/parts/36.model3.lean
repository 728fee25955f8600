def clrV (n : Nat) : Nat → VW → VW
  | 0, V => V
  | h + 1, V => vu (clrV n h V) 7 h (clrV n h V 7 h &&& (shF n ^^^ -1))
theorem clrV_0 {n : Nat} {V : VW} : ∀ h, clrV n h V 0 = V 0
  | 0 => rfl
  | h + 1 => by
    show clrV n h V 0 = V 0
    exact clrV_0 h
def jkV (V : VW) (n : Nat) (k m : Int32) : VW := vu (clrV n 6 (vu (vu (vu V 1 n k) 2 n m) 3 n 0)) 0 1 (nI (n + 1))
def jokeV (V : VW) (n : Nat) (k m : Int32) : VW := if aJok k m then (if n < 5 then jkV V n k m else V) else V
theorem b01 (x : Int32) : x &&& 1 = 0 ∨ x &&& 1 = 1 := by
  rw [pk_and x 1 rfl]
  have h : x.toBitVec.toNat % 2 ^ 1 = 0 ∨ x.toBitVec.toNat % 2 ^ 1 = 1 := by omega
  rcases h with h | h
  · exact Or.inl (by rw [h]; rfl)
  · exact Or.inr (by rw [h]; rfl)
theorem bit_0 {x : Int32} {i : Nat} (h : ((x >>> (nI i &&& 31)) &&& 1) = 0) : bitF x i = false := decide_eq_false (by rw [h]; decide)
theorem bit_n {x : Int32} {i : Nat} (h : ¬ ((x >>> (nI i &&& 31)) &&& 1) = 0) : bitF x i = true := decide_eq_true ((b01 _).resolve_left h)
theorem may_5 {V : VW} {h : Nat} {what v : Int32} (e : mayF V h what v = true) : ∃ i, i < 5 ∧ what = nI i := by
  unfold mayF at e
  by_cases q0 : what = 0
  · exact ⟨0, by decide, q0⟩
  · by_cases q1 : what = 1
    · exact ⟨1, by decide, q1⟩
    · by_cases q2 : what = 2
      · exact ⟨2, by decide, q2⟩
      · by_cases q3 : what = 3
        · exact ⟨3, by decide, q3⟩
        · by_cases q4 : what = 4
          · exact ⟨4, by decide, q4⟩
          · rw [if_neg q0, if_neg q1, if_neg q2, if_neg q3, if_neg q4] at e
            cases e
theorem tr_i {V : VW} {h : Nat} : ∀ i, i < 5 → trF V h (nI i) = V (4 + i) h
  | 0, _ => rfl
  | 1, _ => rfl
  | 2, _ => rfl
  | 3, _ => rfl
  | 4, _ => rfl
theorem be_i {V : VW} {h : Nat} {v : Int32} : ∀ i, i < 5 → beV V h (nI i) v = vu V (4 + i) h v
  | 0, _ => rfl
  | 1, _ => rfl
  | 2, _ => rfl
  | 3, _ => rfl
  | 4, _ => rfl
set_option maxHeartbeats 4000000 in
set_option maxRecDepth 100000 in
theorem T_X8_joke {l : Launch} {μ : PM} {V : VW} {nm sk st : Nat → Int32} {sn : Int32} {n : Nat} {kd mo : Int32} (h1 : V 0 1 = nI n) (hn5 : n ≤ 5) : CT l SM yX8_joke cX8_joke 4 (some .int) 2 [.ref 0, .int kd, .int mo] (mm μ V nm sk st sn) (QI fun x m => x = aJx n kd mo ∧ m = mm μ (jokeV V n kd mo) nm sk st sn) := by
  refine CT.of rfl (Nat.le_of_ble_eq_true rfl) ?_
  show PW l SM RX8 cX8_joke 4 (some .int) 2 _ 0 [(0, .ref 0), (1, .int kd), (2, .int mo)] [] (mm μ V nm sk st sn)
  refine pw_iload_n dX8_joke_0 rfl rfl ?_
  refine pw_iconst (v := 0) dX8_joke_1 rfl ?_
  refine pw_iconst (v := 5) dX8_joke_2 rfl ?_
  refine pw_cSi dX8_joke_3 ms_X8_78 T_X8_in rfl rfl (Nat.le_of_ble_eq_true rfl) (by decide) (fun x_3 m_3 h_3 => ?_)
  obtain ⟨rfl, rfl⟩ := h_3
  refine pw_if_eq (tgt := 19) dX8_joke_6 (by decide) (fun c_6 => ?_) (fun c_6 => ?_)
  · skip
    have hb_6 := b2_0 c_6
    refine pw_bipush (v := (-2)) dX8_joke_19 rfl ?_
    refine pw_iret dX8_joke_21 rfl ?_
    exact ⟨by unfold aJx aJok; rw [hb_6]; rfl, by unfold jokeV aJok; rw [hb_6]; rfl⟩
  · skip
    have hb_6 := b2_n c_6
    refine pw_iload_n dX8_joke_9 rfl rfl ?_
    refine pw_iconst (v := 0) dX8_joke_10 rfl ?_
    refine pw_bipush (v := 9) dX8_joke_11 rfl ?_
    refine pw_cSi dX8_joke_13 ms_X8_78 T_X8_in rfl rfl (Nat.le_of_ble_eq_true rfl) (by decide) (fun x_13 m_13 h_13 => ?_)
    obtain ⟨rfl, rfl⟩ := h_13
    refine pw_if_ne (tgt := 22) dX8_joke_16 (by decide) (fun c_16 => ?_) (fun c_16 => ?_)
    · skip
      have hb_16 := b2_n c_16
      refine pw_aload_n dX8_joke_22 rfl rfl ?_
      refine pw_getI dX8_joke_23 fa_X8_75 rfl ?_
      refine pw_top (y := nI n) h1 ?_
      refine pw_iconst (v := 5) dX8_joke_26 rfl ?_
      refine pw_icmp_ne (tgt := 33) dX8_joke_27 (by decide) (fun c_27 => ?_) (fun c_27 => ?_)
      · skip
        have hne : n < 5 := by
          rcases Nat.lt_or_ge n 5 with q | q
          · exact q
          · exact absurd (show nI n = 5 by rw [show n = 5 by omega]; rfl) c_27
        refine pw_aload_n dX8_joke_33 rfl rfl ?_
        refine pw_getR dX8_joke_34 fa_X8_7 rfl ?_
        refine pw_aload_n dX8_joke_37 rfl rfl ?_
        refine pw_getI dX8_joke_38 fa_X8_75 rfl ?_
        refine pw_top (y := nI n) h1 ?_
        refine pw_iload_n dX8_joke_41 rfl rfl ?_
        refine pw_iast (j := n) dX8_joke_42 rfl rfl (by omega) ?_
        refine pw_mem m_1 ?_
        refine pw_aload_n dX8_joke_43 rfl rfl ?_
        refine pw_getR dX8_joke_44 fa_X8_13 rfl ?_
        refine pw_aload_n dX8_joke_47 rfl rfl ?_
        refine pw_getI dX8_joke_48 fa_X8_75 rfl ?_
        refine pw_top (y := nI n) h1 ?_
        refine pw_iload_n dX8_joke_51 rfl rfl ?_
        refine pw_iast (j := n) dX8_joke_52 rfl rfl (by omega) ?_
        refine pw_mem m_2 ?_
        refine pw_aload_n dX8_joke_53 rfl rfl ?_
        refine pw_getR dX8_joke_54 fa_X8_16 rfl ?_
        refine pw_aload_n dX8_joke_57 rfl rfl ?_
        refine pw_getI dX8_joke_58 fa_X8_75 rfl ?_
        refine pw_top (y := nI n) h1 ?_
        refine pw_iconst (v := 0) dX8_joke_61 rfl ?_
        refine pw_iast (j := n) dX8_joke_62 rfl rfl (by omega) ?_
        refine pw_mem m_3 ?_
        refine pw_iconst (v := 0) dX8_joke_63 rfl ?_
        refine pw_istore_n (ls2 := [(3, _), (0, _), (1, _), (2, _)]) dX8_joke_64 rfl (by decide) rfl ?_
        have L_65 : ∀ (fu_65 : Nat) (i : Nat), (i ≤ 6) → 6 - i < fu_65 → PW l SM RX8 cX8_joke 4 (some .int) 2 (QI fun x m => x = aJx n kd mo ∧ m = mm μ (jokeV V n kd mo) nm sk st sn) 65 [(0, .ref 0), (3, .int (nI i))] [] (mm μ (clrV n i (vu (vu (vu V 1 n kd) 2 n mo) 3 n 0)) nm sk st sn) := by
          intro fu_65
          induction fu_65 with
          | zero =>
            intro i hi hm_65
            exact absurd hm_65 (Nat.not_lt_zero _)
          | succ fu_65 ih_65 =>
            intro i hi hm_65
            refine pw_iload_n dX8_joke_65 rfl rfl ?_
            refine pw_bipush (v := 6) dX8_joke_66 rfl ?_
            refine pw_icmp_ge (tgt := 98) dX8_joke_68 (by decide) (fun c_68 => ?_) (fun c_68 => ?_)
            · skip
              have hge := nI_geD (n := 6) (by decide) c_68
              refine pw_aload_n dX8_joke_98 rfl rfl ?_
              refine pw_dup dX8_joke_99 rfl ?_
              refine pw_getI dX8_joke_100 fa_X8_75 rfl ?_
              have hc1 : clrV n i (vu (vu (vu V 1 n kd) 2 n mo) 3 n 0) 0 1 = nI n := by rw [clrV_0]; exact h1
              refine pw_top (y := nI n) hc1 ?_
              refine pw_iconst (v := 1) dX8_joke_103 rfl ?_
              refine pw_iadd dX8_joke_104 ?_
              refine pw_top (y := nI (n + 1)) (nI_1 n) ?_
              refine pw_putI dX8_joke_105 fa_X8_75 rfl ?_
              refine pw_mem m_0_0 ?_
              refine pw_aload_n dX8_joke_108 rfl rfl ?_
              refine pw_getI dX8_joke_109 fa_X8_75 rfl ?_
              refine pw_top (y := nI (n + 1)) rfl ?_
              refine pw_iconst (v := 1) dX8_joke_112 rfl ?_
              refine pw_isub dX8_joke_113 ?_
              refine pw_top (y := nI n) (nI_pred n) ?_
              refine pw_iret dX8_joke_114 rfl ?_
              have ei : i = 6 := by omega
              subst ei
              exact ⟨by unfold aJx aJok; rw [hb_6, hb_16, Bool.and_self, if_pos rfl, if_pos hne], by unfold jokeV aJok; rw [hb_6, hb_16, Bool.and_self, if_pos rfl, if_pos hne]; rfl⟩
            · skip
              have hlt := nI_ltD (n := 6) (by omega) c_68
              have hc1 : clrV n i (vu (vu (vu V 1 n kd) 2 n mo) 3 n 0) 0 1 = nI n := by rw [clrV_0]; exact h1
              refine pw_aload_n dX8_joke_71 rfl rfl ?_
              refine pw_getR dX8_joke_72 fa_X8_19 rfl ?_
              refine pw_iconst (v := 5) dX8_joke_75 rfl ?_
              refine pw_iload_n dX8_joke_76 rfl rfl ?_
              refine pw_imul dX8_joke_77 ?_
              refine pw_iconst (v := 3) dX8_joke_78 rfl ?_
              refine pw_iadd dX8_joke_79 ?_
              refine pw_dup2 dX8_joke_80 rfl rfl ?_
              refine pw_iald (j := 5 * i + 3) dX8_joke_81 rfl (by show nI 5 * nI i + nI 3 = _; rw [pk_mul, nI_add]) (by omega) ?_
              refine pw_top (y := clrV n i (vu (vu (vu V 1 n kd) 2 n mo) 3 n 0) 7 i) (hl_at (by decide)) ?_
              refine pw_iconst (v := 1) dX8_joke_82 rfl ?_
              refine pw_aload_n dX8_joke_83 rfl rfl ?_
              refine pw_getI dX8_joke_84 fa_X8_75 rfl ?_
              refine pw_top (y := nI n) hc1 ?_
              refine pw_ishl dX8_joke_87 ?_
              refine pw_iconst (v := (-1)) dX8_joke_88 rfl ?_
              refine pw_ixor dX8_joke_89 ?_
              refine pw_iand dX8_joke_90 ?_
              refine pw_iast (j := 5 * i + 3) dX8_joke_91 rfl (by show nI 5 * nI i + nI 3 = _; rw [pk_mul, nI_add]) (by omega) ?_
              refine pw_mem (m_4 (i := 3) (by decide)) ?_
              refine pw_iinc (ls2 := [(3, _), (0, _)]) (v := nI (i + 1)) dX8_joke_92 rfl (inc1 i) (by decide) rfl ?_
              refine pw_goto (tgt := 65) dX8_joke_95 (by decide) ?_
              refine pw_sub [1, 0] rfl ?_
              exact ih_65 (i + 1) hlt (by omega)
        refine pw_sub [1, 0] rfl ?_
        exact L_65 7 0 (Nat.zero_le _) (by omega)
      · skip
        have hne : ¬ n < 5 := fun q => absurd ((nI_eq (b := 5) (by omega) (by decide)).mp c_27) (by omega)
        refine pw_bipush (v := (-4)) dX8_joke_30 rfl ?_
        refine pw_iret dX8_joke_32 rfl ?_
        exact ⟨by unfold aJx aJok; rw [hb_6, hb_16, Bool.and_self, if_pos rfl, if_neg hne], by unfold jokeV aJok; rw [hb_6, hb_16, Bool.and_self, if_pos rfl, if_neg hne]⟩
    · skip
      have hb_16 := b2_0 c_16
      refine pw_bipush (v := (-2)) dX8_joke_19 rfl ?_
      refine pw_iret dX8_joke_21 rfl ?_
      exact ⟨by unfold aJx aJok; rw [hb_6, hb_16]; rfl, by unfold jokeV aJok; rw [hb_6, hb_16]; rfl⟩

set_option maxHeartbeats 4000000 in
set_option maxRecDepth 100000 in
theorem T_X8_hearer {l : Launch} {μ : PM} {V : VW} {nm sk st : Nat → Int32} {sn : Int32} {n : Nat} {fu fr : Int32} (h5 : V 0 5 = nI n) (hn6 : n ≤ 6) : CT l SM yX8_hearer cX8_hearer 3 (some .int) 2 [.ref 0, .int fu, .int fr] (mm μ V nm sk st sn) (QI fun x m => x = heX V n fu fr ∧ m = mm μ (heV V n fu fr) nm sk st sn) := by
  refine CT.of rfl (Nat.le_of_ble_eq_true rfl) ?_
  show PW l SM RX8 cX8_hearer 3 (some .int) 2 _ 0 [(0, .ref 0), (1, .int fu), (2, .int fr)] [] (mm μ V nm sk st sn)
  refine pw_iload_n dX8_hearer_0 rfl rfl ?_
  refine pw_iconst (v := 0) dX8_hearer_1 rfl ?_
  refine pw_bipush (v := 9) dX8_hearer_2 rfl ?_
  refine pw_cSi dX8_hearer_4 ms_X8_78 T_X8_in rfl rfl (Nat.le_of_ble_eq_true rfl) (by decide) (fun x_4 m_4 h_4 => ?_)
  obtain ⟨rfl, rfl⟩ := h_4
  refine pw_if_eq (tgt := 20) dX8_hearer_7 (by decide) (fun c_7 => ?_) (fun c_7 => ?_)
  · skip
    have hb_7 := b2_0 c_7
    refine pw_bipush (v := (-2)) dX8_hearer_20 rfl ?_
    refine pw_iret dX8_hearer_22 rfl ?_
    exact ⟨by unfold heX; rw [hb_7]; rfl, by unfold heV; rw [hb_7]; rfl⟩
  · skip
    have hb_7 := b2_n c_7
    refine pw_iload_n dX8_hearer_10 rfl rfl ?_
    refine pw_iconst (v := 1) dX8_hearer_11 rfl ?_
    refine pw_bipush (v := 9) dX8_hearer_12 rfl ?_
    refine pw_cSi dX8_hearer_14 ms_X8_78 T_X8_in rfl rfl (Nat.le_of_ble_eq_true rfl) (by decide) (fun x_14 m_14 h_14 => ?_)
    obtain ⟨rfl, rfl⟩ := h_14
    refine pw_if_ne (tgt := 23) dX8_hearer_17 (by decide) (fun c_17 => ?_) (fun c_17 => ?_)
    · skip
      have hb_17 := b2_n c_17
      refine pw_aload_n dX8_hearer_23 rfl rfl ?_
      refine pw_getI dX8_hearer_24 fa_X8_82 rfl ?_
      refine pw_top (y := nI n) h5 ?_
      refine pw_bipush (v := 6) dX8_hearer_27 rfl ?_
      refine pw_icmp_ne (tgt := 35) dX8_hearer_29 (by decide) (fun c_29 => ?_) (fun c_29 => ?_)
      · skip
        have hne : n < 6 := by
          rcases Nat.lt_or_ge n 6 with q | q
          · exact q
          · exact absurd (show nI n = 6 by rw [show n = 6 by omega]; rfl) c_29
        refine pw_aload_n dX8_hearer_35 rfl rfl ?_
        refine pw_getR dX8_hearer_36 fa_X8_19 rfl ?_
        refine pw_iconst (v := 5) dX8_hearer_39 rfl ?_
        refine pw_aload_n dX8_hearer_40 rfl rfl ?_
        refine pw_getI dX8_hearer_41 fa_X8_82 rfl ?_
        refine pw_top (y := nI n) h5 ?_
        refine pw_imul dX8_hearer_44 ?_
        refine pw_iload_n dX8_hearer_45 rfl rfl ?_
        refine pw_iast (j := 5 * n + 0) dX8_hearer_46 rfl (by show nI 5 * nI n = _; rw [pk_mul]; rfl) (by omega) ?_
        refine pw_mem (m_4 (i := 0) (by decide)) ?_
        refine pw_aload_n dX8_hearer_47 rfl rfl ?_
        refine pw_getR dX8_hearer_48 fa_X8_19 rfl ?_
        refine pw_iconst (v := 5) dX8_hearer_51 rfl ?_
        refine pw_aload_n dX8_hearer_52 rfl rfl ?_
        refine pw_getI dX8_hearer_53 fa_X8_82 rfl ?_
        refine pw_top (y := nI n) h5 ?_
        refine pw_imul dX8_hearer_56 ?_
        refine pw_iconst (v := 1) dX8_hearer_57 rfl ?_
        refine pw_iadd dX8_hearer_58 ?_
        refine pw_iconst (v := 0) dX8_hearer_59 rfl ?_
        refine pw_iast (j := 5 * n + 1) dX8_hearer_60 rfl (by show nI 5 * nI n + nI 1 = _; rw [pk_mul, nI_add]) (by omega) ?_
        refine pw_mem (m_4 (i := 1) (by decide)) ?_
        refine pw_aload_n dX8_hearer_61 rfl rfl ?_
        refine pw_getR dX8_hearer_62 fa_X8_19 rfl ?_
        refine pw_iconst (v := 5) dX8_hearer_65 rfl ?_
        refine pw_aload_n dX8_hearer_66 rfl rfl ?_
        refine pw_getI dX8_hearer_67 fa_X8_82 rfl ?_
        refine pw_top (y := nI n) h5 ?_
        refine pw_imul dX8_hearer_70 ?_
        refine pw_iconst (v := 2) dX8_hearer_71 rfl ?_
        refine pw_iadd dX8_hearer_72 ?_
        refine pw_iconst (v := 0) dX8_hearer_73 rfl ?_
        refine pw_iast (j := 5 * n + 2) dX8_hearer_74 rfl (by show nI 5 * nI n + nI 2 = _; rw [pk_mul, nI_add]) (by omega) ?_
        refine pw_mem (m_4 (i := 2) (by decide)) ?_
        refine pw_aload_n dX8_hearer_75 rfl rfl ?_
        refine pw_getR dX8_hearer_76 fa_X8_19 rfl ?_
        refine pw_iconst (v := 5) dX8_hearer_79 rfl ?_
        refine pw_aload_n dX8_hearer_80 rfl rfl ?_
        refine pw_getI dX8_hearer_81 fa_X8_82 rfl ?_
        refine pw_top (y := nI n) h5 ?_
        refine pw_imul dX8_hearer_84 ?_
        refine pw_iconst (v := 3) dX8_hearer_85 rfl ?_
        refine pw_iadd dX8_hearer_86 ?_
        refine pw_iconst (v := 0) dX8_hearer_87 rfl ?_
        refine pw_iast (j := 5 * n + 3) dX8_hearer_88 rfl (by show nI 5 * nI n + nI 3 = _; rw [pk_mul, nI_add]) (by omega) ?_
        refine pw_mem (m_4 (i := 3) (by decide)) ?_
        refine pw_aload_n dX8_hearer_89 rfl rfl ?_
        refine pw_getR dX8_hearer_90 fa_X8_19 rfl ?_
        refine pw_iconst (v := 5) dX8_hearer_93 rfl ?_
        refine pw_aload_n dX8_hearer_94 rfl rfl ?_
        refine pw_getI dX8_hearer_95 fa_X8_82 rfl ?_
        refine pw_top (y := nI n) h5 ?_
        refine pw_imul dX8_hearer_98 ?_
        refine pw_iconst (v := 4) dX8_hearer_99 rfl ?_
        refine pw_iadd dX8_hearer_100 ?_
        refine pw_iload_n dX8_hearer_101 rfl rfl ?_
        refine pw_iast (j := 5 * n + 4) dX8_hearer_102 rfl (by show nI 5 * nI n + nI 4 = _; rw [pk_mul, nI_add]) (by omega) ?_
        refine pw_mem (m_4 (i := 4) (by decide)) ?_
        refine pw_aload_n dX8_hearer_103 rfl rfl ?_
        refine pw_dup dX8_hearer_104 rfl ?_
        refine pw_getI dX8_hearer_105 fa_X8_82 rfl ?_
        refine pw_top (y := nI n) h5 ?_
        refine pw_iconst (v := 1) dX8_hearer_108 rfl ?_
        refine pw_iadd dX8_hearer_109 ?_
        refine pw_top (y := nI (n + 1)) (nI_1 n) ?_
        refine pw_putI dX8_hearer_110 fa_X8_82 rfl ?_
        refine pw_mem m_0_4 ?_
        refine pw_aload_n dX8_hearer_113 rfl rfl ?_
        refine pw_getI dX8_hearer_114 fa_X8_82 rfl ?_
        refine pw_top (y := nI (n + 1)) rfl ?_
        refine pw_iconst (v := 1) dX8_hearer_117 rfl ?_
        refine pw_isub dX8_hearer_118 ?_
        refine pw_top (y := nI n) (nI_pred n) ?_
        refine pw_iret dX8_hearer_119 rfl ?_
        exact ⟨by unfold heX; rw [hb_7, hb_17, Bool.and_self, if_pos rfl, if_pos hne], by unfold heV; rw [hb_7, hb_17, Bool.and_self, if_pos rfl, if_pos hne]; rfl⟩
      · skip
        have hne : ¬ n < 6 := fun q => absurd ((nI_eq (b := 6) (by omega) (by decide)).mp c_29) (by omega)
        refine pw_bipush (v := (-4)) dX8_hearer_32 rfl ?_
        refine pw_iret dX8_hearer_34 rfl ?_
        exact ⟨by unfold heX; rw [hb_7, hb_17, Bool.and_self, if_pos rfl, if_neg hne], by unfold heV; rw [hb_7, hb_17, Bool.and_self, if_pos rfl, if_neg hne]⟩
    · skip
      have hb_17 := b2_0 c_17
      refine pw_bipush (v := (-2)) dX8_hearer_20 rfl ?_
      refine pw_iret dX8_hearer_22 rfl ?_
      exact ⟨by unfold heX; rw [hb_7, hb_17]; rfl, by unfold heV; rw [hb_7, hb_17]; rfl⟩

set_option maxHeartbeats 4000000 in
set_option maxRecDepth 100000 in
theorem T_X8_isSo {l : Launch} {μ : PM} {V : VW} {nm sk st : Nat → Int32} {sn : Int32} {h : Nat} {what v : Int32} (hh : h < 6) : CT l SM yX8_isSo cX8_isSo 4 (some .boolean) 3 [.ref 0, .int (nI h), .int what, .int v] (mm μ V nm sk st sn) (QI fun x m => x = b2 (mayF V h what v) ∧ m = mm μ V nm sk st sn) := by
  refine CT.of rfl (Nat.le_of_ble_eq_true rfl) ?_
  show PW l SM RX8 cX8_isSo 4 (some .boolean) 3 _ 0 [(0, .ref 0), (1, .int (nI h)), (2, .int what), (3, .int v)] [] (mm μ V nm sk st sn)
  refine pw_iload_n dX8_isSo_0 rfl rfl ?_
  by_cases q_1_0 : what = 0
  · skip
    refine pw_tsIn (v := 0) (tgt := 32) dX8_isSo_1 q_1_0 (by decide) (by decide) rfl (by decide) ?_
    refine pw_iload_n dX8_isSo_32 rfl rfl ?_
    refine pw_iconst (v := 0) dX8_isSo_33 rfl ?_
    refine pw_bipush (v := 9) dX8_isSo_34 rfl ?_
    refine pw_cSi dX8_isSo_36 ms_X8_78 T_X8_in rfl rfl (Nat.le_of_ble_eq_true rfl) (by decide) (fun x_36 m_36 h_36 => ?_)
    obtain ⟨rfl, rfl⟩ := h_36
    refine pw_zret dX8_isSo_39 rfl (b2_01 _) ?_
    exact ⟨by unfold mayF; simp_all [b2], rfl⟩
  by_cases q_1_1 : what = 1
  · skip
    refine pw_tsIn (v := 1) (tgt := 40) dX8_isSo_1 q_1_1 (by decide) (by decide) rfl (by decide) ?_
    refine pw_iload_n dX8_isSo_40 rfl rfl ?_
    refine pw_iconst (v := 0) dX8_isSo_41 rfl ?_
    refine pw_sipush (v := 9999) dX8_isSo_42 rfl ?_
    refine pw_cSi dX8_isSo_45 ms_X8_78 T_X8_in rfl rfl (Nat.le_of_ble_eq_true rfl) (by decide) (fun x_45 m_45 h_45 => ?_)
    obtain ⟨rfl, rfl⟩ := h_45
    refine pw_zret dX8_isSo_48 rfl (b2_01 _) ?_
    exact ⟨by unfold mayF; simp_all [b2], rfl⟩
  by_cases q_1_2 : what = 2
  · skip
    refine pw_tsIn (v := 2) (tgt := 49) dX8_isSo_1 q_1_2 (by decide) (by decide) rfl (by decide) ?_
    refine pw_aload_n dX8_isSo_49 rfl rfl ?_
    refine pw_iload_n dX8_isSo_50 rfl rfl ?_
    refine pw_cVi dX8_isSo_51 mv_X8_180 ckModel T_X8_areSome rfl rfl (Nat.le_of_ble_eq_true rfl) (by decide) (fun x_51 m_51 h_51 => ?_)
    obtain ⟨rfl, rfl⟩ := h_51
    refine pw_if_eq (tgt := 69) dX8_isSo_54 (by decide) (fun c_54 => ?_) (fun c_54 => ?_)
    · skip
      have hb_54 := b2_0 c_54
      refine pw_iconst (v := 0) dX8_isSo_69 rfl ?_
      refine pw_zret dX8_isSo_70 rfl (by first | exact b2_01 _ | decide) ?_
      refine ⟨?_, rfl⟩
      unfold mayF
      rw [if_neg (by rw [q_1_2]; decide), if_neg (by rw [q_1_2]; decide), if_pos q_1_2, show inF v 0 (((1 : Int32) <<< (V 0 5 &&& 31)) - 1) = false from hb_54]
      rfl
    · skip
      have hb_54 := b2_n c_54
      refine pw_iload_n dX8_isSo_57 rfl rfl ?_
      refine pw_iload_n dX8_isSo_58 rfl rfl ?_
      refine pw_ishr dX8_isSo_59 ?_
      refine pw_iconst (v := 1) dX8_isSo_60 rfl ?_
      refine pw_iand dX8_isSo_61 ?_
      refine pw_if_ne (tgt := 69) dX8_isSo_62 (by decide) (fun c_62 => ?_) (fun c_62 => ?_)
      · skip
        have hbt := bit_n c_62
        refine pw_iconst (v := 0) dX8_isSo_69 rfl ?_
        refine pw_zret dX8_isSo_70 rfl (by first | exact b2_01 _ | decide) ?_
        refine ⟨?_, rfl⟩
        unfold mayF
        rw [if_neg (by rw [q_1_2]; decide), if_neg (by rw [q_1_2]; decide), if_pos q_1_2, show inF v 0 (((1 : Int32) <<< (V 0 5 &&& 31)) - 1) = true from hb_54, hbt]
        rfl
      · skip
        have hbt := bit_0 c_62
        refine pw_iconst (v := 1) dX8_isSo_65 rfl ?_
        refine pw_goto (tgt := 70) dX8_isSo_66 (by decide) ?_
        refine pw_zret dX8_isSo_70 rfl (by first | exact b2_01 _ | decide) ?_
        refine ⟨?_, rfl⟩
        unfold mayF
        rw [if_neg (by rw [q_1_2]; decide), if_neg (by rw [q_1_2]; decide), if_pos q_1_2, show inF v 0 (((1 : Int32) <<< (V 0 5 &&& 31)) - 1) = true from hb_54, hbt]
        rfl
  by_cases q_1_3 : what = 3
  · skip
    refine pw_tsIn (v := 3) (tgt := 71) dX8_isSo_1 q_1_3 (by decide) (by decide) rfl (by decide) ?_
    refine pw_iload_n dX8_isSo_71 rfl rfl ?_
    refine pw_iconst (v := 0) dX8_isSo_72 rfl ?_
    refine pw_iconst (v := 1) dX8_isSo_73 rfl ?_
    refine pw_aload_n dX8_isSo_74 rfl rfl ?_
    refine pw_getI dX8_isSo_75 fa_X8_75 rfl ?_
    refine pw_ishl dX8_isSo_78 ?_
    refine pw_iconst (v := 1) dX8_isSo_79 rfl ?_
    refine pw_isub dX8_isSo_80 ?_
    refine pw_cSi dX8_isSo_81 ms_X8_78 T_X8_in rfl rfl (Nat.le_of_ble_eq_true rfl) (by decide) (fun x_81 m_81 h_81 => ?_)
    obtain ⟨rfl, rfl⟩ := h_81
    refine pw_zret dX8_isSo_84 rfl (b2_01 _) ?_
    refine ⟨?_, rfl⟩
    unfold mayF
    rw [if_neg (by rw [q_1_3]; decide), if_neg (by rw [q_1_3]; decide), if_neg (by rw [q_1_3]; decide), if_pos q_1_3]
    rfl
  have zq_1_0 := lv_neT q_1_0 (a := 0) rfl
  have zq_1_1 := lv_neT q_1_1 (a := 1) rfl
  have zq_1_2 := lv_neT q_1_2 (a := 2) rfl
  have zq_1_3 := lv_neT q_1_3 (a := 3) rfl
  refine pw_tsOut (tgt := 85) dX8_isSo_1 (by omega) (by decide) ?_
  refine pw_iload_n dX8_isSo_85 rfl rfl ?_
  refine pw_iconst (v := 4) dX8_isSo_86 rfl ?_
  refine pw_icmp_ne (tgt := 104) dX8_isSo_87 (by decide) (fun c_87 => ?_) (fun c_87 => ?_)
  · skip
    refine pw_iconst (v := 0) dX8_isSo_104 rfl ?_
    refine pw_zret dX8_isSo_105 rfl (by decide) ?_
    exact ⟨by unfold mayF; simp_all [b2], rfl⟩
  · skip
    refine pw_iload_n dX8_isSo_90 rfl rfl ?_
    refine pw_iconst (v := 1) dX8_isSo_91 rfl ?_
    refine pw_bipush (v := 9) dX8_isSo_92 rfl ?_
    refine pw_cSi dX8_isSo_94 ms_X8_78 T_X8_in rfl rfl (Nat.le_of_ble_eq_true rfl) (by decide) (fun x_94 m_94 h_94 => ?_)
    obtain ⟨rfl, rfl⟩ := h_94
    refine pw_if_eq (tgt := 104) dX8_isSo_97 (by decide) (fun c_97 => ?_) (fun c_97 => ?_)
    · skip
      have hb_97 := b2_0 c_97
      refine pw_iconst (v := 0) dX8_isSo_104 rfl ?_
      refine pw_zret dX8_isSo_105 rfl (by decide) ?_
      exact ⟨by unfold mayF; simp_all [b2], rfl⟩
    · skip
      have hb_97 := b2_n c_97
      refine pw_iconst (v := 1) dX8_isSo_100 rfl ?_
      refine pw_goto (tgt := 105) dX8_isSo_101 (by decide) ?_
      refine pw_zret dX8_isSo_105 rfl (by decide) ?_
      exact ⟨by unfold mayF; simp_all [b2], rfl⟩

set_option maxHeartbeats 4000000 in
set_option maxRecDepth 100000 in
theorem T_X8_set {l : Launch} {μ : PM} {V : VW} {nm sk st : Nat → Int32} {sn : Int32} {nh : Nat} {h what v : Int32} (h5 : V 0 5 = nI nh) (hh6 : nh ≤ 6) : CT l SM yX8_set cX8_set 5 (some .int) 4 [.ref 0, .int h, .int what, .int v] (mm μ V nm sk st sn) (QI fun x m => x = setX V h what v ∧ m = mm μ (setV V h what v) nm sk st sn) := by
  refine CT.of rfl (Nat.le_of_ble_eq_true rfl) ?_
  show PW l SM RX8 cX8_set 5 (some .int) 4 _ 0 [(0, .ref 0), (1, .int h), (2, .int what), (3, .int v)] [] (mm μ V nm sk st sn)
  refine pw_aload_n dX8_set_0 rfl rfl ?_
  refine pw_iload_n dX8_set_1 rfl rfl ?_
  refine pw_cVi dX8_set_2 mv_X8_167 ckModel T_X8_isHearer rfl rfl (Nat.le_of_ble_eq_true rfl) (by decide) (fun x_2 m_2 h_2 => ?_)
  obtain ⟨rfl, rfl⟩ := h_2
  refine pw_if_ne (tgt := 11) dX8_set_5 (by decide) (fun c_5 => ?_) (fun c_5 => ?_)
  · skip
    have hb_5 := b2_n c_5
    refine pw_aload_n dX8_set_11 rfl rfl ?_
    refine pw_iload_n dX8_set_12 rfl rfl ?_
    refine pw_iload_n dX8_set_13 rfl rfl ?_
    refine pw_iload_n dX8_set_14 rfl rfl ?_
    obtain ⟨h, hlh, hsh, rfl⟩ := hr_of h5 hh6 hb_5
    refine pw_cVi dX8_set_15 mv_X8_183 ckModel (T_X8_isSo (h := h) hsh) rfl rfl (Nat.le_of_ble_eq_true rfl) (by decide) (fun x_15 m_15 h_15 => ?_)
    obtain ⟨rfl, rfl⟩ := h_15
    refine pw_if_ne (tgt := 24) dX8_set_18 (by decide) (fun c_18 => ?_) (fun c_18 => ?_)
    · skip
      have hb_18 := b2_n c_18
      obtain ⟨i, hi5, rfl⟩ := may_5 hb_18
      refine pw_aload_n dX8_set_24 rfl rfl ?_
      refine pw_getR dX8_set_25 fa_X8_19 rfl ?_
      refine pw_iconst (v := 5) dX8_set_28 rfl ?_
      refine pw_iload_n dX8_set_29 rfl rfl ?_
      refine pw_imul dX8_set_30 ?_
      refine pw_iload_n dX8_set_31 rfl rfl ?_
      refine pw_iadd dX8_set_32 ?_
      refine pw_iald (j := 5 * h + i) dX8_set_33 rfl (by show nI 5 * nI h + nI i = _; rw [pk_mul, nI_add]) (by omega) ?_
      refine pw_top (y := trF V h (nI i)) ((hl_at hi5).trans (tr_i i hi5).symm) ?_
      refine pw_istore (ls2 := [(4, _), (0, _), (1, _), (2, _), (3, _)]) dX8_set_34 (by decide) rfl ?_
      refine pw_aload_n dX8_set_36 rfl rfl ?_
      refine pw_getR dX8_set_37 fa_X8_19 rfl ?_
      refine pw_iconst (v := 5) dX8_set_40 rfl ?_
      refine pw_iload_n dX8_set_41 rfl rfl ?_
      refine pw_imul dX8_set_42 ?_
      refine pw_iload_n dX8_set_43 rfl rfl ?_
      refine pw_iadd dX8_set_44 ?_
      refine pw_iload_n dX8_set_45 rfl rfl ?_
      refine pw_iast (j := 5 * h + i) dX8_set_46 rfl (by show nI 5 * nI h + nI i = _; rw [pk_mul, nI_add]) (by omega) ?_
      refine pw_mem (m_4 hi5) ?_
      rw [← be_i i hi5]
      refine pw_iload dX8_set_47 rfl ?_
      refine pw_iret dX8_set_49 rfl ?_
      exact ⟨by unfold setX; rw [hb_5, if_pos rfl, cl_nI (by omega), hb_18]; rfl, by unfold setV; rw [hb_5, if_pos rfl, cl_nI (by omega), hb_18]; rfl⟩
    · skip
      have hb_18 := b2_0 c_18
      refine pw_bipush (v := (-7)) dX8_set_21 rfl ?_
      refine pw_iret dX8_set_23 rfl ?_
      exact ⟨by unfold setX; rw [hb_5, if_pos rfl, cl_nI (by omega), hb_18]; rfl, by unfold setV; rw [hb_5, if_pos rfl, cl_nI (by omega), hb_18]; rfl⟩
  · skip
    have hb_5 := b2_0 c_5
    refine pw_bipush (v := (-5)) dX8_set_8 rfl ?_
    refine pw_iret dX8_set_10 rfl ?_
    exact ⟨by unfold setX; rw [hb_5]; rfl, by unfold setV; rw [hb_5]; rfl⟩

set_option maxHeartbeats 4000000 in
set_option maxRecDepth 100000 in
theorem T_X8_of {l : Launch} {μ : PM} {V : VW} {nm sk st : Nat → Int32} {sn : Int32} {nh : Nat} {h what : Int32} (h5 : V 0 5 = nI nh) (hh6 : nh ≤ 6) : CT l SM yX8_of cX8_of 3 (some .int) 3 [.ref 0, .int h, .int what] (mm μ V nm sk st sn) (QI fun x m => x = ofF V h what ∧ m = mm μ V nm sk st sn) := by
  refine CT.of rfl (Nat.le_of_ble_eq_true rfl) ?_
  show PW l SM RX8 cX8_of 3 (some .int) 3 _ 0 [(0, .ref 0), (1, .int h), (2, .int what)] [] (mm μ V nm sk st sn)
  refine pw_aload_n dX8_of_0 rfl rfl ?_
  refine pw_iload_n dX8_of_1 rfl rfl ?_
  refine pw_cVi dX8_of_2 mv_X8_167 ckModel T_X8_isHearer rfl rfl (Nat.le_of_ble_eq_true rfl) (by decide) (fun x_2 m_2 h_2 => ?_)
  obtain ⟨rfl, rfl⟩ := h_2
  refine pw_if_ne (tgt := 11) dX8_of_5 (by decide) (fun c_5 => ?_) (fun c_5 => ?_)
  · skip
    have hb_5 := b2_n c_5
    refine pw_iload_n dX8_of_11 rfl rfl ?_
    refine pw_iconst (v := 0) dX8_of_12 rfl ?_
    refine pw_iconst (v := 4) dX8_of_13 rfl ?_
    refine pw_cSi dX8_of_14 ms_X8_78 T_X8_in rfl rfl (Nat.le_of_ble_eq_true rfl) (by decide) (fun x_14 m_14 h_14 => ?_)
    obtain ⟨rfl, rfl⟩ := h_14
    refine pw_if_eq (tgt := 33) dX8_of_17 (by decide) (fun c_17 => ?_) (fun c_17 => ?_)
    · skip
      have hb_17 := b2_0 c_17
      refine pw_bipush (v := (-7)) dX8_of_33 rfl ?_
      refine pw_iret dX8_of_35 rfl ?_
      exact ⟨by unfold ofF; rw [hb_5, hb_17]; rfl, rfl⟩
    · skip
      have hb_17 := b2_n c_17
      obtain ⟨h, hlh, hsh, rfl⟩ := hr_of h5 hh6 hb_5
      obtain ⟨i, hi4, rfl⟩ := in_trueL (n := 4) hb_17 (by decide)
      have hi5 : i < 5 := by omega
      refine pw_aload_n dX8_of_20 rfl rfl ?_
      refine pw_getR dX8_of_21 fa_X8_19 rfl ?_
      refine pw_iconst (v := 5) dX8_of_24 rfl ?_
      refine pw_iload_n dX8_of_25 rfl rfl ?_
      refine pw_imul dX8_of_26 ?_
      refine pw_iload_n dX8_of_27 rfl rfl ?_
      refine pw_iadd dX8_of_28 ?_
      refine pw_iald (j := 5 * h + i) dX8_of_29 rfl (by show nI 5 * nI h + nI i = _; rw [pk_mul, nI_add]) (by omega) ?_
      refine pw_top (y := trF V h (nI i)) ((hl_at hi5).trans (tr_i i hi5).symm) ?_
      refine pw_goto (tgt := 35) dX8_of_30 (by decide) ?_
      refine pw_iret dX8_of_35 rfl ?_
      exact ⟨by unfold ofF; rw [hb_5, if_pos rfl, cl_nI (by omega), show inF (nI i) 0 4 = true from hb_17]; rfl, rfl⟩
  · skip
    have hb_5 := b2_0 c_5
    refine pw_bipush (v := (-5)) dX8_of_8 rfl ?_
    refine pw_iret dX8_of_10 rfl ?_
    exact ⟨by unfold ofF; rw [hb_5]; rfl, rfl⟩

set_option maxHeartbeats 4000000 in
set_option maxRecDepth 100000 in
theorem T_X8_pay {l : Launch} {μ : PM} {V : VW} {nm sk st : Nat → Int32} {sn : Int32} {nh : Nat} {h o v : Int32} (h5 : V 0 5 = nI nh) (hh6 : nh ≤ 6) : CT l SM yX8_pay cX8_pay 4 (some .int) 3 [.ref 0, .int h, .int o, .int v] (mm μ V nm sk st sn) (QI fun x m => x = payX V h o v ∧ m = mm μ (payS V h o v) nm sk st sn) := by
  refine CT.of rfl (Nat.le_of_ble_eq_true rfl) ?_
  show PW l SM RX8 cX8_pay 4 (some .int) 3 _ 0 [(0, .ref 0), (1, .int h), (2, .int o), (3, .int v)] [] (mm μ V nm sk st sn)
  refine pw_aload_n dX8_pay_0 rfl rfl ?_
  refine pw_iload_n dX8_pay_1 rfl rfl ?_
  refine pw_cVi dX8_pay_2 mv_X8_167 ckModel T_X8_isHearer rfl rfl (Nat.le_of_ble_eq_true rfl) (by decide) (fun x_2 m_2 h_2 => ?_)
  obtain ⟨rfl, rfl⟩ := h_2
  refine pw_if_eq (tgt := 21) dX8_pay_5 (by decide) (fun c_5 => ?_) (fun c_5 => ?_)
  · skip
    have hb_5 := b2_0 c_5
    refine pw_bipush (v := (-5)) dX8_pay_21 rfl ?_
    refine pw_iret dX8_pay_23 rfl ?_
    exact ⟨by unfold payX payOK; simp only [hb_5, Bool.and_true, Bool.and_false, Bool.true_and, Bool.false_and, Bool.not_true, Bool.not_false, decide_true, decide_false, Bool.false_eq_true, if_false, if_true], by unfold payS payOK; simp only [hb_5, Bool.and_true, Bool.and_false, Bool.true_and, Bool.false_and, Bool.not_true, Bool.not_false, decide_true, decide_false, Bool.false_eq_true, if_false, if_true]⟩
  · skip
    have hb_5 := b2_n c_5
    refine pw_aload_n dX8_pay_8 rfl rfl ?_
    refine pw_iload_n dX8_pay_9 rfl rfl ?_
    refine pw_cVi dX8_pay_10 mv_X8_167 ckModel T_X8_isHearer rfl rfl (Nat.le_of_ble_eq_true rfl) (by decide) (fun x_10 m_10 h_10 => ?_)
    obtain ⟨rfl, rfl⟩ := h_10
    refine pw_if_eq (tgt := 21) dX8_pay_13 (by decide) (fun c_13 => ?_) (fun c_13 => ?_)
    · skip
      have hb_13 := b2_0 c_13
      refine pw_bipush (v := (-5)) dX8_pay_21 rfl ?_
      refine pw_iret dX8_pay_23 rfl ?_
      exact ⟨by unfold payX payOK; simp only [hb_5, hb_13, Bool.and_true, Bool.and_false, Bool.true_and, Bool.false_and, Bool.not_true, Bool.not_false, decide_true, decide_false, Bool.false_eq_true, if_false, if_true], by unfold payS payOK; simp only [hb_5, hb_13, Bool.and_true, Bool.and_false, Bool.true_and, Bool.false_and, Bool.not_true, Bool.not_false, decide_true, decide_false, Bool.false_eq_true, if_false, if_true]⟩
    · skip
      have hb_13 := b2_n c_13
      refine pw_iload_n dX8_pay_16 rfl rfl ?_
      refine pw_iload_n dX8_pay_17 rfl rfl ?_
      refine pw_icmp_ne (tgt := 24) dX8_pay_18 (by decide) (fun c_18 => ?_) (fun c_18 => ?_)
      · skip
        refine pw_iload_n dX8_pay_24 rfl rfl ?_
        refine pw_iconst (v := 0) dX8_pay_25 rfl ?_
        refine pw_sipush (v := 9999) dX8_pay_26 rfl ?_
        refine pw_cSi dX8_pay_29 ms_X8_78 T_X8_in rfl rfl (Nat.le_of_ble_eq_true rfl) (by decide) (fun x_29 m_29 h_29 => ?_)
        obtain ⟨rfl, rfl⟩ := h_29
        refine pw_if_ne (tgt := 38) dX8_pay_32 (by decide) (fun c_32 => ?_) (fun c_32 => ?_)
        · skip
          have hb_32 := b2_n c_32
          obtain ⟨h, hlh, hsh, rfl⟩ := hr_of h5 hh6 hb_5
          obtain ⟨o, hlo, hso, rfl⟩ := hr_of h5 hh6 hb_13
          refine pw_aload_n dX8_pay_38 rfl rfl ?_
          refine pw_getR dX8_pay_39 fa_X8_19 rfl ?_
          refine pw_iconst (v := 5) dX8_pay_42 rfl ?_
          refine pw_iload_n dX8_pay_43 rfl rfl ?_
          refine pw_imul dX8_pay_44 ?_
          refine pw_iconst (v := 1) dX8_pay_45 rfl ?_
          refine pw_iadd dX8_pay_46 ?_
          refine pw_iald (j := 5 * h + 1) dX8_pay_47 rfl (by show nI 5 * nI h + nI 1 = _; rw [pk_mul, nI_add]) (by omega) ?_
          refine pw_top (y := V 5 h) (hl_at (by decide)) ?_
          refine pw_iload_n dX8_pay_48 rfl rfl ?_
          refine pw_icmp_ge (tgt := 55) dX8_pay_49 (by decide) (fun c_49 => ?_) (fun c_49 => ?_)
          · skip
            refine pw_aload_n dX8_pay_55 rfl rfl ?_
            refine pw_getR dX8_pay_56 fa_X8_19 rfl ?_
            refine pw_iconst (v := 5) dX8_pay_59 rfl ?_
            refine pw_iload_n dX8_pay_60 rfl rfl ?_
            refine pw_imul dX8_pay_61 ?_
            refine pw_iconst (v := 1) dX8_pay_62 rfl ?_
            refine pw_iadd dX8_pay_63 ?_
            refine pw_iald (j := 5 * o + 1) dX8_pay_64 rfl (by show nI 5 * nI o + nI 1 = _; rw [pk_mul, nI_add]) (by omega) ?_
            refine pw_top (y := V 5 o) (hl_at (by decide)) ?_
            refine pw_iload_n dX8_pay_65 rfl rfl ?_
            refine pw_iadd dX8_pay_66 ?_
            refine pw_sipush (v := 9999) dX8_pay_67 rfl ?_
            refine pw_icmp_le (tgt := 76) dX8_pay_70 (by decide) (fun c_70 => ?_) (fun c_70 => ?_)
            · skip
              refine pw_aload_n dX8_pay_76 rfl rfl ?_
              refine pw_getR dX8_pay_77 fa_X8_19 rfl ?_
              refine pw_iconst (v := 5) dX8_pay_80 rfl ?_
              refine pw_iload_n dX8_pay_81 rfl rfl ?_
              refine pw_imul dX8_pay_82 ?_
              refine pw_iconst (v := 1) dX8_pay_83 rfl ?_
              refine pw_iadd dX8_pay_84 ?_
              refine pw_dup2 dX8_pay_85 rfl rfl ?_
              refine pw_iald (j := 5 * h + 1) dX8_pay_86 rfl (by show nI 5 * nI h + nI 1 = _; rw [pk_mul, nI_add]) (by omega) ?_
              refine pw_top (y := V 5 h) (hl_at (by decide)) ?_
              refine pw_iload_n dX8_pay_87 rfl rfl ?_
              refine pw_isub dX8_pay_88 ?_
              refine pw_iast (j := 5 * h + 1) dX8_pay_89 rfl (by show nI 5 * nI h + nI 1 = _; rw [pk_mul, nI_add]) (by omega) ?_
              refine pw_mem (m_4 (i := 1) (by decide)) ?_
              have hne : o ≠ h := fun e => c_18 (by rw [e])
              refine pw_aload_n dX8_pay_90 rfl rfl ?_
              refine pw_getR dX8_pay_91 fa_X8_19 rfl ?_
              refine pw_iconst (v := 5) dX8_pay_94 rfl ?_
              refine pw_iload_n dX8_pay_95 rfl rfl ?_
              refine pw_imul dX8_pay_96 ?_
              refine pw_iconst (v := 1) dX8_pay_97 rfl ?_
              refine pw_iadd dX8_pay_98 ?_
              refine pw_dup2 dX8_pay_99 rfl rfl ?_
              refine pw_iald (j := 5 * o + 1) dX8_pay_100 rfl (by show nI 5 * nI o + nI 1 = _; rw [pk_mul, nI_add]) (by omega) ?_
              refine pw_top (y := V 5 o) (by show hl (vu V 5 h _) (5 * o + 1) = _; rw [hl_at (by decide)]; exact upd_o _ _ hne) ?_
              refine pw_iload_n dX8_pay_101 rfl rfl ?_
              refine pw_iadd dX8_pay_102 ?_
              refine pw_iast (j := 5 * o + 1) dX8_pay_103 rfl (by show nI 5 * nI o + nI 1 = _; rw [pk_mul, nI_add]) (by omega) ?_
              refine pw_mem (m_4 (i := 1) (by decide)) ?_
              refine pw_aload_n dX8_pay_104 rfl rfl ?_
              refine pw_getR dX8_pay_105 fa_X8_19 rfl ?_
              refine pw_iconst (v := 5) dX8_pay_108 rfl ?_
              refine pw_iload_n dX8_pay_109 rfl rfl ?_
              refine pw_imul dX8_pay_110 ?_
              refine pw_iconst (v := 1) dX8_pay_111 rfl ?_
              refine pw_iadd dX8_pay_112 ?_
              refine pw_iald (j := 5 * h + 1) dX8_pay_113 rfl (by show nI 5 * nI h + nI 1 = _; rw [pk_mul, nI_add]) (by omega) ?_
              refine pw_top (y := V 5 h - v) (by show hl (vu (vu V 5 h _) 5 o _) (5 * h + 1) = _; rw [hl_at (by decide)]; show upd (upd (V 5) h _) o _ h = _; rw [upd_o _ _ (Ne.symm hne), upd_s]) ?_
              refine pw_iret dX8_pay_114 rfl ?_
              exact ⟨by unfold payX payOK; simp only [hb_5, hb_13, c_18, hb_32, Int32.not_lt.mpr c_49, Int32.not_lt.mpr c_70, cl_nI (show h < 2 ^ 31 by omega), cl_nI (show o < 2 ^ 31 by omega), payV, Bool.and_true, Bool.and_false, Bool.true_and, Bool.false_and, Bool.not_true, Bool.not_false, decide_true, decide_false, Bool.false_eq_true, if_false, if_true], by unfold payS payOK; simp only [hb_5, hb_13, c_18, hb_32, Int32.not_lt.mpr c_49, Int32.not_lt.mpr c_70, cl_nI (show h < 2 ^ 31 by omega), cl_nI (show o < 2 ^ 31 by omega), payV, Bool.and_true, Bool.and_false, Bool.true_and, Bool.false_and, Bool.not_true, Bool.not_false, decide_true, decide_false, Bool.false_eq_true, if_false, if_true]⟩
            · skip
              refine pw_bipush (v := (-4)) dX8_pay_73 rfl ?_
              refine pw_iret dX8_pay_75 rfl ?_
              exact ⟨by unfold payX payOK; simp only [hb_5, hb_13, c_18, hb_32, Int32.not_lt.mpr c_49, Int32.not_le.mp c_70, cl_nI (show h < 2 ^ 31 by omega), cl_nI (show o < 2 ^ 31 by omega), Bool.and_true, Bool.and_false, Bool.true_and, Bool.false_and, Bool.not_true, Bool.not_false, decide_true, decide_false, Bool.false_eq_true, if_false, if_true], by unfold payS payOK; simp only [hb_5, hb_13, c_18, hb_32, Int32.not_lt.mpr c_49, Int32.not_le.mp c_70, cl_nI (show h < 2 ^ 31 by omega), cl_nI (show o < 2 ^ 31 by omega), Bool.and_true, Bool.and_false, Bool.true_and, Bool.false_and, Bool.not_true, Bool.not_false, decide_true, decide_false, Bool.false_eq_true, if_false, if_true]⟩
          · skip
            refine pw_bipush (v := (-3)) dX8_pay_52 rfl ?_
            refine pw_iret dX8_pay_54 rfl ?_
            exact ⟨by unfold payX payOK; simp only [hb_5, hb_13, c_18, hb_32, Int32.not_le.mp c_49, cl_nI (show h < 2 ^ 31 by omega), cl_nI (show o < 2 ^ 31 by omega), Bool.and_true, Bool.and_false, Bool.true_and, Bool.false_and, Bool.not_true, Bool.not_false, decide_true, decide_false, Bool.false_eq_true, if_false, if_true], by unfold payS payOK; simp only [hb_5, hb_13, c_18, hb_32, Int32.not_le.mp c_49, cl_nI (show h < 2 ^ 31 by omega), cl_nI (show o < 2 ^ 31 by omega), Bool.and_true, Bool.and_false, Bool.true_and, Bool.false_and, Bool.not_true, Bool.not_false, decide_true, decide_false, Bool.false_eq_true, if_false, if_true]⟩
        · skip
          have hb_32 := b2_0 c_32
          refine pw_bipush (v := (-7)) dX8_pay_35 rfl ?_
          refine pw_iret dX8_pay_37 rfl ?_
          exact ⟨by unfold payX payOK; simp only [hb_5, hb_13, c_18, hb_32, Bool.and_true, Bool.and_false, Bool.true_and, Bool.false_and, Bool.not_true, Bool.not_false, decide_true, decide_false, Bool.false_eq_true, if_false, if_true], by unfold payS payOK; simp only [hb_5, hb_13, c_18, hb_32, Bool.and_true, Bool.and_false, Bool.true_and, Bool.false_and, Bool.not_true, Bool.not_false, decide_true, decide_false, Bool.false_eq_true, if_false, if_true]⟩
      · skip
        refine pw_bipush (v := (-5)) dX8_pay_21 rfl ?_
        refine pw_iret dX8_pay_23 rfl ?_
        exact ⟨by unfold payX payOK; simp only [hb_5, hb_13, c_18, Bool.and_true, Bool.and_false, Bool.true_and, Bool.false_and, Bool.not_true, Bool.not_false, decide_true, decide_false, Bool.false_eq_true, if_false, if_true], by unfold payS payOK; simp only [hb_5, hb_13, c_18, Bool.and_true, Bool.and_false, Bool.true_and, Bool.false_and, Bool.not_true, Bool.not_false, decide_true, decide_false, Bool.false_eq_true, if_false, if_true]⟩

