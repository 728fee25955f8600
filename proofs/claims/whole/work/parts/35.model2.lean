theorem bnd_m {a M : Nat} (ha : a < 2 ^ 30) (hM : M < 2 ^ 30) : boundF (nI a) 0 (nI M) = if nI a < nI M then nI a else nI M := by
  unfold boundF
  rw [if_neg (nI_pos (by omega))]
  rcases Nat.lt_trichotomy a M with q | q | q
  · rw [if_neg (nI_nlt (by omega) (by omega)), if_pos (nI_lt q (by omega))]
  · subst q
    rw [if_neg (nI_nlt (Nat.le_refl _) (by omega))]
  · rw [if_pos (nI_lt q (by omega)), if_neg (nI_nlt (by omega) (by omega))]
theorem yF_b (B : BK) (V : VW) (j h : Nat) : ∃ y, y ≤ 99 ∧ yF B V j h = nI y := by
  unfold yF boundF
  split
  · exact ⟨0, by decide, rfl⟩
  · rename_i q
    split
    · exact ⟨99, by decide, rfl⟩
    · rename_i r
      obtain ⟨z, hz, e⟩ := nI_of q
      refine ⟨z, ?_, e⟩
      rw [e] at r
      exact (nI_leI (b := 99) hz (by decide)).mp (Int32.not_lt.mp r)
theorem moreF_b (k : Int32) : ∃ y, y ≤ 2 ∧ moreF k = nI y := by
  unfold moreF
  split
  · exact ⟨2, by decide, rfl⟩
  · split
    · exact ⟨2, by decide, rfl⟩
    · split
      · exact ⟨0, by decide, rfl⟩
      · exact ⟨1, by decide, rfl⟩
/-- the purse and the wear within their bounds -/
def pwOK (V : VW) (j h : Nat) : Prop := (∃ a, a ≤ 9999 ∧ V 5 h = nI a) ∧ (∃ b, b ≤ 99 ∧ V 3 j = nI b)
theorem bnd_5 {B : BK} {V : VW} {j h : Nat} (hp : pwOK V j h) : boundF (V 5 h + yF B V j h) 0 9999 = if V 5 h + yF B V j h < 9999 then V 5 h + yF B V j h else 9999 := by
  obtain ⟨⟨a, ha, e⟩, _⟩ := hp
  obtain ⟨y, hy, ey⟩ := yF_b B V j h
  rw [e, ey, nI_add]
  exact bnd_m (M := 9999) (by omega) (by decide)
theorem bnd_3 {V : VW} {j h : Nat} (hp : pwOK V j h) : boundF (V 3 j + moreF (V 1 j)) 0 99 = if V 3 j + moreF (V 1 j) < 99 then V 3 j + moreF (V 1 j) else 99 := by
  obtain ⟨_, ⟨a, ha, e⟩⟩ := hp
  obtain ⟨y, hy, ey⟩ := moreF_b (V 1 j)
  rw [e, ey, nI_add]
  exact bnd_m (M := 99) (by omega) (by decide)
def unW (st : Nat → Int32) (n j h : Nat) (V : VW) : Nat → Int32 := upd (upd (upd (upd (upd st (5 * n) (nI j)) (5 * n + 1) (nI h)) (5 * n + 2) (V 3 j)) (5 * n + 3) (V 5 h)) (5 * n + 4) (V 7 h)
def unL (st : Nat → Int32) : Nat → VW → VW
  | 0, V => V
  | n + 1, V => unL st n (vu (vu (vu V 3 (cl (st (5 * n))) (st (5 * n + 2))) 5 (cl (st (5 * n + 1))) (st (5 * n + 3))) 7 (cl (st (5 * n + 1))) (st (5 * n + 4)))
def unOK (st : Nat → Int32) (n : Nat) : Prop := ∀ k, k < n → ∃ j h, j < 5 ∧ h < 6 ∧ st (5 * k) = nI j ∧ st (5 * k + 1) = nI h
theorem okL_V {μ : PM} {B : BK} {U V : VW} (h : okL μ B V) (e : U 0 13 = V 0 13) : okL μ B U := by
  obtain ⟨t, ht, hv, hr⟩ := h
  exact ⟨t, ht, e.trans hv, hr⟩
set_option maxHeartbeats 4000000 in
set_option maxRecDepth 100000 in
theorem T_X8_yields {l : Launch} {μ : PM} {B : BK} {V : VW} {nm sk st : Nat → Int32} {sn : Int32} {nj nh : Nat} {j h : Int32} (hL : okL μ B V) (h1 : V 0 1 = nI nj) (hj5 : nj ≤ 5) (h5 : V 0 5 = nI nh) (hh6 : nh ≤ 6) : CT l SM yX8_yields cX8_yields 3 (some .int) 5 [.ref 0, .int j, .int h] (mm μ V nm sk st sn) (QI fun x m => x = yieldsF B V j h ∧ ∃ nm2 sk2, m = mm μ (V) nm2 sk2 st sn) := by
  refine CT.of rfl (Nat.le_of_ble_eq_true rfl) ?_
  show PW l SM RX8 cX8_yields 3 (some .int) 5 _ 0 [(0, .ref 0), (1, .int j), (2, .int h)] [] (mm μ V nm sk st sn)
  refine pw_aload_n dX8_yields_0 rfl rfl ?_
  refine pw_iload_n dX8_yields_1 rfl rfl ?_
  refine pw_cVi dX8_yields_2 mv_X8_174 ckModel T_X8_isJoke rfl rfl (Nat.le_of_ble_eq_true rfl) (by decide) (fun x_2 m_2 h_2 => ?_)
  obtain ⟨rfl, rfl⟩ := h_2
  refine pw_if_ne (tgt := 11) dX8_yields_5 (by decide) (fun c_5 => ?_) (fun c_5 => ?_)
  · skip
    have hb_5 := b2_n c_5
    refine pw_aload_n dX8_yields_11 rfl rfl ?_
    refine pw_iload_n dX8_yields_12 rfl rfl ?_
    refine pw_cVi dX8_yields_13 mv_X8_167 ckModel T_X8_isHearer rfl rfl (Nat.le_of_ble_eq_true rfl) (by decide) (fun x_13 m_13 h_13 => ?_)
    obtain ⟨rfl, rfl⟩ := h_13
    refine pw_if_eq (tgt := 28) dX8_yields_16 (by decide) (fun c_16 => ?_) (fun c_16 => ?_)
    · skip
      have hb_16 := b2_0 c_16
      refine pw_bipush (v := (-6)) dX8_yields_28 rfl ?_
      refine pw_iret dX8_yields_30 rfl ?_
      exact ⟨by unfold yieldsF refT; rw [hb_5, hb_16]; rfl, _, _, rfl⟩
    · skip
      have hb_16 := b2_n c_16
      refine pw_aload_n dX8_yields_19 rfl rfl ?_
      refine pw_iload_n dX8_yields_20 rfl rfl ?_
      refine pw_iload_n dX8_yields_21 rfl rfl ?_
      obtain ⟨j, hlj, hsj, rfl⟩ := jk_of h1 hj5 hb_5
      obtain ⟨h, hlh, hsh, rfl⟩ := hr_of h5 hh6 hb_16
      refine pw_cVi dX8_yields_22 mv_X8_190 ckModel (T_X8_yieldsOf hL hsj hsh) rfl rfl (Nat.le_of_ble_eq_true rfl) (by decide) (fun x_22 m_22 h_22 => ?_)
      obtain ⟨rfl, nm1, sk1, rfl⟩ := h_22
      refine pw_goto (tgt := 30) dX8_yields_25 (by decide) ?_
      refine pw_iret dX8_yields_30 rfl ?_
      exact ⟨by unfold yieldsF refT; rw [hb_5, hb_16, if_pos (by rfl), cl_nI (by omega), cl_nI (by omega)], _, _, rfl⟩
  · skip
    have hb_5 := b2_0 c_5
    refine pw_bipush (v := (-5)) dX8_yields_8 rfl ?_
    refine pw_iret dX8_yields_10 rfl ?_
    exact ⟨by unfold yieldsF refT; rw [hb_5]; rfl, _, _, rfl⟩

set_option maxHeartbeats 4000000 in
set_option maxRecDepth 100000 in
theorem T_X8_tells {l : Launch} {μ : PM} {B : BK} {V : VW} {nm sk st : Nat → Int32} {n j h : Nat} (hL : okL μ B V) (hj : j < 5) (hh : h < 6) (hpw : pwOK V j h) (hn : n < 100) : CT l SM yX8_tells cX8_tells 5 (some .int) 5 [.ref 0, .int (nI j), .int (nI h)] (mm μ V nm sk st (nI n)) (QI fun x m => x = yF B V j h ∧ ∃ nm2 sk2, m = mm μ (tellV B V j h) nm2 sk2 (unW st n j h V) (nI (n + 1))) := by
  refine CT.of rfl (Nat.le_of_ble_eq_true rfl) ?_
  show PW l SM RX8 cX8_tells 5 (some .int) 5 _ 0 [(0, .ref 0), (1, .int (nI j)), (2, .int (nI h))] [] (mm μ V nm sk st (nI n))
  refine pw_aload_n dX8_tells_0 rfl rfl ?_
  refine pw_iload_n dX8_tells_1 rfl rfl ?_
  refine pw_iload_n dX8_tells_2 rfl rfl ?_
  refine pw_cVi dX8_tells_3 mv_X8_190 ckModel (T_X8_yieldsOf hL hj hh) rfl rfl (Nat.le_of_ble_eq_true rfl) (by decide) (fun x_3 m_3 h_3 => ?_)
  obtain ⟨rfl, nm1, sk1, rfl⟩ := h_3
  refine pw_istore_n (ls2 := [(3, _), (0, _), (1, _), (2, _)]) dX8_tells_6 rfl (by decide) rfl ?_
  refine pw_iconst (v := 5) dX8_tells_7 rfl ?_
  refine pw_aload_n dX8_tells_8 rfl rfl ?_
  refine pw_getI dX8_tells_9 fa_X8_193 rfl ?_
  refine pw_top (y := nI n) rfl ?_
  refine pw_imul dX8_tells_12 ?_
  refine pw_top (y := nI (5 * n)) (by show nI 5 * nI n = _; rw [pk_mul]) ?_
  refine pw_istore (ls2 := [(4, _), (3, _), (0, _), (1, _), (2, _)]) dX8_tells_13 (by decide) rfl ?_
  refine pw_aload_n dX8_tells_15 rfl rfl ?_
  refine pw_getR dX8_tells_16 fa_X8_61 rfl ?_
  refine pw_iload dX8_tells_19 rfl ?_
  refine pw_iload_n dX8_tells_21 rfl rfl ?_
  refine pw_iast (j := 5 * n) dX8_tells_22 rfl rfl (by omega) ?_
  refine pw_mem m_18 ?_
  refine pw_aload_n dX8_tells_23 rfl rfl ?_
  refine pw_getR dX8_tells_24 fa_X8_61 rfl ?_
  refine pw_iload dX8_tells_27 rfl ?_
  refine pw_iconst (v := 1) dX8_tells_29 rfl ?_
  refine pw_iadd dX8_tells_30 ?_
  refine pw_iload_n dX8_tells_31 rfl rfl ?_
  refine pw_iast (j := 5 * n + 1) dX8_tells_32 rfl (nI_1 _) (by omega) ?_
  refine pw_mem m_18 ?_
  refine pw_aload_n dX8_tells_33 rfl rfl ?_
  refine pw_getR dX8_tells_34 fa_X8_61 rfl ?_
  refine pw_iload dX8_tells_37 rfl ?_
  refine pw_iconst (v := 2) dX8_tells_39 rfl ?_
  refine pw_iadd dX8_tells_40 ?_
  refine pw_aload_n dX8_tells_41 rfl rfl ?_
  refine pw_getR dX8_tells_42 fa_X8_16 rfl ?_
  refine pw_iload_n dX8_tells_45 rfl rfl ?_
  refine pw_iald (j := j) dX8_tells_46 rfl rfl hj ?_
  refine pw_top (y := V 3 j) rfl ?_
  refine pw_iast (j := 5 * n + 2) dX8_tells_47 rfl (by show nI (5 * n) + nI 2 = _; rw [nI_add]) (by omega) ?_
  refine pw_mem m_18 ?_
  refine pw_aload_n dX8_tells_48 rfl rfl ?_
  refine pw_getR dX8_tells_49 fa_X8_61 rfl ?_
  refine pw_iload dX8_tells_52 rfl ?_
  refine pw_iconst (v := 3) dX8_tells_54 rfl ?_
  refine pw_iadd dX8_tells_55 ?_
  refine pw_aload_n dX8_tells_56 rfl rfl ?_
  refine pw_getR dX8_tells_57 fa_X8_19 rfl ?_
  refine pw_iconst (v := 5) dX8_tells_60 rfl ?_
  refine pw_iload_n dX8_tells_61 rfl rfl ?_
  refine pw_imul dX8_tells_62 ?_
  refine pw_iconst (v := 1) dX8_tells_63 rfl ?_
  refine pw_iadd dX8_tells_64 ?_
  refine pw_iald (j := 5 * h + 1) dX8_tells_65 rfl (by show nI 5 * nI h + nI 1 = _; rw [pk_mul, nI_add]) (by omega) ?_
  refine pw_top (y := V 5 h) (hl_at (by decide)) ?_
  refine pw_iast (j := 5 * n + 3) dX8_tells_66 rfl (by show nI (5 * n) + nI 3 = _; rw [nI_add]) (by omega) ?_
  refine pw_mem m_18 ?_
  refine pw_aload_n dX8_tells_67 rfl rfl ?_
  refine pw_getR dX8_tells_68 fa_X8_61 rfl ?_
  refine pw_iload dX8_tells_71 rfl ?_
  refine pw_iconst (v := 4) dX8_tells_73 rfl ?_
  refine pw_iadd dX8_tells_74 ?_
  refine pw_aload_n dX8_tells_75 rfl rfl ?_
  refine pw_getR dX8_tells_76 fa_X8_19 rfl ?_
  refine pw_iconst (v := 5) dX8_tells_79 rfl ?_
  refine pw_iload_n dX8_tells_80 rfl rfl ?_
  refine pw_imul dX8_tells_81 ?_
  refine pw_iconst (v := 3) dX8_tells_82 rfl ?_
  refine pw_iadd dX8_tells_83 ?_
  refine pw_iald (j := 5 * h + 3) dX8_tells_84 rfl (by show nI 5 * nI h + nI 3 = _; rw [pk_mul, nI_add]) (by omega) ?_
  refine pw_top (y := V 7 h) (hl_at (by decide)) ?_
  refine pw_iast (j := 5 * n + 4) dX8_tells_85 rfl (by show nI (5 * n) + nI 4 = _; rw [nI_add]) (by omega) ?_
  refine pw_mem m_18 ?_
  refine pw_aload_n dX8_tells_86 rfl rfl ?_
  refine pw_dup dX8_tells_87 rfl ?_
  refine pw_getI dX8_tells_88 fa_X8_193 rfl ?_
  refine pw_top (y := nI n) rfl ?_
  refine pw_iconst (v := 1) dX8_tells_91 rfl ?_
  refine pw_iadd dX8_tells_92 ?_
  refine pw_top (y := nI (n + 1)) (nI_1 n) ?_
  refine pw_putI dX8_tells_93 fa_X8_193 rfl ?_
  refine pw_mem m_0_36 ?_
  refine pw_aload_n dX8_tells_96 rfl rfl ?_
  refine pw_getR dX8_tells_97 fa_X8_19 rfl ?_
  refine pw_iconst (v := 5) dX8_tells_100 rfl ?_
  refine pw_iload_n dX8_tells_101 rfl rfl ?_
  refine pw_imul dX8_tells_102 ?_
  refine pw_iconst (v := 1) dX8_tells_103 rfl ?_
  refine pw_iadd dX8_tells_104 ?_
  refine pw_aload_n dX8_tells_105 rfl rfl ?_
  refine pw_getR dX8_tells_106 fa_X8_19 rfl ?_
  refine pw_iconst (v := 5) dX8_tells_109 rfl ?_
  refine pw_iload_n dX8_tells_110 rfl rfl ?_
  refine pw_imul dX8_tells_111 ?_
  refine pw_iconst (v := 1) dX8_tells_112 rfl ?_
  refine pw_iadd dX8_tells_113 ?_
  refine pw_iald (j := 5 * h + 1) dX8_tells_114 rfl (by show nI 5 * nI h + nI 1 = _; rw [pk_mul, nI_add]) (by omega) ?_
  refine pw_top (y := V 5 h) (hl_at (by decide)) ?_
  refine pw_iload_n dX8_tells_115 rfl rfl ?_
  refine pw_iadd dX8_tells_116 ?_
  refine pw_iconst (v := 0) dX8_tells_117 rfl ?_
  refine pw_sipush (v := 9999) dX8_tells_118 rfl ?_
  refine pw_cSi dX8_tells_121 ms_X8_164 T_X8_within rfl rfl (Nat.le_of_ble_eq_true rfl) (by decide) (fun x_121 m_121 h_121 => ?_)
  obtain ⟨rfl, rfl⟩ := h_121
  refine pw_top (y := if V 5 h + yF B V j h < 9999 then V 5 h + yF B V j h else 9999) (bnd_5 hpw) ?_
  refine pw_iast (j := 5 * h + 1) dX8_tells_124 rfl (by show nI 5 * nI h + nI 1 = _; rw [pk_mul, nI_add]) (by omega) ?_
  refine pw_mem (m_4 (i := 1) (by decide)) ?_
  refine pw_aload_n dX8_tells_125 rfl rfl ?_
  refine pw_getR dX8_tells_126 fa_X8_16 rfl ?_
  refine pw_iload_n dX8_tells_129 rfl rfl ?_
  refine pw_aload_n dX8_tells_130 rfl rfl ?_
  refine pw_getR dX8_tells_131 fa_X8_16 rfl ?_
  refine pw_iload_n dX8_tells_134 rfl rfl ?_
  refine pw_iald (j := j) dX8_tells_135 rfl rfl hj ?_
  refine pw_top (y := V 3 j) rfl ?_
  refine pw_aload_n dX8_tells_136 rfl rfl ?_
  refine pw_iload_n dX8_tells_137 rfl rfl ?_
  refine pw_cVi dX8_tells_138 mv_X8_196 ckModel (T_X8_wearsOf hj) rfl rfl (Nat.le_of_ble_eq_true rfl) (by decide) (fun x_138 m_138 h_138 => ?_)
  obtain ⟨rfl, rfl⟩ := h_138
  refine pw_top (y := moreF (V 1 j)) rfl ?_
  refine pw_iadd dX8_tells_141 ?_
  refine pw_iconst (v := 0) dX8_tells_142 rfl ?_
  refine pw_bipush (v := 99) dX8_tells_143 rfl ?_
  refine pw_cSi dX8_tells_145 ms_X8_164 T_X8_within rfl rfl (Nat.le_of_ble_eq_true rfl) (by decide) (fun x_145 m_145 h_145 => ?_)
  obtain ⟨rfl, rfl⟩ := h_145
  refine pw_top (y := if V 3 j + moreF (V 1 j) < 99 then V 3 j + moreF (V 1 j) else 99) (bnd_3 hpw) ?_
  refine pw_iast (j := j) dX8_tells_148 rfl rfl hj ?_
  refine pw_mem m_3 ?_
  refine pw_aload_n dX8_tells_149 rfl rfl ?_
  refine pw_getR dX8_tells_150 fa_X8_19 rfl ?_
  refine pw_iconst (v := 5) dX8_tells_153 rfl ?_
  refine pw_iload_n dX8_tells_154 rfl rfl ?_
  refine pw_imul dX8_tells_155 ?_
  refine pw_iconst (v := 3) dX8_tells_156 rfl ?_
  refine pw_iadd dX8_tells_157 ?_
  refine pw_dup2 dX8_tells_158 rfl rfl ?_
  refine pw_iald (j := 5 * h + 3) dX8_tells_159 rfl (by show nI 5 * nI h + nI 3 = _; rw [pk_mul, nI_add]) (by omega) ?_
  refine pw_top (y := V 7 h) (by show hl (vu (vu V 5 h _) 3 j _) (5 * h + 3) = _; rw [hl_at (by decide)]; rfl) ?_
  refine pw_iconst (v := 1) dX8_tells_160 rfl ?_
  refine pw_iload_n dX8_tells_161 rfl rfl ?_
  refine pw_ishl dX8_tells_162 ?_
  refine pw_ior dX8_tells_163 ?_
  refine pw_iast (j := 5 * h + 3) dX8_tells_164 rfl (by show nI 5 * nI h + nI 3 = _; rw [pk_mul, nI_add]) (by omega) ?_
  refine pw_mem (m_4 (i := 3) (by decide)) ?_
  refine pw_iload_n dX8_tells_165 rfl rfl ?_
  refine pw_iret dX8_tells_166 rfl ?_
  exact ⟨rfl, _, _, rfl⟩

set_option maxHeartbeats 4000000 in
set_option maxRecDepth 100000 in
theorem T_X8_takesBack {l : Launch} {μ : PM} {V : VW} {nm sk st : Nat → Int32} {n : Nat} (hn : n ≤ 100) (hu : unOK st n) : CT l SM yX8_takesBack cX8_takesBack 2 none 1 [.ref 0] (mm μ V nm sk st (nI n)) (QV fun m => m = mm μ (unL st n V) nm sk st 0) := by
  refine CT.of rfl (Nat.le_of_ble_eq_true rfl) ?_
  show PW l SM RX8 cX8_takesBack 2 none 1 _ 0 [(0, .ref 0)] [] (mm μ V nm sk st (nI n))
  have L_0 : ∀ (fu_0 : Nat) (k : Nat) (U : VW), (k ≤ n) → (unL st k U = unL st n V) → k < fu_0 → PW l SM RX8 cX8_takesBack 2 none 1 (QV fun m => m = mm μ (unL st n V) nm sk st 0) 0 [(0, .ref 0)] [] (mm μ U nm sk st (nI k)) := by
    intro fu_0
    induction fu_0 with
    | zero =>
      intro k U hk hx hm_0
      exact absurd hm_0 (Nat.not_lt_zero _)
    | succ fu_0 ih_0 =>
      intro k U hk hx hm_0
      refine pw_aload_n dX8_takesBack_0 rfl rfl ?_
      refine pw_getI dX8_takesBack_1 fa_X8_193 rfl ?_
      refine pw_top (y := nI k) rfl ?_
      refine pw_if_le (tgt := 96) dX8_takesBack_4 (by decide) (fun c_4 => ?_) (fun c_4 => ?_)
      · skip
        have hk0 : k = 0 := by
          rcases Nat.eq_zero_or_pos k with q | q
          · exact q
          · exact absurd c_4 (nI_nle q (by omega))
        refine pw_vret dX8_takesBack_96 rfl ?_
        subst hk0
        change U = _ at hx
        rw [hx]
        rfl
      · skip
        obtain ⟨i, rfl⟩ : ∃ i, k = i + 1 := by
          rcases Nat.eq_zero_or_pos k with q | q
          · subst q; exact absurd (Int32.le_refl 0) c_4
          · exact ⟨k - 1, by omega⟩
        obtain ⟨j, h, hj, hh, ej, eh⟩ := hu i (by omega)
        refine pw_aload_n dX8_takesBack_7 rfl rfl ?_
        refine pw_dup dX8_takesBack_8 rfl ?_
        refine pw_getI dX8_takesBack_9 fa_X8_193 rfl ?_
        refine pw_top (y := nI (i + 1)) rfl ?_
        refine pw_iconst (v := 1) dX8_takesBack_12 rfl ?_
        refine pw_isub dX8_takesBack_13 ?_
        refine pw_top (y := nI i) (nI_pred i) ?_
        refine pw_putI dX8_takesBack_14 fa_X8_193 rfl ?_
        refine pw_mem m_0_36 ?_
        refine pw_iconst (v := 5) dX8_takesBack_17 rfl ?_
        refine pw_aload_n dX8_takesBack_18 rfl rfl ?_
        refine pw_getI dX8_takesBack_19 fa_X8_193 rfl ?_
        refine pw_top (y := nI i) rfl ?_
        refine pw_imul dX8_takesBack_22 ?_
        refine pw_top (y := nI (5 * i)) (by show nI 5 * nI i = _; rw [pk_mul]) ?_
        refine pw_istore_n (ls2 := [(1, _), (0, _)]) dX8_takesBack_23 rfl (by decide) rfl ?_
        refine pw_aload_n dX8_takesBack_24 rfl rfl ?_
        refine pw_getR dX8_takesBack_25 fa_X8_16 rfl ?_
        refine pw_aload_n dX8_takesBack_28 rfl rfl ?_
        refine pw_getR dX8_takesBack_29 fa_X8_61 rfl ?_
        refine pw_iload_n dX8_takesBack_32 rfl rfl ?_
        refine pw_iald (j := 5 * i) dX8_takesBack_33 rfl rfl (by omega) ?_
        refine pw_top (y := nI j) ej ?_
        refine pw_aload_n dX8_takesBack_34 rfl rfl ?_
        refine pw_getR dX8_takesBack_35 fa_X8_61 rfl ?_
        refine pw_iload_n dX8_takesBack_38 rfl rfl ?_
        refine pw_iconst (v := 2) dX8_takesBack_39 rfl ?_
        refine pw_iadd dX8_takesBack_40 ?_
        refine pw_iald (j := 5 * i + 2) dX8_takesBack_41 rfl (by show nI (5 * i) + nI 2 = _; rw [nI_add]) (by omega) ?_
        refine pw_top (y := st (5 * i + 2)) rfl ?_
        refine pw_iast (j := j) dX8_takesBack_42 rfl rfl hj ?_
        refine pw_mem m_3 ?_
        refine pw_aload_n dX8_takesBack_43 rfl rfl ?_
        refine pw_getR dX8_takesBack_44 fa_X8_19 rfl ?_
        refine pw_iconst (v := 5) dX8_takesBack_47 rfl ?_
        refine pw_aload_n dX8_takesBack_48 rfl rfl ?_
        refine pw_getR dX8_takesBack_49 fa_X8_61 rfl ?_
        refine pw_iload_n dX8_takesBack_52 rfl rfl ?_
        refine pw_iconst (v := 1) dX8_takesBack_53 rfl ?_
        refine pw_iadd dX8_takesBack_54 ?_
        refine pw_iald (j := 5 * i + 1) dX8_takesBack_55 rfl (nI_1 _) (by omega) ?_
        refine pw_top (y := nI h) eh ?_
        refine pw_imul dX8_takesBack_56 ?_
        refine pw_iconst (v := 1) dX8_takesBack_57 rfl ?_
        refine pw_iadd dX8_takesBack_58 ?_
        refine pw_aload_n dX8_takesBack_59 rfl rfl ?_
        refine pw_getR dX8_takesBack_60 fa_X8_61 rfl ?_
        refine pw_iload_n dX8_takesBack_63 rfl rfl ?_
        refine pw_iconst (v := 3) dX8_takesBack_64 rfl ?_
        refine pw_iadd dX8_takesBack_65 ?_
        refine pw_iald (j := 5 * i + 3) dX8_takesBack_66 rfl (by show nI (5 * i) + nI 3 = _; rw [nI_add]) (by omega) ?_
        refine pw_top (y := st (5 * i + 3)) rfl ?_
        refine pw_iast (j := 5 * h + 1) dX8_takesBack_67 rfl (by show nI 5 * nI h + nI 1 = _; rw [pk_mul, nI_add]) (by omega) ?_
        refine pw_mem (m_4 (i := 1) (by decide)) ?_
        refine pw_aload_n dX8_takesBack_68 rfl rfl ?_
        refine pw_getR dX8_takesBack_69 fa_X8_19 rfl ?_
        refine pw_iconst (v := 5) dX8_takesBack_72 rfl ?_
        refine pw_aload_n dX8_takesBack_73 rfl rfl ?_
        refine pw_getR dX8_takesBack_74 fa_X8_61 rfl ?_
        refine pw_iload_n dX8_takesBack_77 rfl rfl ?_
        refine pw_iconst (v := 1) dX8_takesBack_78 rfl ?_
        refine pw_iadd dX8_takesBack_79 ?_
        refine pw_iald (j := 5 * i + 1) dX8_takesBack_80 rfl (nI_1 _) (by omega) ?_
        refine pw_top (y := nI h) eh ?_
        refine pw_imul dX8_takesBack_81 ?_
        refine pw_iconst (v := 3) dX8_takesBack_82 rfl ?_
        refine pw_iadd dX8_takesBack_83 ?_
        refine pw_aload_n dX8_takesBack_84 rfl rfl ?_
        refine pw_getR dX8_takesBack_85 fa_X8_61 rfl ?_
        refine pw_iload_n dX8_takesBack_88 rfl rfl ?_
        refine pw_iconst (v := 4) dX8_takesBack_89 rfl ?_
        refine pw_iadd dX8_takesBack_90 ?_
        refine pw_iald (j := 5 * i + 4) dX8_takesBack_91 rfl (by show nI (5 * i) + nI 4 = _; rw [nI_add]) (by omega) ?_
        refine pw_top (y := st (5 * i + 4)) rfl ?_
        refine pw_iast (j := 5 * h + 3) dX8_takesBack_92 rfl (by show nI 5 * nI h + nI 3 = _; rw [pk_mul, nI_add]) (by omega) ?_
        refine pw_mem (m_4 (i := 3) (by decide)) ?_
        refine pw_goto (tgt := 0) dX8_takesBack_93 (by decide) ?_
        refine pw_sub [1] rfl ?_
        exact ih_0 i _ (by omega) (by rw [← hx]; show _ = unL st i (vu (vu (vu U 3 (cl (st (5 * i))) (st (5 * i + 2))) 5 (cl (st (5 * i + 1))) (st (5 * i + 3))) 7 (cl (st (5 * i + 1))) (st (5 * i + 4))); rw [ej, eh, cl_nI (by omega), cl_nI (by omega)] <;> rfl) (by omega)
  refine pw_sub [0] rfl ?_
  exact L_0 (n + 1) n V (Nat.le_refl _) rfl (by omega)

set_option maxHeartbeats 4000000 in
set_option maxRecDepth 100000 in
theorem T_X8_tell {l : Launch} {μ : PM} {B : BK} {V : VW} {nm sk st : Nat → Int32} {nj nh : Nat} {j h : Int32} (hL : okL μ B V) (h1 : V 0 1 = nI nj) (hj5 : nj ≤ 5) (h5 : V 0 5 = nI nh) (hh6 : nh ≤ 6) (hpw : ∀ j h, j < nj → h < nh → pwOK V j h) : CT l SM yX8_tell cX8_tell 4 (some .int) 6 [.ref 0, .int j, .int h] (mm μ V nm sk st 0) (QI fun x m => x = yieldsF B V j h ∧ ∃ nm2 sk2 st2, m = mm μ (tellVV B V j h) nm2 sk2 st2 0) := by
  refine CT.of rfl (Nat.le_of_ble_eq_true rfl) ?_
  show PW l SM RX8 cX8_tell 4 (some .int) 6 _ 0 [(0, .ref 0), (1, .int j), (2, .int h)] [] (mm μ V nm sk st 0)
  refine pw_aload_n dX8_tell_0 rfl rfl ?_
  refine pw_iload_n dX8_tell_1 rfl rfl ?_
  refine pw_cVi dX8_tell_2 mv_X8_174 ckModel T_X8_isJoke rfl rfl (Nat.le_of_ble_eq_true rfl) (by decide) (fun x_2 m_2 h_2 => ?_)
  obtain ⟨rfl, rfl⟩ := h_2
  refine pw_if_ne (tgt := 11) dX8_tell_5 (by decide) (fun c_5 => ?_) (fun c_5 => ?_)
  · skip
    have hb_5 := b2_n c_5
    refine pw_aload_n dX8_tell_11 rfl rfl ?_
    refine pw_iload_n dX8_tell_12 rfl rfl ?_
    refine pw_cVi dX8_tell_13 mv_X8_167 ckModel T_X8_isHearer rfl rfl (Nat.le_of_ble_eq_true rfl) (by decide) (fun x_13 m_13 h_13 => ?_)
    obtain ⟨rfl, rfl⟩ := h_13
    refine pw_if_ne (tgt := 22) dX8_tell_16 (by decide) (fun c_16 => ?_) (fun c_16 => ?_)
    · skip
      have hb_16 := b2_n c_16
      refine pw_aload_n dX8_tell_22 rfl rfl ?_
      refine pw_iload_n dX8_tell_23 rfl rfl ?_
      refine pw_iload_n dX8_tell_24 rfl rfl ?_
      obtain ⟨j, hlj, hsj, rfl⟩ := jk_of h1 hj5 hb_5
      obtain ⟨h, hlh, hsh, rfl⟩ := hr_of h5 hh6 hb_16
      refine pw_cVi dX8_tell_25 mv_X8_199 ckModel (T_X8_tells (n := 0) hL hsj hsh (hpw j h hlj hlh) (by decide)) rfl rfl (Nat.le_of_ble_eq_true rfl) (by decide) (fun x_25 m_25 h_25 => ?_)
      obtain ⟨rfl, nm1, sk1, rfl⟩ := h_25
      refine pw_istore_n (ls2 := [(3, _), (0, _), (1, _), (2, _)]) dX8_tell_28 rfl (by decide) rfl ?_
      refine pw_aload_n dX8_tell_29 rfl rfl ?_
      refine pw_iconst (v := 0) dX8_tell_30 rfl ?_
      refine pw_putI dX8_tell_31 fa_X8_193 rfl ?_
      refine pw_mem m_0_36 ?_
      refine pw_iload_n dX8_tell_34 rfl rfl ?_
      refine pw_iret dX8_tell_35 rfl ?_
      exact ⟨by unfold yieldsF refT; rw [hb_5, hb_16, if_pos (by rfl), cl_nI (by omega), cl_nI (by omega)], nm1, sk1, _, by unfold tellVV refT; rw [hb_5, hb_16, if_pos (by rfl), cl_nI (by omega), cl_nI (by omega)]⟩
    · skip
      have hb_16 := b2_0 c_16
      refine pw_bipush (v := (-6)) dX8_tell_19 rfl ?_
      refine pw_iret dX8_tell_21 rfl ?_
      exact ⟨by unfold yieldsF refT; rw [hb_5, hb_16]; rfl, nm, sk, st, by unfold tellVV refT; rw [hb_5, hb_16]; rfl⟩
  · skip
    have hb_5 := b2_0 c_5
    refine pw_bipush (v := (-5)) dX8_tell_8 rfl ?_
    refine pw_iret dX8_tell_10 rfl ?_
    exact ⟨by unfold yieldsF refT; rw [hb_5]; rfl, nm, sk, st, by unfold tellVV refT; rw [hb_5]; rfl⟩

set_option maxHeartbeats 4000000 in
set_option maxRecDepth 100000 in
theorem T_X8_fadesOf {l : Launch} {μ : PM} {B : BK} {V : VW} {nm sk st : Nat → Int32} {sn : Int32} {h : Nat} (hL : okL μ B V) (hh : h < 6) : CT l SM yX8_fadesOf cX8_fadesOf 2 (some .int) 4 [.ref 0, .int (nI h)] (mm μ V nm sk st sn) (QI fun x m => x = fadeF B V h ∧ ∃ nm2 sk2, m = mm μ (V) nm2 sk2 st sn) := by
  refine CT.of rfl (Nat.le_of_ble_eq_true rfl) ?_
  show PW l SM RX8 cX8_fadesOf 2 (some .int) 4 _ 0 [(0, .ref 0), (1, .int (nI h))] [] (mm μ V nm sk st sn)
  refine pw_aload_n dX8_fadesOf_0 rfl rfl ?_
  refine pw_getR dX8_fadesOf_1 fa_X8_19 rfl ?_
  refine pw_iconst (v := 5) dX8_fadesOf_4 rfl ?_
  refine pw_iload_n dX8_fadesOf_5 rfl rfl ?_
  refine pw_imul dX8_fadesOf_6 ?_
  refine pw_iconst (v := 1) dX8_fadesOf_7 rfl ?_
  refine pw_iadd dX8_fadesOf_8 ?_
  refine pw_iald (j := 5 * h + 1) dX8_fadesOf_9 rfl (by show nI 5 * nI h + nI 1 = _; rw [pk_mul, nI_add]) (by omega) ?_
  refine pw_top (y := V 5 h) (hl_at (by decide)) ?_
  refine pw_aload_n dX8_fadesOf_10 rfl rfl ?_
  refine pw_iconst (v := 1) dX8_fadesOf_11 rfl ?_
  refine pw_iconst (v := 0) dX8_fadesOf_12 rfl ?_
  refine pw_iload_n dX8_fadesOf_13 rfl rfl ?_
  refine pw_iconst (v := 0) dX8_fadesOf_14 rfl ?_
  refine pw_cVi dX8_fadesOf_15 mv_X8_170 ckModel (T_X8_asksOf (p := 1) hL (by decide) hh) rfl rfl (Nat.le_of_ble_eq_true rfl) (by decide) (fun x_15 m_15 h_15 => ?_)
  obtain ⟨rfl, nm1, sk1, rfl⟩ := h_15
  refine pw_imul dX8_fadesOf_18 ?_
  refine pw_bipush (v := 100) dX8_fadesOf_19 rfl ?_
  refine pw_idiv dX8_fadesOf_21 (by decide) ?_
  refine pw_iret dX8_fadesOf_22 rfl ?_
  exact ⟨rfl, _, _, rfl⟩

set_option maxHeartbeats 4000000 in
set_option maxRecDepth 100000 in
theorem T_X8_fades {l : Launch} {μ : PM} {B : BK} {V : VW} {nm sk st : Nat → Int32} {sn : Int32} {nh : Nat} {h : Int32} (hL : okL μ B V) (h5 : V 0 5 = nI nh) (hh6 : nh ≤ 6) : CT l SM yX8_fades cX8_fades 2 (some .int) 5 [.ref 0, .int h] (mm μ V nm sk st sn) (QI fun x m => x = fadesF B V h ∧ ∃ nm2 sk2, m = mm μ (V) nm2 sk2 st sn) := by
  refine CT.of rfl (Nat.le_of_ble_eq_true rfl) ?_
  show PW l SM RX8 cX8_fades 2 (some .int) 5 _ 0 [(0, .ref 0), (1, .int h)] [] (mm μ V nm sk st sn)
  refine pw_aload_n dX8_fades_0 rfl rfl ?_
  refine pw_iload_n dX8_fades_1 rfl rfl ?_
  refine pw_cVi dX8_fades_2 mv_X8_167 ckModel T_X8_isHearer rfl rfl (Nat.le_of_ble_eq_true rfl) (by decide) (fun x_2 m_2 h_2 => ?_)
  obtain ⟨rfl, rfl⟩ := h_2
  refine pw_if_eq (tgt := 16) dX8_fades_5 (by decide) (fun c_5 => ?_) (fun c_5 => ?_)
  · skip
    have hb_5 := b2_0 c_5
    refine pw_bipush (v := (-5)) dX8_fades_16 rfl ?_
    refine pw_iret dX8_fades_18 rfl ?_
    exact ⟨by unfold fadesF; rw [hb_5]; rfl, _, _, rfl⟩
  · skip
    have hb_5 := b2_n c_5
    refine pw_aload_n dX8_fades_8 rfl rfl ?_
    refine pw_iload_n dX8_fades_9 rfl rfl ?_
    obtain ⟨h, hlh, hsh, rfl⟩ := hr_of h5 hh6 hb_5
    refine pw_cVi dX8_fades_10 mv_X8_202 ckModel (T_X8_fadesOf hL hsh) rfl rfl (Nat.le_of_ble_eq_true rfl) (by decide) (fun x_10 m_10 h_10 => ?_)
    obtain ⟨rfl, nm1, sk1, rfl⟩ := h_10
    refine pw_goto (tgt := 18) dX8_fades_13 (by decide) ?_
    refine pw_iret dX8_fades_18 rfl ?_
    exact ⟨by unfold fadesF; rw [hb_5, if_pos rfl, cl_nI (by omega)], _, _, rfl⟩

set_option maxHeartbeats 4000000 in
set_option maxRecDepth 100000 in
theorem T_X8_night {l : Launch} {μ : PM} {B : BK} {V : VW} {nm sk st : Nat → Int32} {sn : Int32} {nh : Nat} (hL : okL μ B V) (h5 : V 0 5 = nI nh) (hh6 : nh ≤ 6) (hday : ¬ V 0 12 = 99 → V 0 12 < 99) : CT l SM yX8_night cX8_night 4 (some .int) 5 [.ref 0] (mm μ V nm sk st sn) (QI fun x m => x = nightX B V nh ∧ ∃ nm2 sk2, m = mm μ (nightV B V nh) nm2 sk2 st sn) := by
  refine CT.of rfl (Nat.le_of_ble_eq_true rfl) ?_
  show PW l SM RX8 cX8_night 4 (some .int) 5 _ 0 [(0, .ref 0)] [] (mm μ V nm sk st sn)
  refine pw_aload_n dX8_night_0 rfl rfl ?_
  refine pw_getI dX8_night_1 fa_X8_88 rfl ?_
  refine pw_bipush (v := 99) dX8_night_4 rfl ?_
  skip
  refine pw_icmp_ne (tgt := 12) dX8_night_6 (by decide) (fun c_6 => ?_) (fun c_6 => ?_)
  · skip
    have h99 : V 0 12 < 99 := hday c_6
    refine pw_iconst (v := 0) dX8_night_12 rfl ?_
    refine pw_istore_n (ls2 := [(1, _), (0, _)]) dX8_night_13 rfl (by decide) rfl ?_
    refine pw_iconst (v := 0) dX8_night_14 rfl ?_
    refine pw_istore_n (ls2 := [(2, _), (1, _), (0, _)]) dX8_night_15 rfl (by decide) rfl ?_
    have L_16 : ∀ (fu_16 : Nat) (i : Nat) (s : Int32) (U : VW) (nm sk : Nat → Int32), (i ≤ nh) → (U 0 5 = nI nh) → (U 0 13 = V 0 13) → (ngX B (nh - i) i U s = ngX B nh 0 V 0) → (ngV B (nh - i) i U = ngV B nh 0 V) → nh - i < fu_16 → PW l SM RX8 cX8_night 4 (some .int) 5 (QI fun x m => x = nightX B V nh ∧ ∃ nm2 sk2, m = mm μ (nightV B V nh) nm2 sk2 st sn) 16 [(0, .ref 0), (1, .int s), (2, .int (nI i))] [] (mm μ U nm sk st sn) := by
      intro fu_16
      induction fu_16 with
      | zero =>
        intro i s U nm sk hi hU5 hU13 hx hv hm_16
        exact absurd hm_16 (Nat.not_lt_zero _)
      | succ fu_16 ih_16 =>
        intro i s U nm sk hi hU5 hU13 hx hv hm_16
        refine pw_iload_n dX8_night_16 rfl rfl ?_
        refine pw_aload_n dX8_night_17 rfl rfl ?_
        refine pw_getI dX8_night_18 fa_X8_82 rfl ?_
        refine pw_top (y := nI nh) hU5 ?_
        refine pw_icmp_ge (tgt := 54) dX8_night_21 (by decide) (fun c_21 => ?_) (fun c_21 => ?_)
        · skip
          have hge := nI_geD (by omega) c_21
          refine pw_aload_n dX8_night_54 rfl rfl ?_
          refine pw_dup dX8_night_55 rfl ?_
          refine pw_getI dX8_night_56 fa_X8_88 rfl ?_
          refine pw_top (y := U 0 12) rfl ?_
          refine pw_iconst (v := 1) dX8_night_59 rfl ?_
          refine pw_iadd dX8_night_60 ?_
          refine pw_putI dX8_night_61 fa_X8_88 rfl ?_
          refine pw_mem m_0_6 ?_
          refine pw_iload_n dX8_night_64 rfl rfl ?_
          refine pw_iret dX8_night_65 rfl ?_
          have e0 : nh - i = 0 := by omega
          rw [e0] at hx hv
          exact ⟨by unfold nightX; rw [if_pos h99]; exact hx, nm, sk, by unfold nightV; rw [if_pos h99, ← hv]; rfl⟩
        · skip
          have hlt := nI_ltD (by omega) c_21
          refine pw_aload_n dX8_night_24 rfl rfl ?_
          refine pw_iload_n dX8_night_25 rfl rfl ?_
          refine pw_cVi dX8_night_26 mv_X8_202 ckModel (T_X8_fadesOf (h := i) (okL_V hL hU13) (by omega)) rfl rfl (Nat.le_of_ble_eq_true rfl) (by decide) (fun x_26 m_26 h_26 => ?_)
          obtain ⟨rfl, nm1, sk1, rfl⟩ := h_26
          refine pw_istore_n (ls2 := [(3, _), (0, _), (1, _), (2, _)]) dX8_night_29 rfl (by decide) rfl ?_
          refine pw_aload_n dX8_night_30 rfl rfl ?_
          refine pw_getR dX8_night_31 fa_X8_19 rfl ?_
          refine pw_iconst (v := 5) dX8_night_34 rfl ?_
          refine pw_iload_n dX8_night_35 rfl rfl ?_
          refine pw_imul dX8_night_36 ?_
          refine pw_iconst (v := 1) dX8_night_37 rfl ?_
          refine pw_iadd dX8_night_38 ?_
          refine pw_dup2 dX8_night_39 rfl rfl ?_
          refine pw_iald (j := 5 * i + 1) dX8_night_40 rfl (by show nI 5 * nI i + nI 1 = _; rw [pk_mul, nI_add]) (by omega) ?_
          refine pw_top (y := U 5 i) (hl_at (by decide)) ?_
          refine pw_iload_n dX8_night_41 rfl rfl ?_
          refine pw_isub dX8_night_42 ?_
          refine pw_iast (j := 5 * i + 1) dX8_night_43 rfl (by show nI 5 * nI i + nI 1 = _; rw [pk_mul, nI_add]) (by omega) ?_
          refine pw_mem (m_4 (i := 1) (by decide)) ?_
          refine pw_iload_n dX8_night_44 rfl rfl ?_
          refine pw_iload_n dX8_night_45 rfl rfl ?_
          refine pw_iadd dX8_night_46 ?_
          refine pw_istore_n (ls2 := [(1, _), (3, _), (0, _), (2, _)]) dX8_night_47 rfl (by decide) rfl ?_
          refine pw_iinc (ls2 := [(2, _), (1, _), (3, _), (0, _)]) (v := nI (i + 1)) dX8_night_48 rfl (inc1 i) (by decide) rfl ?_
          refine pw_goto (tgt := 16) dX8_night_51 (by decide) ?_
          refine pw_sub [3, 1, 0] rfl ?_
          exact ih_16 (i + 1) _ _ nm1 sk1 hlt hU5 hU13 (by rw [← hx, show nh - i = (nh - (i + 1)) + 1 by omega]; rfl) (by rw [← hv, show nh - i = (nh - (i + 1)) + 1 by omega]; rfl) (by omega)
    refine pw_sub [2, 1, 0] rfl ?_
    exact L_16 (nh + 1) 0 0 V nm sk (Nat.zero_le _) h5 rfl rfl rfl (by omega)
  · skip
    have c9 : V 0 12 = 99 := c_6
    have h99 : ¬ V 0 12 < 99 := by rw [c9]; decide
    refine pw_bipush (v := (-4)) dX8_night_9 rfl ?_
    refine pw_iret dX8_night_11 rfl ?_
    exact ⟨by unfold nightX; rw [if_neg h99], nm, sk, by unfold nightV; rw [if_neg h99]⟩

