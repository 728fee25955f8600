set_option maxHeartbeats 4000000 in
set_option maxRecDepth 100000 in
theorem T_X8_film {l : Launch} {μ : PM} {B : BK} {V : VW} {nm sk st : Nat → Int32} {sn : Int32} {nj nh : Nat} {s h : Int32} (hL : okL μ B V) (h1 : V 0 1 = nI nj) (hj5 : nj ≤ 5) (h5 : V 0 5 = nI nh) (hh6 : nh ≤ 6) : CT l SM yX8_film cX8_film 4 (some .int) 6 [.ref 0, .int s, .int h] (mm μ V nm sk st sn) (QI fun x m => x = filmX V s h ∧ ∃ nm2 sk2, m = mm (fiM B μ V nj s h) V nm2 sk2 st sn) := by
  refine CT.of rfl (Nat.le_of_ble_eq_true rfl) ?_
  show PW l SM RX8 cX8_film 4 (some .int) 6 _ 0 [(0, .ref 0), (1, .int s), (2, .int h)] [] (mm μ V nm sk st sn)
  refine pw_iload_n dX8_film_0 rfl rfl ?_
  refine pw_iconst (v := 0) dX8_film_1 rfl ?_
  refine pw_iconst (v := 3) dX8_film_2 rfl ?_
  refine pw_cSi dX8_film_3 ms_X8_78 T_X8_in rfl rfl (Nat.le_of_ble_eq_true rfl) (by decide) (fun x_3 m_3 h_3 => ?_)
  obtain ⟨rfl, rfl⟩ := h_3
  refine pw_if_ne (tgt := 12) dX8_film_6 (by decide) (fun c_6 => ?_) (fun c_6 => ?_)
  · skip
    have hb_6 := b2_n c_6
    obtain ⟨s, hs4, rfl⟩ := is_sh hb_6
    have es : inF (nI s) 0 3 = true := hb_6
    refine pw_aload_n dX8_film_12 rfl rfl ?_
    refine pw_iload_n dX8_film_13 rfl rfl ?_
    refine pw_cVi dX8_film_14 mv_X8_167 ckModel T_X8_isHearer rfl rfl (Nat.le_of_ble_eq_true rfl) (by decide) (fun x_14 m_14 h_14 => ?_)
    obtain ⟨rfl, rfl⟩ := h_14
    refine pw_if_ne (tgt := 23) dX8_film_17 (by decide) (fun c_17 => ?_) (fun c_17 => ?_)
    · skip
      have hb_17 := b2_n c_17
      obtain ⟨h, hlh, hsh, rfl⟩ := hr_of h5 hh6 hb_17
      refine pw_aload_n dX8_film_23 rfl rfl ?_
      refine pw_getR dX8_film_24 fa_X8_37 rfl ?_
      refine pw_iload_n dX8_film_27 rfl rfl ?_
      refine pw_iconst (v := 0) dX8_film_28 rfl ?_
      refine pw_iast (j := s) dX8_film_29 rfl rfl (by omega) ?_
      refine pw_mem m_10 ?_
      refine pw_aload_n dX8_film_30 rfl rfl ?_
      refine pw_getR dX8_film_31 fa_X8_40 rfl ?_
      refine pw_iload_n dX8_film_34 rfl rfl ?_
      refine pw_aload_n dX8_film_35 rfl rfl ?_
      refine pw_getI dX8_film_36 fa_X8_75 rfl ?_
      refine pw_top (y := nI nj) h1 ?_
      refine pw_iast (j := s) dX8_film_39 rfl rfl (by omega) ?_
      refine pw_mem m_11 ?_
      refine pw_iconst (v := 0) dX8_film_40 rfl ?_
      refine pw_istore_n (ls2 := [(3, _), (0, _), (1, _), (2, _)]) dX8_film_41 rfl (by decide) rfl ?_
      have L_42 : ∀ (fu_42 : Nat) (k : Nat) (nm sk : Nat → Int32), (k ≤ 40) → 40 - k < fu_42 → PW l SM RX8 cX8_film 4 (some .int) 6 (QI fun x m => x = filmX V (nI s) (nI h) ∧ ∃ nm2 sk2, m = mm (fiM B μ V nj (nI s) (nI h)) V nm2 sk2 st sn) 42 [(0, .ref 0), (1, .int (nI s)), (2, .int (nI h)), (3, .int (nI k))] [] (mm (sr (si (si μ 10 s 0) 11 s (nI nj)) 12 (fiC B V (μ.1 12) s h nj k)) V nm sk st sn) := by
        intro fu_42
        induction fu_42 with
        | zero =>
          intro k nm sk hk hm_42
          exact absurd hm_42 (Nat.not_lt_zero _)
        | succ fu_42 ih_42 =>
          intro k nm sk hk hm_42
          refine pw_iload_n dX8_film_42 rfl rfl ?_
          refine pw_bipush (v := 40) dX8_film_43 rfl ?_
          refine pw_icmp_ge (tgt := 88) dX8_film_45 (by decide) (fun c_45 => ?_) (fun c_45 => ?_)
          · skip
            have hge := nI_geD (n := 40) (by decide) c_45
            refine pw_aload_n dX8_film_88 rfl rfl ?_
            refine pw_getI dX8_film_89 fa_X8_75 rfl ?_
            refine pw_top (y := V 0 1) rfl ?_
            refine pw_iret dX8_film_92 rfl ?_
            have ek : k = 40 := by omega
            subst ek
            exact ⟨by unfold filmX; rw [es, show hrF V (nI h) = true from hb_17]; rfl, _, _, by unfold fiM; rw [es, show hrF V (nI h) = true from hb_17, if_pos rfl, if_pos rfl, cl_nI (show s < 2 ^ 31 by omega), cl_nI (show h < 2 ^ 31 by omega)]⟩
          · skip
            have hlt := nI_ltD (n := 40) (by omega) c_45
            have hL2 : okL (sr (si (si μ 10 s 0) 11 s (nI nj)) 12 (fiC B V (μ.1 12) s h nj k)) B V := hL
            refine pw_aload_n dX8_film_48 rfl rfl ?_
            refine pw_getR dX8_film_49 fa_X8_43 rfl ?_
            refine pw_bipush (v := 40) dX8_film_52 rfl ?_
            refine pw_iload_n dX8_film_54 rfl rfl ?_
            refine pw_imul dX8_film_55 ?_
            refine pw_iload_n dX8_film_56 rfl rfl ?_
            refine pw_iadd dX8_film_57 ?_
            refine pw_iload_n dX8_film_58 rfl rfl ?_
            refine pw_aload_n dX8_film_59 rfl rfl ?_
            refine pw_getI dX8_film_60 fa_X8_75 rfl ?_
            refine pw_top (y := nI nj) h1 ?_
            refine pw_icmp_ge (tgt := 80) dX8_film_63 (by decide) (fun c_63 => ?_) (fun c_63 => ?_)
            · skip
              have hkn : ¬ k < nj := by
                have := nI_geD (by omega) c_63
                omega
              refine pw_iconst (v := 0) dX8_film_80 rfl ?_
              skip
              refine pw_iast (j := 40 * s + k) dX8_film_81 rfl (by show nI 40 * nI s + nI k = _; rw [pk_mul, nI_add]) (by omega) ?_
              refine pw_mem (m_12'.trans (by rw [fiC_s (k := k) (if_neg hkn).symm])) ?_
              refine pw_iinc (ls2 := [(3, _), (0, _), (1, _), (2, _)]) (v := nI (k + 1)) dX8_film_82 rfl (inc1 k) (by decide) rfl ?_
              refine pw_goto (tgt := 42) dX8_film_85 (by decide) ?_
              refine pw_sub [1, 2, 3, 0] rfl ?_
              exact ih_42 (k + 1) nm sk hlt (by omega)
            · skip
              have hkn : k < nj := nI_ltD (by omega) c_63
              refine pw_aload_n dX8_film_66 rfl rfl ?_
              refine pw_iload_n dX8_film_67 rfl rfl ?_
              refine pw_iconst (v := 0) dX8_film_68 rfl ?_
              refine pw_iconst (v := 4) dX8_film_69 rfl ?_
              refine pw_cSi dX8_film_70 ms_X8_164 T_X8_within rfl rfl (Nat.le_of_ble_eq_true rfl) (by decide) (fun x_70 m_70 h_70 => ?_)
              obtain ⟨rfl, rfl⟩ := h_70
              refine pw_top (y := nI k) (cl5 (by omega)) ?_
              refine pw_iload_n dX8_film_73 rfl rfl ?_
              refine pw_cVi dX8_film_74 mv_X8_190 ckModel (T_X8_yieldsOf (j := k) (h := h) (V := V) hL2 (by omega) hsh) rfl rfl (Nat.le_of_ble_eq_true rfl) (by decide) (fun x_74 m_74 h_74 => ?_)
              obtain ⟨rfl, nm1, sk1, rfl⟩ := h_74
              refine pw_goto (tgt := 81) dX8_film_77 (by decide) ?_
              skip
              refine pw_iast (j := 40 * s + k) dX8_film_81 rfl (by show nI 40 * nI s + nI k = _; rw [pk_mul, nI_add]) (by omega) ?_
              refine pw_mem (m_12'.trans (by rw [fiC_s (k := k) (if_pos hkn).symm])) ?_
              refine pw_iinc (ls2 := [(3, _), (0, _), (1, _), (2, _)]) (v := nI (k + 1)) dX8_film_82 rfl (inc1 k) (by decide) rfl ?_
              refine pw_goto (tgt := 42) dX8_film_85 (by decide) ?_
              refine pw_sub [1, 2, 3, 0] rfl ?_
              exact ih_42 (k + 1) nm1 sk1 hlt (by omega)
      refine pw_sub [1, 2, 3, 0] rfl ?_
      have hL0 := L_42 41 0 nm sk (Nat.zero_le _) (by omega)
      rw [fiC_0, show sr (si (si μ 10 s 0) 11 s (nI nj)) 12 (μ.1 12) = si (si μ 10 s 0) 11 s (nI nj) from sr_self (μ := si (si μ 10 s 0) 11 s (nI nj)) (c := 12)] at hL0
      exact hL0
    · skip
      have hb_17 := b2_0 c_17
      refine pw_bipush (v := (-6)) dX8_film_20 rfl ?_
      refine pw_iret dX8_film_22 rfl ?_
      exact ⟨by unfold filmX; rw [es, hb_17]; rfl, _, _, by unfold fiM; rw [es, hb_17]; rfl⟩
  · skip
    have hb_6 := b2_0 c_6
    refine pw_bipush (v := (-2)) dX8_film_9 rfl ?_
    refine pw_iret dX8_film_11 rfl ?_
    exact ⟨by unfold filmX; rw [hb_6]; rfl, _, _, by unfold fiM; rw [hb_6]; rfl⟩

set_option maxHeartbeats 4000000 in
set_option maxRecDepth 100000 in
theorem T_X8_image {l : Launch} {μ : PM} {V : VW} {nm sk st : Nat → Int32} {sn : Int32}  : CT l SM yX8_image cX8_image 2 (some .int) 1 [.ref 0] (mm μ V nm sk st sn) (QI fun x m => x = V 0 1 ∧ m = mm (sr (imH μ V) 9 (imP V (μ.1 9) 5 30 16)) V nm sk st sn) := by
  refine CT.of rfl (Nat.le_of_ble_eq_true rfl) ?_
  show PW l SM RX8 cX8_image 2 (some .int) 1 _ 0 [(0, .ref 0)] [] (mm μ V nm sk st sn)
  refine pw_aload_n dX8_image_0 rfl rfl ?_
  refine pw_iconst (v := 1) dX8_image_1 rfl ?_
  refine pw_putZ dX8_image_2 fa_X8_294 (Or.inr rfl) rfl ?_
  refine pw_mem (m_0 (by decide) (by decide) (by decide) (by decide) (by decide)) ?_
  refine pw_aload_n dX8_image_5 rfl rfl ?_
  refine pw_aload_n dX8_image_6 rfl rfl ?_
  refine pw_getI dX8_image_7 fa_X8_75 rfl ?_
  refine pw_top (y := V 0 1) rfl ?_
  refine pw_putI dX8_image_10 fa_X8_298 rfl ?_
  refine pw_mem (m_0 (by decide) (by decide) (by decide) (by decide) (by decide)) ?_
  refine pw_aload_n dX8_image_13 rfl rfl ?_
  refine pw_aload_n dX8_image_14 rfl rfl ?_
  refine pw_getI dX8_image_15 fa_X8_82 rfl ?_
  refine pw_top (y := V 0 5) rfl ?_
  refine pw_putI dX8_image_18 fa_X8_301 rfl ?_
  refine pw_mem (m_0 (by decide) (by decide) (by decide) (by decide) (by decide)) ?_
  refine pw_aload_n dX8_image_21 rfl rfl ?_
  refine pw_aload_n dX8_image_22 rfl rfl ?_
  refine pw_getI dX8_image_23 fa_X8_88 rfl ?_
  refine pw_top (y := V 0 12) rfl ?_
  refine pw_putI dX8_image_26 fa_X8_304 rfl ?_
  refine pw_mem (m_0 (by decide) (by decide) (by decide) (by decide) (by decide)) ?_
  refine pw_aload_n dX8_image_29 rfl rfl ?_
  refine pw_aload_n dX8_image_30 rfl rfl ?_
  refine pw_getI dX8_image_31 fa_X8_94 rfl ?_
  refine pw_top (y := V 0 13) rfl ?_
  refine pw_putI dX8_image_34 fa_X8_307 rfl ?_
  refine pw_mem (m_0 (by decide) (by decide) (by decide) (by decide) (by decide)) ?_
  refine pw_iconst (v := 0) dX8_image_37 rfl ?_
  refine pw_istore_n (ls2 := [(1, _), (0, _)]) dX8_image_38 rfl (by decide) rfl ?_
  have L_39 : ∀ (fu_39 : Nat) (k : Nat), (k ≤ 5) → 5 - k < fu_39 → PW l SM RX8 cX8_image 2 (some .int) 1 (QI fun x m => x = V 0 1 ∧ m = mm (sr (imH μ V) 9 (imP V (μ.1 9) 5 30 16)) V nm sk st sn) 39 [(0, .ref 0), (1, .int (nI k))] [] (mm (sr (imH μ V) 9 (imP V (μ.1 9) k 0 0)) V nm sk st sn) := by
    intro fu_39
    induction fu_39 with
    | zero =>
      intro k hk hm_39
      exact absurd hm_39 (Nat.not_lt_zero _)
    | succ fu_39 ih_39 =>
      intro k hk hm_39
      refine pw_iload_n dX8_image_39 rfl rfl ?_
      refine pw_iconst (v := 5) dX8_image_40 rfl ?_
      refine pw_icmp_ge (tgt := 62) dX8_image_41 (by decide) (fun c_41 => ?_) (fun c_41 => ?_)
      · skip
        have hge := nI_geD (n := 5) (by decide) c_41
        refine pw_iconst (v := 0) dX8_image_62 rfl ?_
        refine pw_istore_n (ls2 := [(1, _), (0, _)]) dX8_image_63 rfl (by decide) rfl ?_
        have L_64 : ∀ (fu_64 : Nat) (k2 : Nat), (k2 ≤ 30) → 30 - k2 < fu_64 → PW l SM RX8 cX8_image 2 (some .int) 1 (QI fun x m => x = V 0 1 ∧ m = mm (sr (imH μ V) 9 (imP V (μ.1 9) 5 30 16)) V nm sk st sn) 64 [(0, .ref 0), (1, .int (nI k2))] [] (mm (sr (imH μ V) 9 (imP V (μ.1 9) 5 k2 0)) V nm sk st sn) := by
          intro fu_64
          induction fu_64 with
          | zero =>
            intro k2 hk2 hm_64
            exact absurd hm_64 (Nat.not_lt_zero _)
          | succ fu_64 ih_64 =>
            intro k2 hk2 hm_64
            refine pw_iload_n dX8_image_64 rfl rfl ?_
            refine pw_bipush (v := 30) dX8_image_65 rfl ?_
            refine pw_icmp_ge (tgt := 90) dX8_image_67 (by decide) (fun c_67 => ?_) (fun c_67 => ?_)
            · skip
              have hge2 := nI_geD (n := 30) (by decide) c_67
              refine pw_iconst (v := 0) dX8_image_90 rfl ?_
              refine pw_istore_n (ls2 := [(1, _), (0, _)]) dX8_image_91 rfl (by decide) rfl ?_
              have L_92 : ∀ (fu_92 : Nat) (k3 : Nat), (k3 ≤ 16) → 16 - k3 < fu_92 → PW l SM RX8 cX8_image 2 (some .int) 1 (QI fun x m => x = V 0 1 ∧ m = mm (sr (imH μ V) 9 (imP V (μ.1 9) 5 30 16)) V nm sk st sn) 92 [(0, .ref 0), (1, .int (nI k3))] [] (mm (sr (imH μ V) 9 (imP V (μ.1 9) 5 30 k3)) V nm sk st sn) := by
                intro fu_92
                induction fu_92 with
                | zero =>
                  intro k3 hk3 hm_92
                  exact absurd hm_92 (Nat.not_lt_zero _)
                | succ fu_92 ih_92 =>
                  intro k3 hk3 hm_92
                  refine pw_iload_n dX8_image_92 rfl rfl ?_
                  refine pw_bipush (v := 16) dX8_image_93 rfl ?_
                  refine pw_icmp_ge (tgt := 119) dX8_image_95 (by decide) (fun c_95 => ?_) (fun c_95 => ?_)
                  · skip
                    have hge3 := nI_geD (n := 16) (by decide) c_95
                    refine pw_aload_n dX8_image_119 rfl rfl ?_
                    refine pw_getI dX8_image_120 fa_X8_75 rfl ?_
                    refine pw_iret dX8_image_123 rfl ?_
                    rw [show k3 = 16 by omega]
                    exact ⟨rfl, rfl⟩
                  · skip
                    have hlt3 := nI_ltD (n := 16) (by omega) c_95
                    refine pw_aload_n dX8_image_98 rfl rfl ?_
                    refine pw_getR dX8_image_99 fa_X8_34 rfl ?_
                    refine pw_bipush (v := 35) dX8_image_102 rfl ?_
                    refine pw_iload_n dX8_image_104 rfl rfl ?_
                    refine pw_iadd dX8_image_105 ?_
                    refine pw_aload_n dX8_image_106 rfl rfl ?_
                    refine pw_getR dX8_image_107 fa_X8_22 rfl ?_
                    refine pw_iload_n dX8_image_110 rfl rfl ?_
                    refine pw_iald (j := k3) dX8_image_111 rfl rfl (by omega) ?_
                    refine pw_top (y := V 9 k3) rfl ?_
                    refine pw_iast (j := 35 + k3) dX8_image_112 rfl (nI_add 35 k3) (by omega) ?_
                    refine pw_mem m_9' ?_
                    rw [imP_c V _ hlt3]
                    refine pw_iinc (ls2 := [(1, _), (0, _)]) (v := nI (k3 + 1)) dX8_image_113 rfl (inc1 k3) (by decide) rfl ?_
                    refine pw_goto (tgt := 92) dX8_image_116 (by decide) ?_
                    refine pw_sub [1, 0] rfl ?_
                    exact ih_92 (k3 + 1) hlt3 (by omega)
              refine pw_sub [1, 0] rfl ?_
              rw [show k2 = 30 by omega]
              exact L_92 17 0 (Nat.zero_le _) (by omega)
            · skip
              have hlt2 := nI_ltD (n := 30) (by omega) c_67
              refine pw_aload_n dX8_image_70 rfl rfl ?_
              refine pw_getR dX8_image_71 fa_X8_34 rfl ?_
              refine pw_iconst (v := 5) dX8_image_74 rfl ?_
              refine pw_iload_n dX8_image_75 rfl rfl ?_
              refine pw_iadd dX8_image_76 ?_
              refine pw_aload_n dX8_image_77 rfl rfl ?_
              refine pw_getR dX8_image_78 fa_X8_19 rfl ?_
              refine pw_iload_n dX8_image_81 rfl rfl ?_
              refine pw_iald (j := k2) dX8_image_82 rfl rfl (by omega) ?_
              refine pw_top (y := hl V k2) rfl ?_
              refine pw_iast (j := 5 + k2) dX8_image_83 rfl (nI_add 5 k2) (by omega) ?_
              refine pw_mem m_9' ?_
              rw [imP_b V _ hlt2]
              refine pw_iinc (ls2 := [(1, _), (0, _)]) (v := nI (k2 + 1)) dX8_image_84 rfl (inc1 k2) (by decide) rfl ?_
              refine pw_goto (tgt := 64) dX8_image_87 (by decide) ?_
              refine pw_sub [1, 0] rfl ?_
              exact ih_64 (k2 + 1) hlt2 (by omega)
        refine pw_sub [1, 0] rfl ?_
        rw [show k = 5 by omega]
        exact L_64 31 0 (Nat.zero_le _) (by omega)
      · skip
        have hlt := nI_ltD (n := 5) (by omega) c_41
        refine pw_aload_n dX8_image_44 rfl rfl ?_
        refine pw_getR dX8_image_45 fa_X8_34 rfl ?_
        refine pw_iload_n dX8_image_48 rfl rfl ?_
        refine pw_aload_n dX8_image_49 rfl rfl ?_
        refine pw_getR dX8_image_50 fa_X8_16 rfl ?_
        refine pw_iload_n dX8_image_53 rfl rfl ?_
        refine pw_iald (j := k) dX8_image_54 rfl rfl (by omega) ?_
        refine pw_top (y := V 3 k) rfl ?_
        refine pw_iast (j := k) dX8_image_55 rfl rfl (by omega) ?_
        refine pw_mem m_9' ?_
        rw [imP_a V _ hlt]
        refine pw_iinc (ls2 := [(1, _), (0, _)]) (v := nI (k + 1)) dX8_image_56 rfl (inc1 k) (by decide) rfl ?_
        refine pw_goto (tgt := 39) dX8_image_59 (by decide) ?_
        refine pw_sub [1, 0] rfl ?_
        exact ih_39 (k + 1) hlt (by omega)
  refine pw_sub [1, 0] rfl ?_
  have hL0 := L_39 6 0 (Nat.zero_le _) (by omega)
  rw [imP_0, show sr (imH μ V) 9 (μ.1 9) = imH μ V from sr_self (μ := imH μ V) (c := 9)] at hL0
  exact hL0

set_option maxHeartbeats 4000000 in
set_option maxRecDepth 100000 in
theorem T_X8_back {l : Launch} {μ : PM} {V : VW} {nm sk st : Nat → Int32} {sn : Int32}  : CT l SM yX8_back cX8_back 2 (some .int) 1 [.ref 0] (mm μ V nm sk st sn) (QI fun x m => x = (if μ.1 0 14 = 0 then -3 else μ.1 0 15) ∧ m = mm μ (if μ.1 0 14 = 0 then V else bkV μ V) nm sk st sn) := by
  refine CT.of rfl (Nat.le_of_ble_eq_true rfl) ?_
  show PW l SM RX8 cX8_back 2 (some .int) 1 _ 0 [(0, .ref 0)] [] (mm μ V nm sk st sn)
  refine pw_aload_n dX8_back_0 rfl rfl ?_
  refine pw_getI dX8_back_1 fa_X8_294 rfl ?_
  refine pw_if_ne (tgt := 10) dX8_back_4 (by decide) (fun c_4 => ?_) (fun c_4 => ?_)
  · skip
    skip
    refine pw_aload_n dX8_back_10 rfl rfl ?_
    refine pw_aload_n dX8_back_11 rfl rfl ?_
    refine pw_getI dX8_back_12 fa_X8_298 rfl ?_
    refine pw_top (y := μ.1 0 15) rfl ?_
    refine pw_putI dX8_back_15 fa_X8_75 rfl ?_
    refine pw_mem m_0_0 ?_
    refine pw_aload_n dX8_back_18 rfl rfl ?_
    refine pw_aload_n dX8_back_19 rfl rfl ?_
    refine pw_getI dX8_back_20 fa_X8_301 rfl ?_
    refine pw_top (y := μ.1 0 16) rfl ?_
    refine pw_putI dX8_back_23 fa_X8_82 rfl ?_
    refine pw_mem m_0_4 ?_
    refine pw_aload_n dX8_back_26 rfl rfl ?_
    refine pw_aload_n dX8_back_27 rfl rfl ?_
    refine pw_getI dX8_back_28 fa_X8_304 rfl ?_
    refine pw_top (y := μ.1 0 17) rfl ?_
    refine pw_putI dX8_back_31 fa_X8_88 rfl ?_
    refine pw_mem m_0_6 ?_
    refine pw_aload_n dX8_back_34 rfl rfl ?_
    refine pw_aload_n dX8_back_35 rfl rfl ?_
    refine pw_getI dX8_back_36 fa_X8_307 rfl ?_
    refine pw_top (y := μ.1 0 18) rfl ?_
    refine pw_putI dX8_back_39 fa_X8_94 rfl ?_
    refine pw_mem m_0_13 ?_
    refine pw_iconst (v := 0) dX8_back_42 rfl ?_
    refine pw_istore_n (ls2 := [(1, _), (0, _)]) dX8_back_43 rfl (by decide) rfl ?_
    have L_44 : ∀ (fu_44 : Nat) (k : Nat), (k ≤ 5) → 5 - k < fu_44 → PW l SM RX8 cX8_back 2 (some .int) 1 (QI fun x m => x = (if μ.1 0 14 = 0 then -3 else μ.1 0 15) ∧ m = mm μ (if μ.1 0 14 = 0 then V else bkV μ V) nm sk st sn) 44 [(0, .ref 0), (1, .int (nI k))] [] (mm μ (bkR (μ.1 9) (bkV0 μ V) k 0 0) nm sk st sn) := by
      intro fu_44
      induction fu_44 with
      | zero =>
        intro k hk hm_44
        exact absurd hm_44 (Nat.not_lt_zero _)
      | succ fu_44 ih_44 =>
        intro k hk hm_44
        refine pw_iload_n dX8_back_44 rfl rfl ?_
        refine pw_iconst (v := 5) dX8_back_45 rfl ?_
        refine pw_icmp_ge (tgt := 67) dX8_back_46 (by decide) (fun c_46 => ?_) (fun c_46 => ?_)
        · skip
          have hge := nI_geD (n := 5) (by decide) c_46
          refine pw_iconst (v := 0) dX8_back_67 rfl ?_
          refine pw_istore_n (ls2 := [(1, _), (0, _)]) dX8_back_68 rfl (by decide) rfl ?_
          have L_69 : ∀ (fu_69 : Nat) (k2 : Nat), (k2 ≤ 30) → 30 - k2 < fu_69 → PW l SM RX8 cX8_back 2 (some .int) 1 (QI fun x m => x = (if μ.1 0 14 = 0 then -3 else μ.1 0 15) ∧ m = mm μ (if μ.1 0 14 = 0 then V else bkV μ V) nm sk st sn) 69 [(0, .ref 0), (1, .int (nI k2))] [] (mm μ (bkR (μ.1 9) (bkV0 μ V) 5 k2 0) nm sk st sn) := by
            intro fu_69
            induction fu_69 with
            | zero =>
              intro k2 hk2 hm_69
              exact absurd hm_69 (Nat.not_lt_zero _)
            | succ fu_69 ih_69 =>
              intro k2 hk2 hm_69
              refine pw_iload_n dX8_back_69 rfl rfl ?_
              refine pw_bipush (v := 30) dX8_back_70 rfl ?_
              refine pw_icmp_ge (tgt := 95) dX8_back_72 (by decide) (fun c_72 => ?_) (fun c_72 => ?_)
              · skip
                have hge2 := nI_geD (n := 30) (by decide) c_72
                refine pw_iconst (v := 0) dX8_back_95 rfl ?_
                refine pw_istore_n (ls2 := [(1, _), (0, _)]) dX8_back_96 rfl (by decide) rfl ?_
                have L_97 : ∀ (fu_97 : Nat) (k3 : Nat), (k3 ≤ 16) → 16 - k3 < fu_97 → PW l SM RX8 cX8_back 2 (some .int) 1 (QI fun x m => x = (if μ.1 0 14 = 0 then -3 else μ.1 0 15) ∧ m = mm μ (if μ.1 0 14 = 0 then V else bkV μ V) nm sk st sn) 97 [(0, .ref 0), (1, .int (nI k3))] [] (mm μ (bkR (μ.1 9) (bkV0 μ V) 5 30 k3) nm sk st sn) := by
                  intro fu_97
                  induction fu_97 with
                  | zero =>
                    intro k3 hk3 hm_97
                    exact absurd hm_97 (Nat.not_lt_zero _)
                  | succ fu_97 ih_97 =>
                    intro k3 hk3 hm_97
                    refine pw_iload_n dX8_back_97 rfl rfl ?_
                    refine pw_bipush (v := 16) dX8_back_98 rfl ?_
                    refine pw_icmp_ge (tgt := 124) dX8_back_100 (by decide) (fun c_100 => ?_) (fun c_100 => ?_)
                    · skip
                      have hge3 := nI_geD (n := 16) (by decide) c_100
                      refine pw_aload_n dX8_back_124 rfl rfl ?_
                      refine pw_getI dX8_back_125 fa_X8_75 rfl ?_
                      refine pw_iret dX8_back_128 rfl ?_
                      have c4 : ¬ μ.1 0 14 = 0 := c_4
                      rw [show k3 = 16 by omega]
                      exact ⟨by rw [if_neg c4]; rfl, by rw [if_neg c4]; rfl⟩
                    · skip
                      have hlt3 := nI_ltD (n := 16) (by omega) c_100
                      refine pw_aload_n dX8_back_103 rfl rfl ?_
                      refine pw_getR dX8_back_104 fa_X8_22 rfl ?_
                      refine pw_iload_n dX8_back_107 rfl rfl ?_
                      refine pw_aload_n dX8_back_108 rfl rfl ?_
                      refine pw_getR dX8_back_109 fa_X8_34 rfl ?_
                      refine pw_bipush (v := 35) dX8_back_112 rfl ?_
                      refine pw_iload_n dX8_back_114 rfl rfl ?_
                      refine pw_iadd dX8_back_115 ?_
                      refine pw_iald (j := 35 + k3) dX8_back_116 rfl (nI_add 35 k3) (by omega) ?_
                      refine pw_top (y := μ.1 9 (35 + k3)) rfl ?_
                      refine pw_iast (j := k3) dX8_back_117 rfl rfl (by omega) ?_
                      refine pw_mem (m_5.trans (by rw [bkR_c])) ?_
                      refine pw_iinc (ls2 := [(1, _), (0, _)]) (v := nI (k3 + 1)) dX8_back_118 rfl (inc1 k3) (by decide) rfl ?_
                      refine pw_goto (tgt := 97) dX8_back_121 (by decide) ?_
                      refine pw_sub [1, 0] rfl ?_
                      exact ih_97 (k3 + 1) hlt3 (by omega)
                refine pw_sub [1, 0] rfl ?_
                rw [show k2 = 30 by omega]
                exact L_97 17 0 (Nat.zero_le _) (by omega)
              · skip
                have hlt2 := nI_ltD (n := 30) (by omega) c_72
                refine pw_aload_n dX8_back_75 rfl rfl ?_
                refine pw_getR dX8_back_76 fa_X8_19 rfl ?_
                refine pw_iload_n dX8_back_79 rfl rfl ?_
                refine pw_aload_n dX8_back_80 rfl rfl ?_
                refine pw_getR dX8_back_81 fa_X8_34 rfl ?_
                refine pw_iconst (v := 5) dX8_back_84 rfl ?_
                refine pw_iload_n dX8_back_85 rfl rfl ?_
                refine pw_iadd dX8_back_86 ?_
                refine pw_iald (j := 5 + k2) dX8_back_87 rfl (nI_add 5 k2) (by omega) ?_
                refine pw_top (y := μ.1 9 (5 + k2)) rfl ?_
                refine pw_iast (j := 5 * (k2 / 5) + k2 % 5) dX8_back_88 rfl (by rw [show 5 * (k2 / 5) + k2 % 5 = k2 by omega]) (by omega) ?_
                refine pw_mem ((m_4 (Nat.mod_lt _ (by decide))).trans (by rw [bkR_b])) ?_
                refine pw_iinc (ls2 := [(1, _), (0, _)]) (v := nI (k2 + 1)) dX8_back_89 rfl (inc1 k2) (by decide) rfl ?_
                refine pw_goto (tgt := 69) dX8_back_92 (by decide) ?_
                refine pw_sub [1, 0] rfl ?_
                exact ih_69 (k2 + 1) hlt2 (by omega)
          refine pw_sub [1, 0] rfl ?_
          rw [show k = 5 by omega]
          exact L_69 31 0 (Nat.zero_le _) (by omega)
        · skip
          have hlt := nI_ltD (n := 5) (by omega) c_46
          refine pw_aload_n dX8_back_49 rfl rfl ?_
          refine pw_getR dX8_back_50 fa_X8_16 rfl ?_
          refine pw_iload_n dX8_back_53 rfl rfl ?_
          refine pw_aload_n dX8_back_54 rfl rfl ?_
          refine pw_getR dX8_back_55 fa_X8_34 rfl ?_
          refine pw_iload_n dX8_back_58 rfl rfl ?_
          refine pw_iald (j := k) dX8_back_59 rfl rfl (by omega) ?_
          refine pw_top (y := μ.1 9 k) rfl ?_
          refine pw_iast (j := k) dX8_back_60 rfl rfl (by omega) ?_
          refine pw_mem (m_3.trans (by rw [bkR_a])) ?_
          refine pw_iinc (ls2 := [(1, _), (0, _)]) (v := nI (k + 1)) dX8_back_61 rfl (inc1 k) (by decide) rfl ?_
          refine pw_goto (tgt := 44) dX8_back_64 (by decide) ?_
          refine pw_sub [1, 0] rfl ?_
          exact ih_44 (k + 1) hlt (by omega)
    refine pw_sub [1, 0] rfl ?_
    have hL0 := L_44 6 0 (Nat.zero_le _) (by omega)
    rw [bkR_0] at hL0
    exact hL0
  · skip
    refine pw_bipush (v := (-3)) dX8_back_7 rfl ?_
    refine pw_iret dX8_back_9 rfl ?_
    have c4 : μ.1 0 14 = 0 := c_4
    exact ⟨by rw [if_pos c4], by rw [if_pos c4]⟩

set_option maxHeartbeats 4000000 in
set_option maxRecDepth 100000 in
theorem T_X8_jokesBy {l : Launch} {μ : PM} {V : VW} {nm sk st : Nat → Int32} {sn : Int32} {nj : Nat} {s so fr n : Int32} (h1 : V 0 1 = nI nj) (hj5 : nj ≤ 5) (hsh : shOM μ) : CT l SM yX8_jokesBy cX8_jokesBy 9 (some .int) 3 [.ref 0, .int s, .int so, .int fr, .int n] (mm μ V nm sk st sn) (QI fun x m => x = (jbFM V (μ.1 10) (μ.1 11) (μ.1 12) nj s so fr n).1 ∧ m = mm μ (jbFM V (μ.1 10) (μ.1 11) (μ.1 12) nj s so fr n).2 nm sk st sn) := by
  refine CT.of rfl (Nat.le_of_ble_eq_true rfl) ?_
  show PW l SM RX8 cX8_jokesBy 9 (some .int) 3 _ 0 [(0, .ref 0), (1, .int s), (2, .int so), (3, .int fr), (4, .int n)] [] (mm μ V nm sk st sn)
  refine pw_iload_n dX8_jokesBy_0 rfl rfl ?_
  refine pw_iconst (v := 0) dX8_jokesBy_1 rfl ?_
  refine pw_iconst (v := 3) dX8_jokesBy_2 rfl ?_
  refine pw_cSi dX8_jokesBy_3 ms_X8_78 T_X8_in rfl rfl (Nat.le_of_ble_eq_true rfl) (by decide) (fun x_3 m_3 h_3 => ?_)
  obtain ⟨rfl, rfl⟩ := h_3
  refine pw_if_eq (tgt := 28) dX8_jokesBy_6 (by decide) (fun c_6 => ?_) (fun c_6 => ?_)
  · skip
    have hb_6 := b2_0 c_6
    refine pw_bipush (v := (-2)) dX8_jokesBy_28 rfl ?_
    refine pw_iret dX8_jokesBy_30 rfl ?_
    exact ⟨by unfold jbFM; rw [hb_6]; rfl, by unfold jbFM; rw [hb_6]; rfl⟩
  · skip
    have hb_6 := b2_n c_6
    refine pw_iload_n dX8_jokesBy_9 rfl rfl ?_
    refine pw_iconst (v := 0) dX8_jokesBy_10 rfl ?_
    refine pw_iconst (v := 2) dX8_jokesBy_11 rfl ?_
    refine pw_cSi dX8_jokesBy_12 ms_X8_78 T_X8_in rfl rfl (Nat.le_of_ble_eq_true rfl) (by decide) (fun x_12 m_12 h_12 => ?_)
    obtain ⟨rfl, rfl⟩ := h_12
    refine pw_if_eq (tgt := 28) dX8_jokesBy_15 (by decide) (fun c_15 => ?_) (fun c_15 => ?_)
    · skip
      have hb_15 := b2_0 c_15
      refine pw_bipush (v := (-2)) dX8_jokesBy_28 rfl ?_
      refine pw_iret dX8_jokesBy_30 rfl ?_
      exact ⟨by unfold jbFM; rw [hb_6, hb_15]; rfl, by unfold jbFM; rw [hb_6, hb_15]; rfl⟩
    · skip
      have hb_15 := b2_n c_15
      refine pw_iload dX8_jokesBy_18 rfl ?_
      refine pw_iconst (v := 0) dX8_jokesBy_20 rfl ?_
      refine pw_iconst (v := 5) dX8_jokesBy_21 rfl ?_
      refine pw_cSi dX8_jokesBy_22 ms_X8_78 T_X8_in rfl rfl (Nat.le_of_ble_eq_true rfl) (by decide) (fun x_22 m_22 h_22 => ?_)
      obtain ⟨rfl, rfl⟩ := h_22
      refine pw_if_ne (tgt := 31) dX8_jokesBy_25 (by decide) (fun c_25 => ?_) (fun c_25 => ?_)
      · skip
        have hb_25 := b2_n c_25
        obtain ⟨s, hs4, rfl⟩ := is_sh hb_6
        obtain ⟨z, hz40, hz⟩ := hsh s hs4
        obtain ⟨n, hn5, rfl⟩ := in_trueL (n := 5) hb_25 (by decide)
        have e1 : inF (nI s) 0 3 = true := hb_6
        have e3 : inF (nI n) 0 5 = true := hb_25
        have hj0 : jbFM V (μ.1 10) (μ.1 11) (μ.1 12) nj (nI s) so fr (nI n) = if μ.1 10 s = -1 then (-11, V) else if μ.1 10 s = so then jbLM (μ.1 12) s z n fr V nj 0 else (-13, V) := by
          unfold jbFM
          rw [e1, hb_15, e3, Bool.and_self, Bool.and_self, if_pos rfl, cl_nI (by omega), cl_nI (by omega), hz, cl_nI (by omega)]
        refine pw_aload_n dX8_jokesBy_31 rfl rfl ?_
        refine pw_getR dX8_jokesBy_32 fa_X8_37 rfl ?_
        refine pw_iload_n dX8_jokesBy_35 rfl rfl ?_
        refine pw_iald (j := s) dX8_jokesBy_36 rfl rfl (by omega) ?_
        refine pw_top (y := μ.1 10 s) rfl ?_
        refine pw_iconst (v := (-1)) dX8_jokesBy_37 rfl ?_
        refine pw_icmp_ne (tgt := 44) dX8_jokesBy_38 (by decide) (fun c_38 => ?_) (fun c_38 => ?_)
        · skip
          refine pw_aload_n dX8_jokesBy_44 rfl rfl ?_
          refine pw_getR dX8_jokesBy_45 fa_X8_37 rfl ?_
          refine pw_iload_n dX8_jokesBy_48 rfl rfl ?_
          refine pw_iald (j := s) dX8_jokesBy_49 rfl rfl (by omega) ?_
          refine pw_top (y := μ.1 10 s) rfl ?_
          refine pw_iload_n dX8_jokesBy_50 rfl rfl ?_
          refine pw_icmp_eq (tgt := 57) dX8_jokesBy_51 (by decide) (fun c_51 => ?_) (fun c_51 => ?_)
          · skip
            refine pw_iconst (v := 0) dX8_jokesBy_57 rfl ?_
            refine pw_istore (ls2 := [(5, _), (0, _), (1, _), (2, _), (3, _), (4, _)]) dX8_jokesBy_58 (by decide) rfl ?_
            refine pw_iconst (v := 0) dX8_jokesBy_60 rfl ?_
            refine pw_istore (ls2 := [(6, _), (5, _), (0, _), (1, _), (2, _), (3, _), (4, _)]) dX8_jokesBy_61 (by decide) rfl ?_
            have L_63 : ∀ (fu_63 : Nat) (k c : Nat) (pl : Int32) (nu : Nat) (U : VW), (k ≤ n) → (c ≤ k) → ((k = 0 ∧ pl = fr) ∨ ∃ a, fr = nI a ∧ a + 2 * k ≤ 40 ∧ pl = nI (a + 2 * k)) → (U 0 1 = nI nu) → (nu ≤ 5) → (jbLM (μ.1 12) s z (n - k) pl U nu c = jbLM (μ.1 12) s z n fr V nj 0) → n - k < fu_63 → PW l SM RX8 cX8_jokesBy 9 (some .int) 3 (QI fun x m => x = (jbFM V (μ.1 10) (μ.1 11) (μ.1 12) nj (nI s) so fr (nI n)).1 ∧ m = mm μ (jbFM V (μ.1 10) (μ.1 11) (μ.1 12) nj (nI s) so fr (nI n)).2 nm sk st sn) 63 [(0, .ref 0), (1, .int (nI s)), (2, .int so), (3, .int fr), (4, .int (nI n)), (5, .int (nI c)), (6, .int (nI k))] [] (mm μ U nm sk st sn) := by
              intro fu_63
              induction fu_63 with
              | zero =>
                intro k c pl nu U hk hck hpl hU1 hnu hx hm_63
                exact absurd hm_63 (Nat.not_lt_zero _)
              | succ fu_63 ih_63 =>
                intro k c pl nu U hk hck hpl hU1 hnu hx hm_63
                refine pw_iload dX8_jokesBy_63 rfl ?_
                refine pw_iload dX8_jokesBy_65 rfl ?_
                refine pw_icmp_ge (tgt := 152) dX8_jokesBy_67 (by decide) (fun c_67 => ?_) (fun c_67 => ?_)
                · skip
                  have hge := nI_geD (by omega) c_67
                  refine pw_iload dX8_jokesBy_152 rfl ?_
                  refine pw_iret dX8_jokesBy_154 rfl ?_
                  rw [show n - k = 0 by omega] at hx
                  change (nI c, U) = _ at hx
                  rw [if_neg c_38, if_pos c_51, ← hx] at hj0
                  exact ⟨by rw [hj0], by rw [hj0]⟩
                · skip
                  have hlt := nI_ltD (by omega) c_67
                  have hx2 := hx
                  rw [show n - k = (n - (k + 1)) + 1 by omega] at hx2
                  change (if runF pl 2 (nI z) then jbLM (μ.1 12) s z _ (pl + 2) (jokeV U nu (numF (μ.1 12) s z pl) (numF (μ.1 12) s z (pl + 1))) (jnN nu (numF (μ.1 12) s z pl) (numF (μ.1 12) s z (pl + 1))) (if aJx nu (numF (μ.1 12) s z pl) (numF (μ.1 12) s z (pl + 1)) < 0 then c else c + 1) else (-12, U)) = _ at hx2
                  refine pw_iload_n dX8_jokesBy_70 rfl rfl ?_
                  refine pw_iconst (v := 2) dX8_jokesBy_71 rfl ?_
                  refine pw_iload dX8_jokesBy_72 rfl ?_
                  refine pw_imul dX8_jokesBy_74 ?_
                  refine pw_iadd dX8_jokesBy_75 ?_
                  refine pw_istore (ls2 := [(7, _), (0, _), (1, _), (2, _), (3, _), (4, _), (5, _), (6, _)]) dX8_jokesBy_76 (by decide) rfl ?_
                  refine pw_iload_n dX8_jokesBy_78 rfl rfl ?_
                  refine pw_if_lt (tgt := 101) dX8_jokesBy_79 (by decide) (fun c_79 => ?_) (fun c_79 => ?_)
                  · skip
                    have hrf : runF pl 2 (nI z) = false := by
                      rcases hpl with ⟨q1, q2⟩ | ⟨a, q1, q2, q3⟩
                      · rw [q2]; unfold runF; rw [decide_eq_false (show ¬ (0 : Int32) ≤ fr from Int32.not_le.mpr c_79)]; simp only [Bool.false_and, Bool.and_false]
                      · rw [q1] at c_79; exact absurd c_79 (nI_pos (by omega))
                    rw [hrf, if_neg Bool.false_ne_true] at hx2
                    refine pw_bipush (v := (-12)) dX8_jokesBy_101 rfl ?_
                    refine pw_iret dX8_jokesBy_103 rfl ?_
                    rw [if_neg c_38, if_pos c_51, ← hx2] at hj0
                    exact ⟨by rw [hj0], by rw [hj0]⟩
                  · skip
                    obtain ⟨a, ha, rfl⟩ := nI_of c_79
                    obtain ⟨ha2, hpe⟩ : a + 2 * k < 2 ^ 31 ∧ pl = nI (a + 2 * k) := by
                      rcases hpl with ⟨q1, q2⟩ | ⟨a2, q1, q2, q3⟩
                      · exact ⟨by omega, by rw [q2, q1, Nat.mul_zero, Nat.add_zero]⟩
                      · have : a = a2 := (nI_eq ha (by omega)).mp q1
                        subst this
                        exact ⟨by omega, q3⟩
                    rw [hpe, runN ha2 hz40] at hx2
                    refine pw_iload dX8_jokesBy_82 rfl ?_
                    refine pw_iload_n dX8_jokesBy_84 rfl rfl ?_
                    have eix : nI a + nI 2 * nI k = nI (a + 2 * k) := by rw [pk_mul, nI_add]
                    refine pw_top2 (y := nI (a + 2 * k)) eix ?_
                    refine pw_icmp_lt (tgt := 101) dX8_jokesBy_85 (by decide) (fun c_85 => ?_) (fun c_85 => ?_)
                    · skip
                      exact absurd c_85 (nI_nlt (by omega) (by omega))
                    · skip
                      refine pw_iload dX8_jokesBy_88 rfl ?_
                      refine pw_aload_n dX8_jokesBy_90 rfl rfl ?_
                      refine pw_getR dX8_jokesBy_91 fa_X8_40 rfl ?_
                      refine pw_iload_n dX8_jokesBy_94 rfl rfl ?_
                      refine pw_iald (j := s) dX8_jokesBy_95 rfl rfl (by omega) ?_
                      refine pw_top (y := nI z) hz ?_
                      refine pw_iconst (v := 2) dX8_jokesBy_96 rfl ?_
                      refine pw_isub dX8_jokesBy_97 ?_
                      refine pw_top2 (y := nI (a + 2 * k)) eix ?_
                      refine pw_icmp_le (tgt := 104) dX8_jokesBy_98 (by decide) (fun c_98 => ?_) (fun c_98 => ?_)
                      · skip
                        have hA : a + 2 * k + 2 ≤ z := Classical.byContradiction (fun g => Int32.not_lt.mpr c_98 ((z2_lt ha2 hz40).mpr g))
                        rw [decide_eq_true hA, if_pos rfl] at hx2
                        have en1 : numF (μ.1 12) s z (nI (a + 2 * k)) = μ.1 12 (40 * s + (a + 2 * k)) := by unfold numF; rw [in_t (by omega) (by omega), if_pos rfl]; show μ.1 12 (40 * s + cl (nI (a + 2 * k))) = _; rw [cl_nI ha2]
                        have en2 : numF (μ.1 12) s z (nI (a + 2 * k) + 1) = μ.1 12 (40 * s + (a + 2 * k) + 1) := by rw [nI_1]; unfold numF; rw [in_t (by omega) (by omega), if_pos rfl]; show μ.1 12 (40 * s + cl (nI (a + 2 * k + 1))) = _; rw [cl_nI (by omega)]; rfl
                        rw [en1, en2] at hx2
                        refine pw_bipush (v := 40) dX8_jokesBy_104 rfl ?_
                        refine pw_iload_n dX8_jokesBy_106 rfl rfl ?_
                        refine pw_imul dX8_jokesBy_107 ?_
                        refine pw_iload dX8_jokesBy_108 rfl ?_
                        refine pw_iadd dX8_jokesBy_110 ?_
                        refine pw_top (y := nI (40 * s + (a + 2 * k))) (by show nI 40 * nI s + (nI a + nI 2 * nI k) = _; rw [eix, pk_mul, nI_add]) ?_
                        refine pw_istore (ls2 := [(8, _), (7, _), (0, _), (1, _), (2, _), (3, _), (4, _), (5, _), (6, _)]) dX8_jokesBy_111 (by decide) rfl ?_
                        refine pw_iload dX8_jokesBy_113 rfl ?_
                        refine pw_aload_n dX8_jokesBy_115 rfl rfl ?_
                        refine pw_aload_n dX8_jokesBy_116 rfl rfl ?_
                        refine pw_getR dX8_jokesBy_117 fa_X8_43 rfl ?_
                        refine pw_iload dX8_jokesBy_120 rfl ?_
                        refine pw_iald (j := 40 * s + (a + 2 * k)) dX8_jokesBy_122 rfl rfl (by omega) ?_
                        refine pw_top (y := μ.1 12 (40 * s + (a + 2 * k))) rfl ?_
                        refine pw_aload_n dX8_jokesBy_123 rfl rfl ?_
                        refine pw_getR dX8_jokesBy_124 fa_X8_43 rfl ?_
                        refine pw_iload dX8_jokesBy_127 rfl ?_
                        refine pw_iconst (v := 1) dX8_jokesBy_129 rfl ?_
                        refine pw_iadd dX8_jokesBy_130 ?_
                        refine pw_iald (j := 40 * s + (a + 2 * k) + 1) dX8_jokesBy_131 rfl (nI_1 _) (by omega) ?_
                        refine pw_top (y := μ.1 12 (40 * s + (a + 2 * k) + 1)) rfl ?_
                        refine pw_cVi dX8_jokesBy_132 mv_X8_310 ckModel (T_X8_joke (V := U) hU1 hnu) rfl rfl (Nat.le_of_ble_eq_true rfl) (by decide) (fun x_132 m_132 h_132 => ?_)
                        obtain ⟨rfl, rfl⟩ := h_132
                        refine pw_if_lt (tgt := 142) dX8_jokesBy_135 (by decide) (fun c_135 => ?_) (fun c_135 => ?_)
                        · skip
                          rw [if_pos c_135] at hx2
                          refine pw_iconst (v := 0) dX8_jokesBy_142 rfl ?_
                          refine pw_iadd dX8_jokesBy_143 ?_
                          refine pw_top (y := nI c) (Int32.add_zero _) ?_
                          refine pw_istore (ls2 := [(5, _), (8, _), (7, _), (0, _), (1, _), (2, _), (3, _), (4, _), (6, _)]) dX8_jokesBy_144 (by decide) rfl ?_
                          refine pw_iinc (ls2 := [(6, _), (5, _), (8, _), (7, _), (0, _), (1, _), (2, _), (3, _), (4, _)]) (v := nI (k + 1)) dX8_jokesBy_146 rfl (inc1 k) (by decide) rfl ?_
                          refine pw_goto (tgt := 63) dX8_jokesBy_149 (by decide) ?_
                          refine pw_sub [4, 5, 6, 7, 8, 1, 0] rfl ?_
                          exact ih_63 (k + 1) (c) (nI (a + 2 * k) + 2) (jnN nu _ _) _ hlt (by omega) (Or.inr ⟨a, rfl, by omega, by show nI (a + 2 * k) + nI 2 = _; rw [nI_add]; rfl⟩) (jokeV_1 hU1) (jnN_b hnu) hx2 (by omega)
                        · skip
                          rw [if_neg c_135] at hx2
                          refine pw_iconst (v := 1) dX8_jokesBy_138 rfl ?_
                          refine pw_goto (tgt := 143) dX8_jokesBy_139 (by decide) ?_
                          refine pw_iadd dX8_jokesBy_143 ?_
                          refine pw_top (y := nI (c + 1)) (nI_1 c) ?_
                          refine pw_istore (ls2 := [(5, _), (8, _), (7, _), (0, _), (1, _), (2, _), (3, _), (4, _), (6, _)]) dX8_jokesBy_144 (by decide) rfl ?_
                          refine pw_iinc (ls2 := [(6, _), (5, _), (8, _), (7, _), (0, _), (1, _), (2, _), (3, _), (4, _)]) (v := nI (k + 1)) dX8_jokesBy_146 rfl (inc1 k) (by decide) rfl ?_
                          refine pw_goto (tgt := 63) dX8_jokesBy_149 (by decide) ?_
                          refine pw_sub [4, 5, 6, 7, 8, 1, 0] rfl ?_
                          exact ih_63 (k + 1) (c + 1) (nI (a + 2 * k) + 2) (jnN nu _ _) _ hlt (by omega) (Or.inr ⟨a, rfl, by omega, by show nI (a + 2 * k) + nI 2 = _; rw [nI_add]; rfl⟩) (jokeV_1 hU1) (jnN_b hnu) hx2 (by omega)
                      · skip
                        rw [decide_eq_false ((z2_lt ha2 hz40).mp (Int32.not_le.mp c_98)), if_neg Bool.false_ne_true] at hx2
                        refine pw_bipush (v := (-12)) dX8_jokesBy_101 rfl ?_
                        refine pw_iret dX8_jokesBy_103 rfl ?_
                        rw [if_neg c_38, if_pos c_51, ← hx2] at hj0
                        exact ⟨by rw [hj0], by rw [hj0]⟩
            refine pw_sub [2, 3, 4, 5, 6, 1, 0] rfl ?_
            exact L_63 (n + 1) 0 0 fr nj V (Nat.zero_le _) (Nat.le_refl _) (Or.inl ⟨rfl, rfl⟩) h1 hj5 rfl (by omega)
          · skip
            refine pw_bipush (v := (-13)) dX8_jokesBy_54 rfl ?_
            refine pw_iret dX8_jokesBy_56 rfl ?_
            rw [if_neg c_38, if_neg c_51] at hj0
            exact ⟨by rw [hj0], by rw [hj0]⟩
        · skip
          refine pw_bipush (v := (-11)) dX8_jokesBy_41 rfl ?_
          refine pw_iret dX8_jokesBy_43 rfl ?_
          rw [if_pos c_38] at hj0
          exact ⟨by rw [hj0], by rw [hj0]⟩
      · skip
        have hb_25 := b2_0 c_25
        refine pw_bipush (v := (-2)) dX8_jokesBy_28 rfl ?_
        refine pw_iret dX8_jokesBy_30 rfl ?_
        exact ⟨by unfold jbFM; rw [hb_6, hb_15, hb_25]; rfl, by unfold jbFM; rw [hb_6, hb_15, hb_25]; rfl⟩

