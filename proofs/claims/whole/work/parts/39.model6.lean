theorem told_sm {fh : Int32} : ∀ (m o a : Nat) (l : Int32), o + m ≤ 6 → a < 64 → ∃ b, b < 64 ∧ toldOnF fh o m (nI a) l = nI b
  | 0, _, a, _, _, ha => ⟨a, ha, rfl⟩
  | m + 1, o, a, l, ho, ha => by
    unfold toldOnF
    split
    · split
      · obtain ⟨z, hz, ez⟩ := shF_sm o (by omega)
        obtain ⟨b, hb, eb⟩ := or_sm ha hz
        change ∃ b, b < 64 ∧ toldOnF fh (o + 1) m (nI a ||| shF o) _ = nI b
        rw [ez, eb]
        exact told_sm m (o + 1) b _ (by omega) hb
      · exact told_sm m (o + 1) a _ (by omega) ha
    · exact ⟨a, ha, rfl⟩
theorem day_sm {fr : Nat → Int32} {n : Nat} {on had : Int32} (hn : n ≤ 6) {a : Nat} (ha : a < 64) : ∀ h, ∃ b, b < 64 ∧ dayF fr n on had h (nI a) = nI b
  | 0 => ⟨a, ha, rfl⟩
  | h + 1 => by
    obtain ⟨b, hb, e⟩ := day_sm (fr := fr) (n := n) (on := on) (had := had) hn ha h
    show ∃ b, b < 64 ∧ (if bitF had h then toldOnF (fr h) 0 n (dayF fr n on had h (nI a)) on else dayF fr n on had h (nI a)) = nI b
    rw [e]
    split
    · exact told_sm n 0 b on (by omega) hb
    · exact ⟨b, hb, rfl⟩
theorem days_sm {fr : Nat → Int32} {n : Nat} {on : Int32} (hn : n ≤ 6) {a : Nat} (ha : a < 64) : ∀ k, ∃ b, b < 64 ∧ daysF fr n on (nI a) k = nI b
  | 0 => ⟨a, ha, rfl⟩
  | k + 1 => by
    obtain ⟨b, hb, e⟩ := days_sm (fr := fr) (on := on) hn ha k
    show ∃ b, b < 64 ∧ dayF fr n on (daysF fr n on (nI a) k) n (daysF fr n on (nI a) k) = nI b
    rw [e]
    exact day_sm hn hb n
theorem hb_ones {V : VW} {n j h d : Nat} (hn : n ≤ 6) (hh : h < 6) : onesF (hbF V n j (shF h) d) 6 = bcF (hbF V n j (shF h) d) := by
  obtain ⟨z, hz, ez⟩ := shF_sm h hh
  unfold hbF
  rw [ez]
  obtain ⟨b, hb, e⟩ := days_sm (fr := V 6) (on := onF (V 1 j) (V 2 j)) hn hz d
  rw [e]
  exact onesF_bc b hb
set_option maxHeartbeats 4000000 in
set_option maxRecDepth 100000 in
theorem T_X8_through {l : Launch} {μ : PM} {V : VW} {nm sk st : Nat → Int32} {sn : Int32} {nj nh : Nat} {j h : Int32} (h1 : V 0 1 = nI nj) (hj5 : nj ≤ 5) (h5 : V 0 5 = nI nh) (hh6 : nh ≤ 6) : CT l SM yX8_through cX8_through 4 (some .int) 4 [.ref 0, .int j, .int h] (mm μ V nm sk st sn) (QI fun x m => x = throughF V nh j h ∧ m = mm μ V nm sk st sn) := by
  refine CT.of rfl (Nat.le_of_ble_eq_true rfl) ?_
  show PW l SM RX8 cX8_through 4 (some .int) 4 _ 0 [(0, .ref 0), (1, .int j), (2, .int h)] [] (mm μ V nm sk st sn)
  refine pw_aload_n dX8_through_0 rfl rfl ?_
  refine pw_iload_n dX8_through_1 rfl rfl ?_
  refine pw_cVi dX8_through_2 mv_X8_174 ckModel T_X8_isJoke rfl rfl (Nat.le_of_ble_eq_true rfl) (by decide) (fun x_2 m_2 h_2 => ?_)
  obtain ⟨rfl, rfl⟩ := h_2
  refine pw_if_ne (tgt := 11) dX8_through_5 (by decide) (fun c_5 => ?_) (fun c_5 => ?_)
  · skip
    have hb_5 := b2_n c_5
    refine pw_aload_n dX8_through_11 rfl rfl ?_
    refine pw_iload_n dX8_through_12 rfl rfl ?_
    refine pw_cVi dX8_through_13 mv_X8_167 ckModel T_X8_isHearer rfl rfl (Nat.le_of_ble_eq_true rfl) (by decide) (fun x_13 m_13 h_13 => ?_)
    obtain ⟨rfl, rfl⟩ := h_13
    refine pw_if_ne (tgt := 22) dX8_through_16 (by decide) (fun c_16 => ?_) (fun c_16 => ?_)
    · skip
      have hb_16 := b2_n c_16
      obtain ⟨j, hlj, hsj, rfl⟩ := jk_of h1 hj5 hb_5
      obtain ⟨h, hlh, hsh, rfl⟩ := hr_of h5 hh6 hb_16
      refine pw_iconst (v := 0) dX8_through_22 rfl ?_
      refine pw_istore_n (ls2 := [(3, _), (0, _), (1, _), (2, _)]) dX8_through_23 rfl (by decide) rfl ?_
      have L_24 : ∀ (fu_24 : Nat) (i : Nat), (i ≤ 7) → (thL V nh j h (7 - i) i = thL V nh j h 7 0) → 7 - i < fu_24 → PW l SM RX8 cX8_through 4 (some .int) 4 (QI fun x m => x = throughF V nh (nI j) (nI h) ∧ m = mm μ V nm sk st sn) 24 [(0, .ref 0), (1, .int (nI j)), (2, .int (nI h)), (3, .int (nI i))] [] (mm μ V nm sk st sn) := by
        intro fu_24
        induction fu_24 with
        | zero =>
          intro i hi hx hm_24
          exact absurd hm_24 (Nat.not_lt_zero _)
        | succ fu_24 ih_24 =>
          intro i hi hx hm_24
          refine pw_iload_n dX8_through_24 rfl rfl ?_
          refine pw_bipush (v := 6) dX8_through_25 rfl ?_
          refine pw_icmp_gt (tgt := 54) dX8_through_27 (by decide) (fun c_27 => ?_) (fun c_27 => ?_)
          · skip
            have hge := (nI_ltI (a := 6) (b := i) (by decide) (by omega)).mp c_27
            refine pw_iconst (v := (-1)) dX8_through_54 rfl ?_
            refine pw_iret dX8_through_55 rfl ?_
            exact ⟨by unfold throughF refT; rw [hb_5, hb_16, if_pos (by rfl), cl_nI (show j < 2 ^ 31 by omega), cl_nI (show h < 2 ^ 31 by omega), ← hx, show 7 - i = 0 by omega]; rfl, rfl⟩
          · skip
            have hlt : i < 7 := by
              rcases Nat.lt_or_ge i 7 with q | q
              · exact q
              · exact absurd (nI_lt (show 6 < i by omega) (by omega)) c_27
            refine pw_aload_n dX8_through_30 rfl rfl ?_
            refine pw_iload_n dX8_through_31 rfl rfl ?_
            refine pw_iconst (v := 1) dX8_through_32 rfl ?_
            refine pw_iload_n dX8_through_33 rfl rfl ?_
            refine pw_ishl dX8_through_34 ?_
            refine pw_iload_n dX8_through_35 rfl rfl ?_
            refine pw_cVi dX8_through_36 mv_X8_241 ckModel (T_X8_goesOn (d := i) h5 hh6 hsj (by omega)) rfl rfl (Nat.le_of_ble_eq_true rfl) (by decide) (fun x_36 m_36 h_36 => ?_)
            obtain ⟨rfl, rfl⟩ := h_36
            refine pw_aload_n dX8_through_39 rfl rfl ?_
            refine pw_cVi dX8_through_40 mv_X8_85 ckModel T_X8_everybody rfl rfl (Nat.le_of_ble_eq_true rfl) (by decide) (fun x_40 m_40 h_40 => ?_)
            obtain ⟨rfl, rfl⟩ := h_40
            refine pw_icmp_ne (tgt := 48) dX8_through_43 (by decide) (fun c_43 => ?_) (fun c_43 => ?_)
            · skip
              change ¬ (hbF V nh j (shF h) i = allF V) at c_43
              refine pw_iinc (ls2 := [(3, _), (0, _), (1, _), (2, _)]) (v := nI (i + 1)) dX8_through_48 rfl (inc1 i) (by decide) rfl ?_
              refine pw_goto (tgt := 24) dX8_through_51 (by decide) ?_
              refine pw_sub [1, 2, 3, 0] rfl ?_
              exact ih_24 (i + 1) hlt (by rw [← hx, show 7 - i = (7 - (i + 1)) + 1 by omega]; show _ = if _ then _ else _; rw [if_neg c_43]) (by omega)
            · skip
              change hbF V nh j (shF h) i = allF V at c_43
              refine pw_iload_n dX8_through_46 rfl rfl ?_
              refine pw_iret dX8_through_47 rfl ?_
              exact ⟨by unfold throughF refT; rw [hb_5, hb_16, if_pos (by rfl), cl_nI (show j < 2 ^ 31 by omega), cl_nI (show h < 2 ^ 31 by omega), ← hx, show 7 - i = (7 - (i + 1)) + 1 by omega]; show _ = if _ then _ else _; rw [if_pos c_43], rfl⟩
      refine pw_sub [1, 2, 3, 0] rfl ?_
      exact L_24 8 0 (Nat.zero_le _) rfl (by omega)
    · skip
      have hb_16 := b2_0 c_16
      refine pw_bipush (v := (-6)) dX8_through_19 rfl ?_
      refine pw_iret dX8_through_21 rfl ?_
      exact ⟨by unfold throughF refT; rw [hb_5, hb_16]; rfl, rfl⟩
  · skip
    have hb_5 := b2_0 c_5
    refine pw_bipush (v := (-5)) dX8_through_8 rfl ?_
    refine pw_iret dX8_through_10 rfl ?_
    exact ⟨by unfold throughF refT; rw [hb_5]; rfl, rfl⟩

set_option maxHeartbeats 4000000 in
set_option maxRecDepth 100000 in
theorem T_X8_origin {l : Launch} {μ : PM} {V : VW} {nm sk st : Nat → Int32} {sn : Int32} {nj nh : Nat} {j ha da : Int32} (h1 : V 0 1 = nI nj) (hj5 : nj ≤ 5) (h5 : V 0 5 = nI nh) (hh6 : nh ≤ 6) : CT l SM yX8_origin cX8_origin 6 (some .int) 4 [.ref 0, .int j, .int ha, .int da] (mm μ V nm sk st sn) (QI fun x m => x = originF V nh j ha da ∧ m = mm μ V nm sk st sn) := by
  refine CT.of rfl (Nat.le_of_ble_eq_true rfl) ?_
  show PW l SM RX8 cX8_origin 6 (some .int) 4 _ 0 [(0, .ref 0), (1, .int j), (2, .int ha), (3, .int da)] [] (mm μ V nm sk st sn)
  refine pw_aload_n dX8_origin_0 rfl rfl ?_
  refine pw_iload_n dX8_origin_1 rfl rfl ?_
  refine pw_cVi dX8_origin_2 mv_X8_174 ckModel T_X8_isJoke rfl rfl (Nat.le_of_ble_eq_true rfl) (by decide) (fun x_2 m_2 h_2 => ?_)
  obtain ⟨rfl, rfl⟩ := h_2
  refine pw_if_ne (tgt := 11) dX8_origin_5 (by decide) (fun c_5 => ?_) (fun c_5 => ?_)
  · skip
    have hb_5 := b2_n c_5
    refine pw_aload_n dX8_origin_11 rfl rfl ?_
    refine pw_iload_n dX8_origin_12 rfl rfl ?_
    refine pw_cVi dX8_origin_13 mv_X8_180 ckModel T_X8_areSome rfl rfl (Nat.le_of_ble_eq_true rfl) (by decide) (fun x_13 m_13 h_13 => ?_)
    obtain ⟨rfl, rfl⟩ := h_13
    refine pw_if_eq (tgt := 29) dX8_origin_16 (by decide) (fun c_16 => ?_) (fun c_16 => ?_)
    · skip
      have hb_16 := b2_0 c_16
      refine pw_bipush (v := (-7)) dX8_origin_29 rfl ?_
      refine pw_iret dX8_origin_31 rfl ?_
      exact ⟨by unfold originF; rw [hb_5, hb_16]; rfl, rfl⟩
    · skip
      have hb_16 := b2_n c_16
      refine pw_iload_n dX8_origin_19 rfl rfl ?_
      refine pw_iconst (v := 0) dX8_origin_20 rfl ?_
      refine pw_bipush (v := 20) dX8_origin_21 rfl ?_
      refine pw_cSi dX8_origin_23 ms_X8_78 T_X8_in rfl rfl (Nat.le_of_ble_eq_true rfl) (by decide) (fun x_23 m_23 h_23 => ?_)
      obtain ⟨rfl, rfl⟩ := h_23
      refine pw_if_ne (tgt := 32) dX8_origin_26 (by decide) (fun c_26 => ?_) (fun c_26 => ?_)
      · skip
        have hb_26 := b2_n c_26
        obtain ⟨j, hlj, hsj, rfl⟩ := jk_of h1 hj5 hb_5
        obtain ⟨da, hd20, rfl⟩ := in_trueL (n := 20) hb_26 (by decide)
        refine pw_iconst (v := 0) dX8_origin_32 rfl ?_
        refine pw_istore (ls2 := [(4, _), (0, _), (1, _), (2, _), (3, _)]) dX8_origin_33 (by decide) rfl ?_
        refine pw_iconst (v := 0) dX8_origin_35 rfl ?_
        refine pw_istore (ls2 := [(5, _), (4, _), (0, _), (1, _), (2, _), (3, _)]) dX8_origin_36 (by decide) rfl ?_
        have L_38 : ∀ (fu_38 : Nat) (i : Nat) (x : Int32), (i ≤ nh) → (orL V nh j ha da (nh - i) i x = orL V nh j ha da nh 0 0) → nh - i < fu_38 → PW l SM RX8 cX8_origin 6 (some .int) 4 (QI fun x m => x = originF V nh (nI j) ha (nI da) ∧ m = mm μ V nm sk st sn) 38 [(0, .ref 0), (1, .int (nI j)), (2, .int ha), (3, .int (nI da)), (4, .int x), (5, .int (nI i))] [] (mm μ V nm sk st sn) := by
          intro fu_38
          induction fu_38 with
          | zero =>
            intro i x hi hx hm_38
            exact absurd hm_38 (Nat.not_lt_zero _)
          | succ fu_38 ih_38 =>
            intro i x hi hx hm_38
            refine pw_iload dX8_origin_38 rfl ?_
            refine pw_aload_n dX8_origin_40 rfl rfl ?_
            refine pw_getI dX8_origin_41 fa_X8_82 rfl ?_
            refine pw_top (y := nI nh) h5 ?_
            refine pw_icmp_ge (tgt := 80) dX8_origin_44 (by decide) (fun c_44 => ?_) (fun c_44 => ?_)
            · skip
              have hge := nI_geD (by omega) c_44
              refine pw_iload dX8_origin_80 rfl ?_
              refine pw_iret dX8_origin_82 rfl ?_
              have e0 : nh - i = 0 := by omega
              rw [e0] at hx
              change x = _ at hx
              exact ⟨by unfold originF; rw [hb_5, hb_16, show inF (nI da) 0 20 = true from hb_26, cl_nI (show j < 2 ^ 31 by omega), cl_nI (show da < 2 ^ 31 by omega), hx]; rfl, rfl⟩
            · skip
              have hlt := nI_ltD (by omega) c_44
              refine pw_iload dX8_origin_47 rfl ?_
              refine pw_aload_n dX8_origin_49 rfl rfl ?_
              refine pw_iload_n dX8_origin_50 rfl rfl ?_
              refine pw_iconst (v := 1) dX8_origin_51 rfl ?_
              refine pw_iload dX8_origin_52 rfl ?_
              refine pw_ishl dX8_origin_54 ?_
              refine pw_iload_n dX8_origin_55 rfl rfl ?_
              refine pw_cVi dX8_origin_56 mv_X8_241 ckModel (T_X8_goesOn (d := da) h5 hh6 hsj (by omega)) rfl rfl (Nat.le_of_ble_eq_true rfl) (by decide) (fun x_56 m_56 h_56 => ?_)
              obtain ⟨rfl, rfl⟩ := h_56
              refine pw_iload_n dX8_origin_59 rfl rfl ?_
              refine pw_icmp_ne (tgt := 70) dX8_origin_60 (by decide) (fun c_60 => ?_) (fun c_60 => ?_)
              · skip
                change ¬ (hbF V nh j (shF i) da = ha) at c_60
                refine pw_iconst (v := 0) dX8_origin_70 rfl ?_
                refine pw_ior dX8_origin_71 ?_
                refine pw_istore (ls2 := [(4, _), (0, _), (1, _), (2, _), (3, _), (5, _)]) dX8_origin_72 (by decide) rfl ?_
                refine pw_iinc (ls2 := [(5, _), (4, _), (0, _), (1, _), (2, _), (3, _)]) (v := nI (i + 1)) dX8_origin_74 rfl (inc1 i) (by decide) rfl ?_
                refine pw_goto (tgt := 38) dX8_origin_77 (by decide) ?_
                refine pw_sub [2, 3, 4, 5, 1, 0] rfl ?_
                exact ih_38 (i + 1) _ hlt (by rw [← hx, show nh - i = (nh - (i + 1)) + 1 by omega, show x ||| 0 = x from Int32.or_zero]; show _ = orL V nh j ha da _ (i + 1) (if _ then _ else _); rw [if_neg c_60]) (by omega)
              · skip
                change hbF V nh j (shF i) da = ha at c_60
                refine pw_iconst (v := 1) dX8_origin_63 rfl ?_
                refine pw_iload dX8_origin_64 rfl ?_
                refine pw_ishl dX8_origin_66 ?_
                refine pw_goto (tgt := 71) dX8_origin_67 (by decide) ?_
                refine pw_ior dX8_origin_71 ?_
                refine pw_istore (ls2 := [(4, _), (0, _), (1, _), (2, _), (3, _), (5, _)]) dX8_origin_72 (by decide) rfl ?_
                refine pw_iinc (ls2 := [(5, _), (4, _), (0, _), (1, _), (2, _), (3, _)]) (v := nI (i + 1)) dX8_origin_74 rfl (inc1 i) (by decide) rfl ?_
                refine pw_goto (tgt := 38) dX8_origin_77 (by decide) ?_
                refine pw_sub [2, 3, 4, 5, 1, 0] rfl ?_
                exact ih_38 (i + 1) _ hlt (by rw [← hx, show nh - i = (nh - (i + 1)) + 1 by omega]; show _ = orL V nh j ha da _ (i + 1) (if _ then _ else _); rw [if_pos c_60]; rfl) (by omega)
        refine pw_sub [2, 3, 4, 5, 1, 0] rfl ?_
        exact L_38 (nh + 1) 0 0 (Nat.zero_le _) rfl (by omega)
      · skip
        have hb_26 := b2_0 c_26
        refine pw_bipush (v := (-7)) dX8_origin_29 rfl ?_
        refine pw_iret dX8_origin_31 rfl ?_
        exact ⟨by unfold originF; rw [hb_5, hb_16, hb_26]; rfl, rfl⟩
  · skip
    have hb_5 := b2_0 c_5
    refine pw_bipush (v := (-5)) dX8_origin_8 rfl ?_
    refine pw_iret dX8_origin_10 rfl ?_
    exact ⟨by unfold originF; rw [hb_5]; rfl, rfl⟩

set_option maxHeartbeats 4000000 in
set_option maxRecDepth 100000 in
theorem T_X8_furthest {l : Launch} {μ : PM} {V : VW} {nm sk st : Nat → Int32} {sn : Int32} {nj nh : Nat} {j da wh : Int32} (h1 : V 0 1 = nI nj) (hj5 : nj ≤ 5) (h5 : V 0 5 = nI nh) (hh6 : nh ≤ 6) : CT l SM yX8_furthest cX8_furthest 8 (some .int) 4 [.ref 0, .int j, .int da, .int wh] (mm μ V nm sk st sn) (QI fun x m => x = furF V nh j da wh ∧ m = mm μ V nm sk st sn) := by
  refine CT.of rfl (Nat.le_of_ble_eq_true rfl) ?_
  show PW l SM RX8 cX8_furthest 8 (some .int) 4 _ 0 [(0, .ref 0), (1, .int j), (2, .int da), (3, .int wh)] [] (mm μ V nm sk st sn)
  refine pw_aload_n dX8_furthest_0 rfl rfl ?_
  refine pw_iload_n dX8_furthest_1 rfl rfl ?_
  refine pw_cVi dX8_furthest_2 mv_X8_174 ckModel T_X8_isJoke rfl rfl (Nat.le_of_ble_eq_true rfl) (by decide) (fun x_2 m_2 h_2 => ?_)
  obtain ⟨rfl, rfl⟩ := h_2
  refine pw_if_ne (tgt := 11) dX8_furthest_5 (by decide) (fun c_5 => ?_) (fun c_5 => ?_)
  · skip
    have hb_5 := b2_n c_5
    refine pw_iload_n dX8_furthest_11 rfl rfl ?_
    refine pw_iconst (v := 0) dX8_furthest_12 rfl ?_
    refine pw_bipush (v := 20) dX8_furthest_13 rfl ?_
    refine pw_cSi dX8_furthest_15 ms_X8_78 T_X8_in rfl rfl (Nat.le_of_ble_eq_true rfl) (by decide) (fun x_15 m_15 h_15 => ?_)
    obtain ⟨rfl, rfl⟩ := h_15
    refine pw_if_eq (tgt := 30) dX8_furthest_18 (by decide) (fun c_18 => ?_) (fun c_18 => ?_)
    · skip
      have hb_18 := b2_0 c_18
      refine pw_bipush (v := (-7)) dX8_furthest_30 rfl ?_
      refine pw_iret dX8_furthest_32 rfl ?_
      exact ⟨by unfold furF; rw [hb_5, hb_18]; rfl, rfl⟩
    · skip
      have hb_18 := b2_n c_18
      refine pw_iload_n dX8_furthest_21 rfl rfl ?_
      refine pw_iconst (v := 0) dX8_furthest_22 rfl ?_
      refine pw_iconst (v := 1) dX8_furthest_23 rfl ?_
      refine pw_cSi dX8_furthest_24 ms_X8_78 T_X8_in rfl rfl (Nat.le_of_ble_eq_true rfl) (by decide) (fun x_24 m_24 h_24 => ?_)
      obtain ⟨rfl, rfl⟩ := h_24
      refine pw_if_ne (tgt := 33) dX8_furthest_27 (by decide) (fun c_27 => ?_) (fun c_27 => ?_)
      · skip
        have hb_27 := b2_n c_27
        obtain ⟨j, hlj, hsj, rfl⟩ := jk_of h1 hj5 hb_5
        obtain ⟨da, hd20, rfl⟩ := in_trueL (n := 20) hb_18 (by decide)
        refine pw_iconst (v := (-1)) dX8_furthest_33 rfl ?_
        refine pw_istore (ls2 := [(4, _), (0, _), (1, _), (2, _), (3, _)]) dX8_furthest_34 (by decide) rfl ?_
        refine pw_iconst (v := (-1)) dX8_furthest_36 rfl ?_
        refine pw_istore (ls2 := [(5, _), (4, _), (0, _), (1, _), (2, _), (3, _)]) dX8_furthest_37 (by decide) rfl ?_
        refine pw_iconst (v := 0) dX8_furthest_39 rfl ?_
        refine pw_istore (ls2 := [(6, _), (5, _), (4, _), (0, _), (1, _), (2, _), (3, _)]) dX8_furthest_40 (by decide) rfl ?_
        have L_42 : ∀ (fu_42 : Nat) (i : Nat) (x y : Int32), (i ≤ nh) → (fuL V nh j da (nh - i) i (x, y) = fuL V nh j da nh 0 (-1, -1)) → nh - i < fu_42 → PW l SM RX8 cX8_furthest 8 (some .int) 4 (QI fun x m => x = furF V nh (nI j) (nI da) wh ∧ m = mm μ V nm sk st sn) 42 [(0, .ref 0), (1, .int (nI j)), (2, .int (nI da)), (3, .int wh), (4, .int x), (5, .int y), (6, .int (nI i))] [] (mm μ V nm sk st sn) := by
          intro fu_42
          induction fu_42 with
          | zero =>
            intro i x y hi hx hm_42
            exact absurd hm_42 (Nat.not_lt_zero _)
          | succ fu_42 ih_42 =>
            intro i x y hi hx hm_42
            refine pw_iload dX8_furthest_42 rfl ?_
            refine pw_aload_n dX8_furthest_44 rfl rfl ?_
            refine pw_getI dX8_furthest_45 fa_X8_82 rfl ?_
            refine pw_top (y := nI nh) h5 ?_
            refine pw_icmp_ge (tgt := 104) dX8_furthest_48 (by decide) (fun c_48 => ?_) (fun c_48 => ?_)
            · skip
              have hge := nI_geD (by omega) c_48
              refine pw_iload_n dX8_furthest_104 rfl rfl ?_
              refine pw_if_ne (tgt := 113) dX8_furthest_105 (by decide) (fun c_105 => ?_) (fun c_105 => ?_)
              · skip
                refine pw_iload dX8_furthest_113 rfl ?_
                refine pw_iret dX8_furthest_115 rfl ?_
                have e0 : nh - i = 0 := by omega
                rw [e0] at hx
                change (x, y) = _ at hx
                exact ⟨by unfold furF; rw [hb_5, show inF (nI da) 0 20 = true from hb_18, hb_27, cl_nI (show j < 2 ^ 31 by omega), cl_nI (show da < 2 ^ 31 by omega), ← hx, if_pos rfl, if_pos (by rfl), if_neg c_105], rfl⟩
              · skip
                refine pw_iload dX8_furthest_108 rfl ?_
                refine pw_goto (tgt := 115) dX8_furthest_110 (by decide) ?_
                refine pw_iret dX8_furthest_115 rfl ?_
                have e0 : nh - i = 0 := by omega
                rw [e0] at hx
                change (x, y) = _ at hx
                exact ⟨by unfold furF; rw [hb_5, show inF (nI da) 0 20 = true from hb_18, hb_27, cl_nI (show j < 2 ^ 31 by omega), cl_nI (show da < 2 ^ 31 by omega), ← hx, if_pos rfl, if_pos (by rfl), if_pos c_105], rfl⟩
            · skip
              have hlt := nI_ltD (by omega) c_48
              refine pw_aload_n dX8_furthest_51 rfl rfl ?_
              refine pw_iload_n dX8_furthest_52 rfl rfl ?_
              refine pw_iconst (v := 1) dX8_furthest_53 rfl ?_
              refine pw_iload dX8_furthest_54 rfl ?_
              refine pw_ishl dX8_furthest_56 ?_
              refine pw_iload_n dX8_furthest_57 rfl rfl ?_
              refine pw_cVi dX8_furthest_58 mv_X8_241 ckModel (T_X8_goesOn (d := da) h5 hh6 hsj (by omega)) rfl rfl (Nat.le_of_ble_eq_true rfl) (by decide) (fun x_58 m_58 h_58 => ?_)
              obtain ⟨rfl, rfl⟩ := h_58
              refine pw_cSi dX8_furthest_61 ms_X8_229 T_X8_ones rfl rfl (Nat.le_of_ble_eq_true rfl) (by decide) (fun x_61 m_61 h_61 => ?_)
              obtain ⟨rfl, rfl⟩ := h_61
              refine pw_top (y := bcF (hbF V nh j (shF i) da)) (hb_ones hh6 (by omega)) ?_
              refine pw_istore (ls2 := [(7, _), (0, _), (1, _), (2, _), (3, _), (4, _), (5, _), (6, _)]) dX8_furthest_64 (by decide) rfl ?_
              refine pw_iload dX8_furthest_66 rfl ?_
              refine pw_iload dX8_furthest_68 rfl ?_
              refine pw_icmp_le (tgt := 78) dX8_furthest_70 (by decide) (fun c_70 => ?_) (fun c_70 => ?_)
              · skip
                refine pw_iload dX8_furthest_78 rfl ?_
                refine pw_istore (ls2 := [(4, _), (7, _), (0, _), (1, _), (2, _), (3, _), (5, _), (6, _)]) dX8_furthest_80 (by decide) rfl ?_
                refine pw_iload dX8_furthest_82 rfl ?_
                refine pw_iload dX8_furthest_84 rfl ?_
                refine pw_icmp_le (tgt := 94) dX8_furthest_86 (by decide) (fun c_86 => ?_) (fun c_86 => ?_)
                · skip
                  refine pw_iload dX8_furthest_94 rfl ?_
                  refine pw_istore (ls2 := [(5, _), (4, _), (7, _), (0, _), (1, _), (2, _), (3, _), (6, _)]) dX8_furthest_96 (by decide) rfl ?_
                  refine pw_iinc (ls2 := [(6, _), (5, _), (4, _), (7, _), (0, _), (1, _), (2, _), (3, _)]) (v := nI (i + 1)) dX8_furthest_98 rfl (inc1 i) (by decide) rfl ?_
                  refine pw_goto (tgt := 42) dX8_furthest_101 (by decide) ?_
                  refine pw_sub [4, 5, 6, 7, 2, 1, 0] rfl ?_
                  exact ih_42 (i + 1) _ _ hlt (by rw [← hx, show nh - i = (nh - (i + 1)) + 1 by omega]; show _ = fuL V nh j da _ (i + 1) (if _ then _ else _); rw [if_pos c_70]) (by omega)
                · skip
                  exact absurd c_70 c_86
              · skip
                refine pw_iload dX8_furthest_73 rfl ?_
                refine pw_goto (tgt := 80) dX8_furthest_75 (by decide) ?_
                refine pw_istore (ls2 := [(4, _), (7, _), (0, _), (1, _), (2, _), (3, _), (5, _), (6, _)]) dX8_furthest_80 (by decide) rfl ?_
                refine pw_iload dX8_furthest_82 rfl ?_
                refine pw_iload dX8_furthest_84 rfl ?_
                refine pw_icmp_le (tgt := 94) dX8_furthest_86 (by decide) (fun c_86 => ?_) (fun c_86 => ?_)
                · skip
                  exact absurd c_86 c_70
                · skip
                  refine pw_iload dX8_furthest_89 rfl ?_
                  refine pw_goto (tgt := 96) dX8_furthest_91 (by decide) ?_
                  refine pw_istore (ls2 := [(5, _), (4, _), (7, _), (0, _), (1, _), (2, _), (3, _), (6, _)]) dX8_furthest_96 (by decide) rfl ?_
                  refine pw_iinc (ls2 := [(6, _), (5, _), (4, _), (7, _), (0, _), (1, _), (2, _), (3, _)]) (v := nI (i + 1)) dX8_furthest_98 rfl (inc1 i) (by decide) rfl ?_
                  refine pw_goto (tgt := 42) dX8_furthest_101 (by decide) ?_
                  refine pw_sub [4, 5, 6, 7, 2, 1, 0] rfl ?_
                  exact ih_42 (i + 1) _ _ hlt (by rw [← hx, show nh - i = (nh - (i + 1)) + 1 by omega]; show _ = fuL V nh j da _ (i + 1) (if _ then _ else _); rw [if_neg c_70]) (by omega)
        refine pw_sub [3, 4, 5, 6, 2, 1, 0] rfl ?_
        exact L_42 (nh + 1) 0 (-1) (-1) (Nat.zero_le _) rfl (by omega)
      · skip
        have hb_27 := b2_0 c_27
        refine pw_bipush (v := (-7)) dX8_furthest_30 rfl ?_
        refine pw_iret dX8_furthest_32 rfl ?_
        exact ⟨by unfold furF; rw [hb_5, hb_18, hb_27]; rfl, rfl⟩
  · skip
    have hb_5 := b2_0 c_5
    refine pw_bipush (v := (-5)) dX8_furthest_8 rfl ?_
    refine pw_iret dX8_furthest_10 rfl ?_
    exact ⟨by unfold furF; rw [hb_5]; rfl, rfl⟩

