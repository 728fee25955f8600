theorem okL_t {μ : PM} {B : BK} {V : VW} {j h : Nat} (hL : okL μ B V) : okL μ B (tellV B V j h) := okL_V hL rfl
set_option maxHeartbeats 4000000 in
set_option maxRecDepth 100000 in
theorem T_X8_roundOf {l : Launch} {μ : PM} {B : BK} {V : VW} {nm sk st : Nat → Int32} {nh j : Nat} (hL : okL μ B V) (h5 : V 0 5 = nI nh) (hh6 : nh ≤ 6) (hj : j < 5) (hp : ∀ h, h < nh → pwOK V j h) : CT l SM yX8_roundOf cX8_roundOf 4 (some .int) 6 [.ref 0, .int (nI j)] (mm μ V nm sk st 0) (QI fun x m => x = teF B V j nh ∧ ∃ nm2 sk2 st2, m = mm μ V nm2 sk2 st2 0) := by
  refine CT.of rfl (Nat.le_of_ble_eq_true rfl) ?_
  show PW l SM RX8 cX8_roundOf 4 (some .int) 6 _ 0 [(0, .ref 0), (1, .int (nI j))] [] (mm μ V nm sk st 0)
  refine pw_iconst (v := 0) dX8_roundOf_0 rfl ?_
  refine pw_istore_n (ls2 := [(2, _), (0, _), (1, _)]) dX8_roundOf_1 rfl (by decide) rfl ?_
  refine pw_iconst (v := 0) dX8_roundOf_2 rfl ?_
  refine pw_istore_n (ls2 := [(3, _), (2, _), (0, _), (1, _)]) dX8_roundOf_3 rfl (by decide) rfl ?_
  have L_4 : ∀ (fu_4 : Nat) (i : Nat) (s : Int32) (U : VW) (nm sk st : Nat → Int32), (i ≤ nh) → (s = teF B V j i) → (U = tlE B j 0 i V) → (unOK st i) → (unL st i U = V) → (∀ h, h < nh → pwOK U j h) → nh - i < fu_4 → PW l SM RX8 cX8_roundOf 4 (some .int) 6 (QI fun x m => x = teF B V j nh ∧ ∃ nm2 sk2 st2, m = mm μ V nm2 sk2 st2 0) 4 [(0, .ref 0), (1, .int (nI j)), (2, .int s), (3, .int (nI i))] [] (mm μ U nm sk st (nI i)) := by
    intro fu_4
    induction fu_4 with
    | zero =>
      intro i s U nm sk st hi hs hUe hu hun hpw hm_4
      exact absurd hm_4 (Nat.not_lt_zero _)
    | succ fu_4 ih_4 =>
      intro i s U nm sk st hi hs hUe hu hun hpw hm_4
      refine pw_iload_n dX8_roundOf_4 rfl rfl ?_
      refine pw_aload_n dX8_roundOf_5 rfl rfl ?_
      refine pw_getI dX8_roundOf_6 fa_X8_82 rfl ?_
      have hU5 : U 0 5 = nI nh := by rw [hUe, tlE_0]; exact h5
      have hLU : okL μ B U := okL_V hL (by rw [hUe, tlE_0])
      refine pw_top (y := nI nh) hU5 ?_
      refine pw_icmp_ge (tgt := 27) dX8_roundOf_9 (by decide) (fun c_9 => ?_) (fun c_9 => ?_)
      · skip
        have hge := nI_geD (by omega) c_9
        refine pw_aload_n dX8_roundOf_27 rfl rfl ?_
        refine pw_cVv dX8_roundOf_28 mv_X8_214 ckModel (T_X8_takesBack (n := i) (V := U) (by omega) hu) rfl rfl (Nat.le_of_ble_eq_true rfl) (by decide) (fun m_28 h_28 => ?_)
        obtain rfl := h_28
        refine pw_iload_n dX8_roundOf_31 rfl rfl ?_
        refine pw_iret dX8_roundOf_32 rfl ?_
        exact ⟨by rw [hs, show i = nh by omega], _, _, _, by rw [hun]⟩
      · skip
        have hlt := nI_ltD (by omega) c_9
        refine pw_iload_n dX8_roundOf_12 rfl rfl ?_
        refine pw_aload_n dX8_roundOf_13 rfl rfl ?_
        refine pw_iload_n dX8_roundOf_14 rfl rfl ?_
        refine pw_iload_n dX8_roundOf_15 rfl rfl ?_
        refine pw_cVi dX8_roundOf_16 mv_X8_199 ckModel (T_X8_tells (n := i) (V := U) (j := j) (h := i) hLU hj (by omega) (hpw i hlt) (by omega)) rfl rfl (Nat.le_of_ble_eq_true rfl) (by decide) (fun x_16 m_16 h_16 => ?_)
        obtain ⟨rfl, nm1, sk1, rfl⟩ := h_16
        refine pw_iadd dX8_roundOf_19 ?_
        refine pw_istore_n (ls2 := [(2, _), (0, _), (1, _), (3, _)]) dX8_roundOf_20 rfl (by decide) rfl ?_
        refine pw_iinc (ls2 := [(3, _), (2, _), (0, _), (1, _)]) (v := nI (i + 1)) dX8_roundOf_21 rfl (inc1 i) (by decide) rfl ?_
        refine pw_goto (tgt := 4) dX8_roundOf_24 (by decide) ?_
        refine pw_sub [2, 3, 1, 0] rfl ?_
        exact ih_4 (i + 1) _ _ nm1 sk1 _ hlt (by rw [hs, hUe]; rfl) (by rw [hUe]; show _ = tellV B _ j (0 + i); rw [Nat.zero_add]) (un_ok hj (by omega) hu) ((un_tell hj (by omega)).trans hun) (fun h hh => pw_tell (hpw i hlt) (hpw h hh)) (by omega)
  refine pw_sub [2, 3, 1, 0] rfl ?_
  exact L_4 (nh + 1) 0 0 V nm sk st (Nat.zero_le _) rfl rfl (fun k hk => absurd hk (Nat.not_lt_zero _)) rfl hp (by omega)

set_option maxHeartbeats 4000000 in
set_option maxRecDepth 100000 in
theorem T_X8_round {l : Launch} {μ : PM} {B : BK} {V : VW} {nm sk st : Nat → Int32} {nj nh : Nat} {wh : Int32} (hL : okL μ B V) (h1 : V 0 1 = nI nj) (hj5 : nj ≤ 5) (h5 : V 0 5 = nI nh) (hh6 : nh ≤ 6) (hpw : ∀ j h, j < nj → h < nh → pwOK V j h) : CT l SM yX8_round cX8_round 6 (some .int) 7 [.ref 0, .int wh] (mm μ V nm sk st 0) (QI fun x m => x = roundF B V nj nh wh ∧ ∃ nm2 sk2 st2, m = mm μ V nm2 sk2 st2 0) := by
  refine CT.of rfl (Nat.le_of_ble_eq_true rfl) ?_
  show PW l SM RX8 cX8_round 6 (some .int) 7 _ 0 [(0, .ref 0), (1, .int wh)] [] (mm μ V nm sk st 0)
  refine pw_iload_n dX8_round_0 rfl rfl ?_
  refine pw_iconst (v := 0) dX8_round_1 rfl ?_
  refine pw_iconst (v := 1) dX8_round_2 rfl ?_
  refine pw_cSi dX8_round_3 ms_X8_78 T_X8_in rfl rfl (Nat.le_of_ble_eq_true rfl) (by decide) (fun x_3 m_3 h_3 => ?_)
  obtain ⟨rfl, rfl⟩ := h_3
  refine pw_if_ne (tgt := 12) dX8_round_6 (by decide) (fun c_6 => ?_) (fun c_6 => ?_)
  · skip
    have hb_6 := b2_n c_6
    refine pw_iconst (v := (-1)) dX8_round_12 rfl ?_
    refine pw_istore_n (ls2 := [(2, _), (0, _), (1, _)]) dX8_round_13 rfl (by decide) rfl ?_
    refine pw_iconst (v := (-1)) dX8_round_14 rfl ?_
    refine pw_istore_n (ls2 := [(3, _), (2, _), (0, _), (1, _)]) dX8_round_15 rfl (by decide) rfl ?_
    refine pw_iconst (v := 0) dX8_round_16 rfl ?_
    refine pw_istore (ls2 := [(4, _), (3, _), (2, _), (0, _), (1, _)]) dX8_round_17 (by decide) rfl ?_
    have L_19 : ∀ (fu_19 : Nat) (i : Nat) (x y : Int32) (nm sk st : Nat → Int32), (i ≤ nj) → (roL B V nh (nj - i) i (x, y) = roL B V nh nj 0 (-1, -1)) → nj - i < fu_19 → PW l SM RX8 cX8_round 6 (some .int) 7 (QI fun x m => x = roundF B V nj nh wh ∧ ∃ nm2 sk2 st2, m = mm μ V nm2 sk2 st2 0) 19 [(0, .ref 0), (1, .int wh), (2, .int x), (3, .int y), (4, .int (nI i))] [] (mm μ V nm sk st 0) := by
      intro fu_19
      induction fu_19 with
      | zero =>
        intro i x y nm sk st hi hx hm_19
        exact absurd hm_19 (Nat.not_lt_zero _)
      | succ fu_19 ih_19 =>
        intro i x y nm sk st hi hx hm_19
        refine pw_iload dX8_round_19 rfl ?_
        refine pw_aload_n dX8_round_21 rfl rfl ?_
        refine pw_getI dX8_round_22 fa_X8_75 rfl ?_
        refine pw_top (y := nI nj) h1 ?_
        refine pw_icmp_ge (tgt := 68) dX8_round_25 (by decide) (fun c_25 => ?_) (fun c_25 => ?_)
        · skip
          have hge := nI_geD (by omega) c_25
          refine pw_iload_n dX8_round_68 rfl rfl ?_
          refine pw_if_ne (tgt := 76) dX8_round_69 (by decide) (fun c_69 => ?_) (fun c_69 => ?_)
          · skip
            refine pw_iload_n dX8_round_76 rfl rfl ?_
            refine pw_iret dX8_round_77 rfl ?_
            have e0 : nj - i = 0 := by omega
            rw [e0] at hx
            change (x, y) = _ at hx
            exact ⟨by unfold roundF; rw [hb_6, ← hx, if_pos rfl, if_neg c_69], _, _, _, rfl⟩
          · skip
            refine pw_iload_n dX8_round_72 rfl rfl ?_
            refine pw_goto (tgt := 77) dX8_round_73 (by decide) ?_
            refine pw_iret dX8_round_77 rfl ?_
            have e0 : nj - i = 0 := by omega
            rw [e0] at hx
            change (x, y) = _ at hx
            exact ⟨by unfold roundF; rw [hb_6, ← hx, if_pos rfl, if_pos c_69], _, _, _, rfl⟩
        · skip
          have hlt := nI_ltD (by omega) c_25
          refine pw_aload_n dX8_round_28 rfl rfl ?_
          refine pw_iload dX8_round_29 rfl ?_
          refine pw_cVi dX8_round_31 mv_X8_223 ckModel (T_X8_roundOf (j := i) hL h5 hh6 (by omega) (fun h hh => hpw i h hlt hh)) rfl rfl (Nat.le_of_ble_eq_true rfl) (by decide) (fun x_31 m_31 h_31 => ?_)
          obtain ⟨rfl, nm1, sk1, st1, rfl⟩ := h_31
          refine pw_istore (ls2 := [(5, _), (0, _), (1, _), (2, _), (3, _), (4, _)]) dX8_round_34 (by decide) rfl ?_
          refine pw_iload dX8_round_36 rfl ?_
          refine pw_iload_n dX8_round_38 rfl rfl ?_
          refine pw_icmp_le (tgt := 47) dX8_round_39 (by decide) (fun c_39 => ?_) (fun c_39 => ?_)
          · skip
            refine pw_iload_n dX8_round_47 rfl rfl ?_
            refine pw_istore_n (ls2 := [(2, _), (5, _), (0, _), (1, _), (3, _), (4, _)]) dX8_round_48 rfl (by decide) rfl ?_
            refine pw_iload dX8_round_49 rfl ?_
            refine pw_iload_n dX8_round_51 rfl rfl ?_
            refine pw_icmp_le (tgt := 60) dX8_round_52 (by decide) (fun c_52 => ?_) (fun c_52 => ?_)
            · skip
              refine pw_iload_n dX8_round_60 rfl rfl ?_
              refine pw_istore_n (ls2 := [(3, _), (2, _), (5, _), (0, _), (1, _), (4, _)]) dX8_round_61 rfl (by decide) rfl ?_
              refine pw_iinc (ls2 := [(4, _), (3, _), (2, _), (5, _), (0, _), (1, _)]) (v := nI (i + 1)) dX8_round_62 rfl (inc1 i) (by decide) rfl ?_
              refine pw_goto (tgt := 19) dX8_round_65 (by decide) ?_
              refine pw_sub [4, 5, 2, 1, 0] rfl ?_
              exact ih_19 (i + 1) _ _ nm1 sk1 st1 hlt (by rw [← hx, show nj - i = (nj - (i + 1)) + 1 by omega]; show _ = roL B V nh _ (i + 1) (if _ then _ else _); rw [if_pos c_39]) (by omega)
            · skip
              exact absurd c_39 c_52
          · skip
            refine pw_iload dX8_round_42 rfl ?_
            refine pw_goto (tgt := 48) dX8_round_44 (by decide) ?_
            refine pw_istore_n (ls2 := [(2, _), (5, _), (0, _), (1, _), (3, _), (4, _)]) dX8_round_48 rfl (by decide) rfl ?_
            refine pw_iload dX8_round_49 rfl ?_
            refine pw_iload_n dX8_round_51 rfl rfl ?_
            refine pw_icmp_le (tgt := 60) dX8_round_52 (by decide) (fun c_52 => ?_) (fun c_52 => ?_)
            · skip
              exact absurd c_52 c_39
            · skip
              refine pw_iload dX8_round_55 rfl ?_
              refine pw_goto (tgt := 61) dX8_round_57 (by decide) ?_
              refine pw_istore_n (ls2 := [(3, _), (2, _), (5, _), (0, _), (1, _), (4, _)]) dX8_round_61 rfl (by decide) rfl ?_
              refine pw_iinc (ls2 := [(4, _), (3, _), (2, _), (5, _), (0, _), (1, _)]) (v := nI (i + 1)) dX8_round_62 rfl (inc1 i) (by decide) rfl ?_
              refine pw_goto (tgt := 19) dX8_round_65 (by decide) ?_
              refine pw_sub [4, 5, 2, 1, 0] rfl ?_
              exact ih_19 (i + 1) _ _ nm1 sk1 st1 hlt (by rw [← hx, show nj - i = (nj - (i + 1)) + 1 by omega]; show _ = roL B V nh _ (i + 1) (if _ then _ else _); rw [if_neg c_39]) (by omega)
    refine pw_sub [3, 4, 2, 1, 0] rfl ?_
    exact L_19 (nj + 1) 0 (-1) (-1) nm sk st (Nat.zero_le _) rfl (by omega)
  · skip
    have hb_6 := b2_0 c_6
    refine pw_bipush (v := (-2)) dX8_round_9 rfl ?_
    refine pw_iret dX8_round_11 rfl ?_
    exact ⟨by unfold roundF; rw [hb_6]; rfl, _, _, _, rfl⟩

