theorem okL_t {μ : PM} {B : BK} {V : VW} {j h : Nat} (hL : okL μ B V) : okL μ B (tellV B V j h) := okL_V hL rfl
set_option maxHeartbeats 4000000 in
set_option maxRecDepth 100000 in
theorem T_X8_roundOf {l : Launch} {μ : PM} {B : BK} {V : VW} {nm sk st : Nat → Int32} {nh j : Nat} (hL : okL μ B V) (h5 : V 0 5 = nI nh) (hh6 : nh ≤ 6) (hj : j < 5) (hp : ∀ h, h < nh → pwOK V j h) : CT l SM yX8_roundOf cX8_roundOf 4 (some .int) 6 [.ref 0, .int (nI j)] (mm μ V nm sk st 0) (QI fun x m => x = teF B V j nh ∧ ∃ nm2 sk2 st2, m = mm μ V nm2 sk2 st2 0) := by
  refine CT.of rfl (Nat.le_of_ble_eq_true rfl) ?_
  show PW l SM RX8 cX8_roundOf 4 (some .int) 6 _ 0 [(0, .ref 0), (1, .int (nI j))] [] (mm μ V nm sk st 0)
  refine pw_iconst (v := 0) dX8_roundOf_0 rfl ?_
  refine pw_istore_n (ls2 := [(2, _), (0, _), (1, _)]) dX8_roundOf_1 rfl (by decide) rfl ?_
  refine pw_iconst (v := 0) dX8_roundOf_2 rfl ?_
  refine pw_istore_n (ls2 := [(3, _), (2, _), (0, _), (1, _)]) dX8_roundOf_3 rfl (by decide) rfl ?_
  have L_4 : ∀ (fu_4 : Nat) (i : Nat) (s : Int32) (U : VW) (nm sk st : Nat → Int32), (i ≤ nh) → (s = teF B V j i) → (U = tlE B j 0 i V) → (unOK st i) → (unL st i U = V) → (∀ h, h < nh → pwOK U j h) → nh - i < fu_4 → PW l SM RX8 cX8_roundOf 4 (some .int) 6 (QI fun x m => x = teF B V j nh ∧ ∃ nm2 sk2 st2, m = mm μ V nm2 sk2 st2 0) 4 [(0, .ref 0), (1, .int (nI j)), (2, .int s), (3, .int (nI i))] [] (mm μ U nm sk st (nI i)) := by
    intro fu_4
    induction fu_4 with
    | zero =>
      intro i s U nm sk st hi hs hUe hu hun hpw hm_4
      exact absurd hm_4 (Nat.not_lt_zero _)
    | succ fu_4 ih_4 =>
      intro i s U nm sk st hi hs hUe hu hun hpw hm_4
      refine pw_iload_n dX8_roundOf_4 rfl rfl ?_
      refine pw_aload_n dX8_roundOf_5 rfl rfl ?_
      refine pw_getI dX8_roundOf_6 fa_X8_82 rfl ?_
      have hU5 : U 0 5 = nI nh := by rw [hUe, tlE_0]; exact h5
      have hLU : okL μ B U := okL_V hL (by rw [hUe, tlE_0])
      refine pw_top (y := nI nh) hU5 ?_
      refine pw_icmp_ge (tgt := 27) dX8_roundOf_9 (by decide) (fun c_9 => ?_) (fun c_9 => ?_)
      · skip
        have hge := nI_geD (by omega) c_9
        refine pw_aload_n dX8_roundOf_27 rfl rfl ?_
        refine pw_cVv dX8_roundOf_28 mv_X8_214 ckModel (T_X8_takesBack (n := i) (V := U) (by omega) hu) rfl rfl (Nat.le_of_ble_eq_true rfl) (by decide) (fun m_28 h_28 => ?_)
        obtain rfl := h_28
        refine pw_iload_n dX8_roundOf_31 rfl rfl ?_
        refine pw_iret dX8_roundOf_32 rfl ?_
        exact ⟨by rw [hs, show i = nh by omega], _, _, _, by rw [hun]⟩
      · skip
        have hlt := nI_ltD (by omega) c_9
        refine pw_iload_n dX8_roundOf_12 rfl rfl ?_
        refine pw_aload_n dX8_roundOf_13 rfl rfl ?_
        refine pw_iload_n dX8_roundOf_14 rfl rfl ?_
        refine pw_iload_n dX8_roundOf_15 rfl rfl ?_
        refine pw_cVi dX8_roundOf_16 mv_X8_199 ckModel (T_X8_tells (n := i) (V := U) (j := j) (h := i) hLU hj (by omega) (hpw i hlt) (by omega)) rfl rfl (Nat.le_of_ble_eq_true rfl) (by decide) (fun x_16 m_16 h_16 => ?_)
        obtain ⟨rfl, nm1, sk1, rfl⟩ := h_16
        refine pw_iadd dX8_roundOf_19 ?_
        refine pw_istore_n (ls2 := [(2, _), (0, _), (1, _), (3, _)]) dX8_roundOf_20 rfl (by decide) rfl ?_
        refine pw_iinc (ls2 := [(3, _), (2, _), (0, _), (1, _)]) (v := nI (i + 1)) dX8_roundOf_21 rfl (inc1 i) (by decide) rfl ?_
        refine pw_goto (tgt := 4) dX8_roundOf_24 (by decide) ?_
        refine pw_sub [2, 3, 1, 0] rfl ?_
        exact ih_4 (i + 1) _ _ nm1 sk1 _ hlt (by rw [hs, hUe]; rfl) (by rw [hUe]; show _ = tellV B _ j (0 + i); rw [Nat.zero_add]) (un_ok hj (by omega) hu) ((un_tell hj (by omega)).trans hun) (fun h hh => pw_tell (hpw i hlt) (hpw h hh)) (by omega)
  refine pw_sub [2, 3, 1, 0] rfl ?_
  exact L_4 (nh + 1) 0 0 V nm sk st (Nat.zero_le _) rfl rfl (fun k hk => absurd hk (Nat.not_lt_zero _)) rfl hp (by omega)

