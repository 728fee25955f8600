def mnB (f : Nat → Int32) (k : Nat) : Int32 := if k = 0 then -1 else nI (amx f k).2
theorem mnB_lt {f : Nat → Int32} {k : Nat} (h : (amx f k).1 < f k) : mnB f (k + 1) = nI k ∧ (amx f (k + 1)).1 = f k := by
  have e : amx f (k + 1) = (f k, k) := if_pos h
  exact ⟨by unfold mnB; rw [if_neg (by omega), e], by rw [e]⟩
theorem mnB_ge {f : Nat → Int32} {k : Nat} (h : ¬ (amx f k).1 < f k) (h0 : k = 0 → -1 < f 0) : mnB f (k + 1) = mnB f k ∧ (amx f (k + 1)).1 = (amx f k).1 := by
  have e : amx f (k + 1) = amx f k := if_neg h
  refine ⟨?_, by rw [e]⟩
  unfold mnB
  by_cases q : k = 0
  · subst q; exact absurd (h0 rfl) h
  · rw [if_neg (by omega), if_neg q, e]
theorem yAt_0 (B : BK) (V : VW) (nh i : Nat) : -1 < yAt B V nh i := by
  unfold yAt
  obtain ⟨y, hy, e⟩ := yF_b B V (i / nh) (i % nh)
  rw [e]
  exact Int32.lt_of_lt_of_le (by decide) (nI_pos' (by omega))
set_option maxHeartbeats 4000000 in
set_option maxRecDepth 100000 in
theorem T_X8_allMany {l : Launch} {μ : PM} {V : VW} {nm sk st : Nat → Int32} {sn : Int32} {nj nh : Nat} (h1 : V 0 1 = nI nj) (h5 : V 0 5 = nI nh) (hj5 : nj ≤ 5) (hh6 : nh ≤ 6) : CT l SM yX8_allMany cX8_allMany 1 (some .int) 1 [.ref 0] (mm μ V nm sk st sn) (QI fun x m => x = nI (nj * nh) ∧ m = mm μ V nm sk st sn) := by
  refine CT.of rfl (Nat.le_of_ble_eq_true rfl) ?_
  show PW l SM RX8 cX8_allMany 1 (some .int) 1 _ 0 [(0, .ref 0)] [] (mm μ V nm sk st sn)
  refine pw_aload_n dX8_allMany_0 rfl rfl ?_
  refine pw_getI dX8_allMany_1 fa_X8_75 rfl ?_
  refine pw_top (y := nI nj) h1 ?_
  refine pw_aload_n dX8_allMany_4 rfl rfl ?_
  refine pw_getI dX8_allMany_5 fa_X8_82 rfl ?_
  refine pw_top (y := nI nh) h5 ?_
  refine pw_imul dX8_allMany_8 ?_
  refine pw_top (y := nI (nj * nh)) (pk_mul _ _) ?_
  refine pw_iret dX8_allMany_9 rfl ?_
  exact ⟨rfl, rfl⟩

set_option maxHeartbeats 4000000 in
set_option maxRecDepth 100000 in
theorem T_X8_mostNow {l : Launch} {μ : PM} {B : BK} {V : VW} {nm sk st : Nat → Int32} {sn : Int32} {nj nh : Nat} (hL : okL μ B V) (h1 : V 0 1 = nI nj) (h5 : V 0 5 = nI nh) (hj5 : nj ≤ 5) (hh6 : nh ≤ 6) : CT l SM yX8_mostNow cX8_mostNow 5 (some .int) 5 [.ref 0] (mm μ V nm sk st sn) (QI fun x m => x = mnB (yAt B V nh) (nj * nh) ∧ ∃ nm2 sk2, m = mm μ (V) nm2 sk2 st sn) := by
  refine CT.of rfl (Nat.le_of_ble_eq_true rfl) ?_
  show PW l SM RX8 cX8_mostNow 5 (some .int) 5 _ 0 [(0, .ref 0)] [] (mm μ V nm sk st sn)
  have hmul : nj * nh ≤ 30 := Nat.mul_le_mul hj5 hh6
  refine pw_iconst (v := (-1)) dX8_mostNow_0 rfl ?_
  refine pw_istore_n (ls2 := [(1, _), (0, _)]) dX8_mostNow_1 rfl (by decide) rfl ?_
  refine pw_iconst (v := (-1)) dX8_mostNow_2 rfl ?_
  refine pw_istore_n (ls2 := [(2, _), (1, _), (0, _)]) dX8_mostNow_3 rfl (by decide) rfl ?_
  refine pw_iconst (v := 0) dX8_mostNow_4 rfl ?_
  refine pw_istore_n (ls2 := [(3, _), (2, _), (1, _), (0, _)]) dX8_mostNow_5 rfl (by decide) rfl ?_
  have L_6 : ∀ (fu_6 : Nat) (k : Nat) (nm sk : Nat → Int32), (k ≤ nj * nh) → nj * nh - k < fu_6 → PW l SM RX8 cX8_mostNow 5 (some .int) 5 (QI fun x m => x = mnB (yAt B V nh) (nj * nh) ∧ ∃ nm2 sk2, m = mm μ (V) nm2 sk2 st sn) 6 [(0, .ref 0), (1, .int (mnB (yAt B V nh) k)), (2, .int (amx (yAt B V nh) k).1), (3, .int (nI k))] [] (mm μ V nm sk st sn) := by
    intro fu_6
    induction fu_6 with
    | zero =>
      intro k nm sk hk hm_6
      exact absurd hm_6 (Nat.not_lt_zero _)
    | succ fu_6 ih_6 =>
      intro k nm sk hk hm_6
      refine pw_iload_n dX8_mostNow_6 rfl rfl ?_
      refine pw_aload_n dX8_mostNow_7 rfl rfl ?_
      refine pw_cVi dX8_mostNow_8 mv_X8_205 ckModel (T_X8_allMany h1 h5 hj5 hh6) rfl rfl (Nat.le_of_ble_eq_true rfl) (by decide) (fun x_8 m_8 h_8 => ?_)
      obtain ⟨rfl, rfl⟩ := h_8
      refine pw_icmp_ge (tgt := 63) dX8_mostNow_11 (by decide) (fun c_11 => ?_) (fun c_11 => ?_)
      · skip
        have hge := nI_geD (by omega) c_11
        refine pw_iload_n dX8_mostNow_63 rfl rfl ?_
        refine pw_iret dX8_mostNow_64 rfl ?_
        exact ⟨by rw [show k = nj * nh by omega], _, _, rfl⟩
      · skip
        have hlt := nI_ltD (by omega) c_11
        have hp : 0 < nh := by
          rcases Nat.eq_zero_or_pos nh with q | q
          · subst q; omega
          · exact q
        have hd1 : k / nh < nj := Nat.div_lt_of_lt_mul (by rw [Nat.mul_comm]; omega)
        have hd2 : k % nh < nh := Nat.mod_lt _ hp
        refine pw_aload_n dX8_mostNow_14 rfl rfl ?_
        refine pw_iload_n dX8_mostNow_15 rfl rfl ?_
        refine pw_aload_n dX8_mostNow_16 rfl rfl ?_
        refine pw_getI dX8_mostNow_17 fa_X8_82 rfl ?_
        refine pw_top (y := nI nh) h5 ?_
        refine pw_idiv dX8_mostNow_20 (nI_ne0 hp (by omega)) ?_
        refine pw_top (y := nI (k / nh)) (pk_div (by omega) hp (by omega)) ?_
        refine pw_iload_n dX8_mostNow_21 rfl rfl ?_
        refine pw_aload_n dX8_mostNow_22 rfl rfl ?_
        refine pw_getI dX8_mostNow_23 fa_X8_82 rfl ?_
        refine pw_top (y := nI nh) h5 ?_
        refine pw_irem dX8_mostNow_26 (nI_ne0 hp (by omega)) ?_
        refine pw_top (y := nI (k % nh)) (pk_rem (by omega) hp (by omega)) ?_
        refine pw_cVi dX8_mostNow_27 mv_X8_190 ckModel (T_X8_yieldsOf (j := k / nh) (h := k % nh) hL (by omega) (by omega)) rfl rfl (Nat.le_of_ble_eq_true rfl) (by decide) (fun x_27 m_27 h_27 => ?_)
        obtain ⟨rfl, nm1, sk1, rfl⟩ := h_27
        refine pw_top (y := yAt B V nh k) rfl ?_
        refine pw_istore (ls2 := [(4, _), (0, _), (1, _), (2, _), (3, _)]) dX8_mostNow_30 (by decide) rfl ?_
        refine pw_iload dX8_mostNow_32 rfl ?_
        refine pw_iload_n dX8_mostNow_34 rfl rfl ?_
        refine pw_icmp_le (tgt := 42) dX8_mostNow_35 (by decide) (fun c_35 => ?_) (fun c_35 => ?_)
        · skip
          refine pw_iload_n dX8_mostNow_42 rfl rfl ?_
          refine pw_istore_n (ls2 := [(1, _), (4, _), (0, _), (2, _), (3, _)]) dX8_mostNow_43 rfl (by decide) rfl ?_
          refine pw_iload dX8_mostNow_44 rfl ?_
          refine pw_iload_n dX8_mostNow_46 rfl rfl ?_
          refine pw_icmp_le (tgt := 55) dX8_mostNow_47 (by decide) (fun c_47 => ?_) (fun c_47 => ?_)
          · skip
            refine pw_iload_n dX8_mostNow_55 rfl rfl ?_
            refine pw_istore_n (ls2 := [(2, _), (1, _), (4, _), (0, _), (3, _)]) dX8_mostNow_56 rfl (by decide) rfl ?_
            refine pw_iinc (ls2 := [(3, _), (2, _), (1, _), (4, _), (0, _)]) (v := nI (k + 1)) dX8_mostNow_57 rfl (inc1 k) (by decide) rfl ?_
            refine pw_goto (tgt := 6) dX8_mostNow_60 (by decide) ?_
            refine pw_sub [4, 2, 1, 0] rfl ?_
            have hg := mnB_ge (f := yAt B V nh) (k := k) (Int32.not_lt.mpr c_35) (fun _ => yAt_0 B V nh 0)
            rw [← hg.1, ← hg.2]
            exact ih_6 (k + 1) nm1 sk1 hlt (by omega)
          · skip
            exact absurd c_35 c_47
        · skip
          refine pw_iload_n dX8_mostNow_38 rfl rfl ?_
          refine pw_goto (tgt := 43) dX8_mostNow_39 (by decide) ?_
          refine pw_istore_n (ls2 := [(1, _), (4, _), (0, _), (2, _), (3, _)]) dX8_mostNow_43 rfl (by decide) rfl ?_
          refine pw_iload dX8_mostNow_44 rfl ?_
          refine pw_iload_n dX8_mostNow_46 rfl rfl ?_
          refine pw_icmp_le (tgt := 55) dX8_mostNow_47 (by decide) (fun c_47 => ?_) (fun c_47 => ?_)
          · skip
            exact absurd c_47 c_35
          · skip
            refine pw_iload dX8_mostNow_50 rfl ?_
            refine pw_goto (tgt := 56) dX8_mostNow_52 (by decide) ?_
            refine pw_istore_n (ls2 := [(2, _), (1, _), (4, _), (0, _), (3, _)]) dX8_mostNow_56 rfl (by decide) rfl ?_
            refine pw_iinc (ls2 := [(3, _), (2, _), (1, _), (4, _), (0, _)]) (v := nI (k + 1)) dX8_mostNow_57 rfl (inc1 k) (by decide) rfl ?_
            refine pw_goto (tgt := 6) dX8_mostNow_60 (by decide) ?_
            refine pw_sub [4, 2, 1, 0] rfl ?_
            have hg := mnB_lt (f := yAt B V nh) (k := k) (Int32.not_le.mp c_35)
            rw [← hg.1, ← hg.2]
            exact ih_6 (k + 1) nm1 sk1 hlt (by omega)
  refine pw_sub [3, 2, 1, 0] rfl ?_
  exact L_6 (nj * nh + 1) 0 nm sk (Nat.zero_le _) (by omega)

