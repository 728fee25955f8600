set_option maxHeartbeats 4000000 in
set_option maxRecDepth 100000 in
theorem T_X4_start {l : Launch} {μ : PM} {T : VW} {nm sk : Nat → Int32} {nj nh n : Nat} (hc : okC μ T) (h1 : T 0 1 = nI nj) (h5 : T 0 5 = nI nh) (hj5 : nj ≤ 5) (hh6 : nh ≤ 6) (hn : 1 ≤ n) (hn3 : n ≤ 3) : CT l SC yX4_start cX4_start 4 none 12 [.ref 13, .int (nI n)] (sc (wr μ 32 T) nm sk) (QV fun m => ∃ nm2 sk2 be2 r2 br2 ws2, m = (sc (wr (sM μ (nI n) be2 r2 br2 ws2) 32 T) nm2 sk2) ∧ relA be2 br2 (dsc (bk μ) nj nh n T [] 0 (-1, []))) := by
  refine CT.of rfl (Nat.le_of_ble_eq_true rfl) ?_
  show PW l SC RX4 cX4_start 4 none 12 _ 0 [(0, .ref 13), (1, .int (nI n))] [] (sc (wr μ 32 T) nm sk)
  refine pw_aload_n dX4_start_0 rfl rfl ?_
  refine pw_iload_n dX4_start_1 rfl rfl ?_
  refine pw_iconst (v := 3) dX4_start_2 rfl ?_
  refine pw_imin dX4_start_3 lnk_X4_32 (by decide) (Nat.le_of_ble_eq_true rfl) ?_
  refine pw_top (y := nI n) (min3 hn3) ?_
  refine pw_putI dX4_start_6 fa_X4_9 rfl ?_
  refine pw_aload_n dX4_start_9 rfl rfl ?_
  refine pw_iconst (v := (-1)) dX4_start_10 rfl ?_
  refine pw_putI dX4_start_11 fa_X4_15 rfl ?_
  refine pw_mem (by rw [si_sc (by decide) (by decide), si_wrO (by decide), si_sc (by decide) (by decide), si_wrO (by decide), sM_of]) ?_
  refine pw_iconst (v := 0) dX4_start_14 rfl ?_
  refine pw_istore_n (ls2 := [(2, _), (0, _), (1, _)]) dX4_start_15 rfl (by decide) rfl ?_
  have L_16 : ∀ (fu_16 : Nat) (j : Nat) (nm1 sk1 ws1 : Nat → Int32), (j ≤ nj) → (∀ j2 h2, (j2 < j ∨ j2 = j ∧ h2 < 0) → h2 < nh → ws1 (6 * j2 + h2) = yF (bk μ) T j2 h2) → nj - j < fu_16 → PW l SC RX4 cX4_start 4 none 12 (QV fun m => ∃ nm2 sk2 be2 r2 br2 ws2, m = (sc (wr (sM μ (nI n) be2 r2 br2 ws2) 32 T) nm2 sk2) ∧ relA be2 br2 (dsc (bk μ) nj nh n T [] 0 (-1, []))) 16 [(0, .ref 13), (2, .int (nI j))] [] (sc (wr (sM μ (nI n) (-1) (μ.1 14) (μ.1 15) ws1) 32 T) nm1 sk1) := by
    intro fu_16
    induction fu_16 with
    | zero =>
      intro j nm1 sk1 ws1 hj hws hm_16
      exact absurd hm_16 (Nat.not_lt_zero _)
    | succ fu_16 ih_16 =>
      intro j nm1 sk1 ws1 hj hws hm_16
      refine pw_iload_n dX4_start_16 rfl rfl ?_
      refine pw_aload_n dX4_start_17 rfl rfl ?_
      refine pw_getR dX4_start_18 fa_X4_28 rfl ?_
      refine pw_getI dX4_start_21 fa_X4_38 rfl ?_
      refine pw_top (y := nI nj) h1 ?_
      refine pw_icmp_ge (tgt := 72) dX4_start_24 (by decide) (fun c_24 => ?_) (fun c_24 => ?_)
      · skip
        have hgj := nI_geD (by omega) c_24
        refine pw_aload_n dX4_start_72 rfl rfl ?_
        refine pw_iconst (v := 0) dX4_start_73 rfl ?_
        refine pw_iconst (v := 0) dX4_start_74 rfl ?_
        refine pw_cSv dX4_start_75 ms_X4_53 (descend_n (n1 := n - 1) (n := n) (by omega) hn3 hj5 hh6 hc h1 h5 (fun j2 h2 a2 b2 => hws j2 h2 (Or.inl (by omega)) b2)) rfl rfl (Nat.le_of_ble_eq_true rfl) (by omega) (fun m_75 h_75 => ?_)
        obtain ⟨nm4, sk4, be4, r4, br4, ws4, rfl, hA4⟩ := h_75
        refine pw_vret dX4_start_78 rfl ?_
        exact ⟨_, _, _, _, _, _, rfl, hA4⟩
      · skip
        have hlj := nI_ltD (by omega) c_24
        refine pw_iconst (v := 0) dX4_start_27 rfl ?_
        refine pw_istore_n (ls2 := [(3, _), (0, _), (2, _)]) dX4_start_28 rfl (by decide) rfl ?_
        have L_29 : ∀ (fu_29 : Nat) (h : Nat) (nm1 sk1 ws1 : Nat → Int32), (h ≤ nh) → (∀ j2 h2, (j2 < j ∨ j2 = j ∧ h2 < h) → h2 < nh → ws1 (6 * j2 + h2) = yF (bk μ) T j2 h2) → nh - h < fu_29 → PW l SC RX4 cX4_start 4 none 12 (QV fun m => ∃ nm2 sk2 be2 r2 br2 ws2, m = (sc (wr (sM μ (nI n) be2 r2 br2 ws2) 32 T) nm2 sk2) ∧ relA be2 br2 (dsc (bk μ) nj nh n T [] 0 (-1, []))) 29 [(0, .ref 13), (2, .int (nI j)), (3, .int (nI h))] [] (sc (wr (sM μ (nI n) (-1) (μ.1 14) (μ.1 15) ws1) 32 T) nm1 sk1) := by
          intro fu_29
          induction fu_29 with
          | zero =>
            intro h nm1 sk1 ws1 hh hws hm_29
            exact absurd hm_29 (Nat.not_lt_zero _)
          | succ fu_29 ih_29 =>
            intro h nm1 sk1 ws1 hh hws hm_29
            refine pw_iload_n dX4_start_29 rfl rfl ?_
            refine pw_aload_n dX4_start_30 rfl rfl ?_
            refine pw_getR dX4_start_31 fa_X4_28 rfl ?_
            refine pw_getI dX4_start_34 fa_X4_43 rfl ?_
            refine pw_top (y := nI nh) h5 ?_
            refine pw_icmp_ge (tgt := 66) dX4_start_37 (by decide) (fun c_37 => ?_) (fun c_37 => ?_)
            · skip
              have hgh := nI_geD (by omega) c_37
              refine pw_iinc (ls2 := [(2, _), (0, _), (3, _)]) (v := nI (j + 1)) dX4_start_66 rfl (inc1 j) (by decide) rfl ?_
              refine pw_goto (tgt := 16) dX4_start_69 (by decide) ?_
              refine pw_sub [1, 0] rfl ?_
              exact ih_16 (j + 1) nm1 sk1 ws1 hlj (fun j2 h2 a2 b2 => hws j2 h2 (by omega) b2) (by omega)
            · skip
              have hlh := nI_ltD (by omega) c_37
              refine pw_aload_n dX4_start_40 rfl rfl ?_
              refine pw_getR dX4_start_41 fa_X4_25 rfl ?_
              refine pw_iconst (v := 0) dX4_start_44 rfl ?_
              refine pw_iload_n dX4_start_45 rfl rfl ?_
              refine pw_iload_n dX4_start_46 rfl rfl ?_
              refine pw_eq (st' := [.int (nI h), .int (nI j), .int (nI 0), .ref 16]) rfl rfl rfl rfl ?_
              refine pw_cSi dX4_start_47 ms_X4_46 T_X4_place rfl rfl (Nat.le_of_ble_eq_true rfl) (by decide) (fun x_47 m_47 h_47 => ?_)
              obtain ⟨rfl, rfl⟩ := h_47
              refine pw_aload_n dX4_start_50 rfl rfl ?_
              refine pw_getR dX4_start_51 fa_X4_28 rfl ?_
              refine pw_iload_n dX4_start_54 rfl rfl ?_
              refine pw_iload_n dX4_start_55 rfl rfl ?_
              refine pw_cVi dX4_start_56 mv_X4_50 ckThought (T_X6_worth (μ := sM μ (nI n) (-1) (μ.1 14) (μ.1 15) _) (w := 32) i32 (okC_sM hc) (by omega) (by omega)) rfl rfl (Nat.le_of_ble_eq_true rfl) (by decide) (fun x_56 m_56 h_56 => ?_)
              obtain ⟨rfl, nm2, sk2, rfl⟩ := h_56
              refine pw_iast (j := 6 * j + h) dX4_start_59 rfl (congrArg nI (by omega)) (by omega) ?_
              refine pw_mem (by rw [si_sc (by decide) (by decide), si_wrO (by decide), sM_ws]) ?_
              refine pw_iinc (ls2 := [(3, _), (0, _), (2, _)]) (v := nI (h + 1)) dX4_start_60 rfl (inc1 h) (by decide) rfl ?_
              refine pw_goto (tgt := 29) dX4_start_63 (by decide) ?_
              refine pw_sub [1, 2, 0] rfl ?_
              exact ih_29 (h + 1) nm2 sk2 _ hlh (fun j2 h2 a2 b2 => by
                by_cases e : 6 * j2 + h2 = 6 * j + h
                · have e1 : j2 = j := by omega
                  have e2 : h2 = h := by omega
                  rw [e1, e2, upd_s]
                  rfl
                · rw [upd_o _ _ e]
                  exact hws j2 h2 (by omega) b2) (by omega)
        refine pw_sub [1, 2, 0] rfl ?_
        exact L_29 (nh + 1) 0 nm1 sk1 ws1 (Nat.zero_le _) hws (by omega)
  refine pw_sub [1, 0] rfl ?_
  exact L_16 (nj + 1) 0 nm sk (μ.1 16) (Nat.zero_le _) (fun j2 h2 a2 _ => by omega) (by omega)

