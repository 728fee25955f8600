theorem vu_id (V : VW) (r i : Nat) : vu V r i (V r i) = V := by
  funext k x
  rw [vu_at]
  by_cases h : k = r
  · subst h
    by_cases q : x = i
    · subst q; rw [if_pos rfl, if_pos rfl]
    · rw [if_pos rfl, if_neg q]
  · rw [if_neg h]
theorem vu_vi (V : VW) (r i : Nat) (w : Int32) : vu (vu V r i w) r i (V r i) = V := (vu_vu V r i w (V r i)).trans (vu_id V r i)
theorem shl_0 : ∀ f, f < 16 → (0 : Int32) <<< (nI f &&& 31) = 0 := by decide +kernel
theorem fit_y {B : BK} {V : VW} {ce : Nat → Int32} {s h nj : Nat} (e : otF B V ce s h nj 0 = -1) : fitF B V ce s h nj = 1 := if_pos e
theorem fit_n {B : BK} {V : VW} {ce : Nat → Int32} {s h nj : Nat} (e : ¬ otF B V ce s h nj 0 = -1) : fitF B V ce s h nj = 0 := if_neg e
theorem bi_y {B : BK} {V : VW} {ce : Nat → Int32} {s h nj r i m f : Nat} {b R : Int32} (hx : biL B V ce s h nj r i (m + 1) f b = R) (e : otF B (vu V r i (nI f)) ce s h nj 0 = -1) : biL B V ce s h nj r i m (f + 1) (b ||| ((1 : Int32) <<< (nI f &&& 31))) = R := by
  change biL B V ce s h nj r i m (f + 1) (b ||| (fitF B (vu V r i (nI f)) ce s h nj <<< (nI f &&& 31))) = R at hx
  rw [fit_y e] at hx
  exact hx
theorem bi_n {B : BK} {V : VW} {ce : Nat → Int32} {s h nj r i m f : Nat} {b R : Int32} (hf : f < 16) (hx : biL B V ce s h nj r i (m + 1) f b = R) (e : ¬ otF B (vu V r i (nI f)) ce s h nj 0 = -1) : biL B V ce s h nj r i m (f + 1) (b ||| 0) = R := by
  change biL B V ce s h nj r i m (f + 1) (b ||| (fitF B (vu V r i (nI f)) ce s h nj <<< (nI f &&& 31))) = R at hx
  rw [fit_n e, shl_0 f hf] at hx
  exact hx
theorem and_m1 (x : Int32) : x &&& (0 ^^^ -1) = x := by
  apply Int32.toBitVec_inj.mp
  rw [Int32.toBitVec_and]
  show x.toBitVec &&& BitVec.allOnes 32 = x.toBitVec
  exact BitVec.and_allOnes
theorem and_no (a y f : Int32) : (a &&& (y ^^^ -1)) &&& (f ^^^ -1) = a &&& ((y ||| f) ^^^ -1) := by
  apply Int32.toBitVec_inj.mp
  simp only [Int32.toBitVec_and, Int32.toBitVec_xor, Int32.toBitVec_or]
  apply BitVec.eq_of_getLsbD_eq
  intro i hi
  simp only [BitVec.getLsbD_and, BitVec.getLsbD_xor, BitVec.getLsbD_or]
  have h1 : (-1 : Int32).toBitVec.getLsbD i = true := by
    show (BitVec.allOnes 32).getLsbD i = true
    rw [BitVec.getLsbD_allOnes]
    exact decide_eq_true hi
  rw [h1]
  cases a.toBitVec.getLsbD i <;> cases y.toBitVec.getLsbD i <;> cases f.toBitVec.getLsbD i <;> rfl
theorem kd_0 (V : VW) (j : Nat) (w x : Int32) : vu (vu (vu V 1 j w) 1 j x) 2 j (V 2 j) = vu V 1 j x := by
  rw [vu_vu]
  exact vu_id (vu V 1 j x) 2 j
theorem kd_1 (V : VW) (j : Nat) (w y : Int32) : vu (vu (vu V 2 j w) 1 j (V 1 j)) 2 j y = vu V 2 j y := by
  rw [show vu (vu V 2 j w) 1 j (V 1 j) = vu V 2 j w from vu_id (vu V 2 j w) 1 j, vu_vu]
theorem kd_e (V : VW) (j r : Nat) (w : Int32) (hr : r = 1 ∨ r = 2) : vu (vu (vu V r j w) 1 j (V 1 j)) 2 j (V 2 j) = V := by
  rcases hr with rfl | rfl
  · rw [vu_vu, vu_id, vu_id]
  · rw [kd_1, vu_id]
theorem jk_m1 {V : VW} : jkF V (-1) = false := by
  unfold jkF inF
  rw [decide_eq_false (show ¬ (0 : Int32) ≤ -1 by decide)]
  rfl
set_option maxHeartbeats 4000000 in
set_option maxRecDepth 100000 in
theorem T_X8_humours {l : Launch} {μ : PM} {B : BK} {V : VW} {nm sk st : Nat → Int32} {sn : Int32} {nj nh : Nat} {s h : Int32} (hL : okL μ B V) (h1 : V 0 1 = nI nj) (hj5 : nj ≤ 5) (h5 : V 0 5 = nI nh) (hh6 : nh ≤ 6) : CT l SM yX8_humours cX8_humours 7 (some .int) 6 [.ref 0, .int s, .int h] (mm μ V nm sk st sn) (QI fun x m => x = humF B V (μ.1 10) (μ.1 11) (μ.1 12) nj s h ∧ ∃ nm2 sk2, m = mm μ (V) nm2 sk2 st sn) := by
  refine CT.of rfl (Nat.le_of_ble_eq_true rfl) ?_
  show PW l SM RX8 cX8_humours 7 (some .int) 6 _ 0 [(0, .ref 0), (1, .int s), (2, .int h)] [] (mm μ V nm sk st sn)
  refine pw_aload_n dX8_humours_0 rfl rfl ?_
  refine pw_iload_n dX8_humours_1 rfl rfl ?_
  refine pw_iload_n dX8_humours_2 rfl rfl ?_
  refine pw_cVi dX8_humours_3 mv_X8_276 ckModel T_X8_toldWrong rfl rfl (Nat.le_of_ble_eq_true rfl) (by decide) (fun x_3 m_3 h_3 => ?_)
  obtain ⟨rfl, rfl⟩ := h_3
  refine pw_istore_n (ls2 := [(3, _), (0, _), (1, _), (2, _)]) dX8_humours_6 rfl (by decide) rfl ?_
  refine pw_iload_n dX8_humours_7 rfl rfl ?_
  refine pw_if_eq (tgt := 13) dX8_humours_8 (by decide) (fun c_8 => ?_) (fun c_8 => ?_)
  · skip
    have hr0 : rjF (μ.1 10) (μ.1 11) V s h = 0 := c_8
    obtain ⟨hr1, hhr⟩ := rj_0 hr0
    obtain ⟨s, hs4, rfl, hso, hsz⟩ := rs_0 hr1
    obtain ⟨h, hlh, hsh, rfl⟩ := hr_of h5 hh6 hhr
    refine pw_aload_n dX8_humours_13 rfl rfl ?_
    refine pw_getR dX8_humours_14 fa_X8_19 rfl ?_
    refine pw_iconst (v := 5) dX8_humours_17 rfl ?_
    refine pw_iload_n dX8_humours_18 rfl rfl ?_
    refine pw_imul dX8_humours_19 ?_
    refine pw_iald (j := 5 * h + 0) dX8_humours_20 rfl (by show nI 5 * nI h = _; rw [pk_mul]; rfl) (by omega) ?_
    refine pw_top (y := V 4 h) (hl_at (by decide)) ?_
    refine pw_istore (ls2 := [(4, _), (3, _), (0, _), (1, _), (2, _)]) dX8_humours_21 (by decide) rfl ?_
    refine pw_iconst (v := 0) dX8_humours_23 rfl ?_
    refine pw_istore (ls2 := [(5, _), (4, _), (3, _), (0, _), (1, _), (2, _)]) dX8_humours_24 (by decide) rfl ?_
    refine pw_iconst (v := 0) dX8_humours_26 rfl ?_
    refine pw_istore (ls2 := [(6, _), (5, _), (4, _), (3, _), (0, _), (1, _), (2, _)]) dX8_humours_27 (by decide) rfl ?_
    have L_29 : ∀ (fu_29 : Nat) (f : Nat) (b w : Int32) (nm sk : Nat → Int32), (f ≤ 10) → (biL B V (μ.1 12) s h nj 4 h (10 - f) f b = biL B V (μ.1 12) s h nj 4 h 10 0 0) → 10 - f < fu_29 → PW l SM RX8 cX8_humours 7 (some .int) 6 (QI fun x m => x = humF B V (μ.1 10) (μ.1 11) (μ.1 12) nj (nI s) (nI h) ∧ ∃ nm2 sk2, m = mm μ (V) nm2 sk2 st sn) 29 [(0, .ref 0), (1, .int (nI s)), (2, .int (nI h)), (4, .int (V 4 h)), (5, .int b), (6, .int (nI f))] [] (mm μ (vu V 4 h w) nm sk st sn) := by
      intro fu_29
      induction fu_29 with
      | zero =>
        intro f b w nm sk hi hx hm_29
        exact absurd hm_29 (Nat.not_lt_zero _)
      | succ fu_29 ih_29 =>
        intro f b w nm sk hi hx hm_29
        refine pw_iload dX8_humours_29 rfl ?_
        refine pw_bipush (v := 10) dX8_humours_31 rfl ?_
        refine pw_icmp_ge (tgt := 75) dX8_humours_33 (by decide) (fun c_33 => ?_) (fun c_33 => ?_)
        · skip
          have hge := nI_geD (n := 10) (by decide) c_33
          refine pw_aload_n dX8_humours_75 rfl rfl ?_
          refine pw_getR dX8_humours_76 fa_X8_19 rfl ?_
          refine pw_iconst (v := 5) dX8_humours_79 rfl ?_
          refine pw_iload_n dX8_humours_80 rfl rfl ?_
          refine pw_imul dX8_humours_81 ?_
          refine pw_iload dX8_humours_82 rfl ?_
          refine pw_iast (j := 5 * h) dX8_humours_84 rfl (pk_mul 5 h) (by omega) ?_
          refine pw_mem ((m_4 (i := 0) (by decide)).trans (congrArg (fun U => mm μ U nm sk st sn) (vu_vi V 4 h w))) ?_
          refine pw_iload dX8_humours_85 rfl ?_
          refine pw_iret dX8_humours_87 rfl ?_
          rw [show 10 - f = 0 by omega] at hx
          exact ⟨by unfold humF; rw [if_pos hr0, cl_nI (show s < 2 ^ 31 by omega), cl_nI (show h < 2 ^ 31 by omega)]; exact hx, _, _, rfl⟩
        · skip
          have hlt := nI_ltD (n := 10) (by omega) c_33
          have hx2 := hx
          rw [show 10 - f = (10 - (f + 1)) + 1 by omega] at hx2
          refine pw_aload_n dX8_humours_36 rfl rfl ?_
          refine pw_getR dX8_humours_37 fa_X8_19 rfl ?_
          refine pw_iconst (v := 5) dX8_humours_40 rfl ?_
          refine pw_iload_n dX8_humours_41 rfl rfl ?_
          refine pw_imul dX8_humours_42 ?_
          refine pw_iload dX8_humours_43 rfl ?_
          refine pw_iast (j := 5 * h) dX8_humours_45 rfl (pk_mul 5 h) (by omega) ?_
          refine pw_mem ((m_4 (i := 0) (by decide)).trans (congrArg (fun U => mm μ U nm sk st sn) (vu_vu V 4 h w (nI f)))) ?_
          refine pw_iload dX8_humours_46 rfl ?_
          refine pw_aload_n dX8_humours_48 rfl rfl ?_
          refine pw_iload_n dX8_humours_49 rfl rfl ?_
          refine pw_iload_n dX8_humours_50 rfl rfl ?_
          refine pw_cVi dX8_humours_51 mv_X8_279 ckModel (T_X8_unlike (V := (vu V 4 h (nI f))) (okL_V hL rfl) h1 hj5 hsh hs4) rfl rfl (Nat.le_of_ble_eq_true rfl) (by decide) (fun x_51 m_51 h_51 => ?_)
          obtain ⟨rfl, nm1, sk1, rfl⟩ := h_51
          refine pw_iconst (v := (-1)) dX8_humours_54 rfl ?_
          refine pw_icmp_ne (tgt := 65) dX8_humours_55 (by decide) (fun c_55 => ?_) (fun c_55 => ?_)
          · skip
            refine pw_iconst (v := 0) dX8_humours_65 rfl ?_
            refine pw_ior dX8_humours_66 ?_
            refine pw_istore (ls2 := [(5, _), (0, _), (1, _), (2, _), (4, _), (6, _)]) dX8_humours_67 (by decide) rfl ?_
            refine pw_iinc (ls2 := [(6, _), (5, _), (0, _), (1, _), (2, _), (4, _)]) (v := nI (f + 1)) dX8_humours_69 rfl (inc1 f) (by decide) rfl ?_
            refine pw_goto (tgt := 29) dX8_humours_72 (by decide) ?_
            refine pw_sub [2, 3, 4, 5, 1, 0] rfl ?_
            exact ih_29 (f + 1) _ _ nm1 sk1 hlt (bi_n (by omega) hx2 c_55) (by omega)
          · skip
            refine pw_iconst (v := 1) dX8_humours_58 rfl ?_
            refine pw_iload dX8_humours_59 rfl ?_
            refine pw_ishl dX8_humours_61 ?_
            refine pw_goto (tgt := 66) dX8_humours_62 (by decide) ?_
            refine pw_ior dX8_humours_66 ?_
            refine pw_istore (ls2 := [(5, _), (0, _), (1, _), (2, _), (4, _), (6, _)]) dX8_humours_67 (by decide) rfl ?_
            refine pw_iinc (ls2 := [(6, _), (5, _), (0, _), (1, _), (2, _), (4, _)]) (v := nI (f + 1)) dX8_humours_69 rfl (inc1 f) (by decide) rfl ?_
            refine pw_goto (tgt := 29) dX8_humours_72 (by decide) ?_
            refine pw_sub [2, 3, 4, 5, 1, 0] rfl ?_
            exact ih_29 (f + 1) _ _ nm1 sk1 hlt (bi_y hx2 c_55) (by omega)
    refine pw_sub [4, 5, 6, 2, 1, 0] rfl ?_
    have hL0 := L_29 (10 + 1) 0 0 (V 4 h) nm sk (Nat.zero_le _) rfl (by omega)
    rw [vu_id] at hL0
    exact hL0
  · skip
    refine pw_iload_n dX8_humours_11 rfl rfl ?_
    refine pw_iret dX8_humours_12 rfl ?_
    exact ⟨by unfold humF; rw [if_neg c_8], _, _, rfl⟩

set_option maxHeartbeats 4000000 in
set_option maxRecDepth 100000 in
theorem T_X8_laws {l : Launch} {μ : PM} {B : BK} {V : VW} {nm sk st : Nat → Int32} {sn : Int32} {nj nh n : Nat} {s h : Int32} (hLs : ∀ t, t < n → ∀ p, p < 3 → relC μ B t p) (hn : μ.1 0 12 = nI n) (hn6 : n ≤ 6) (h1 : V 0 1 = nI nj) (hj5 : nj ≤ 5) (h5 : V 0 5 = nI nh) (hh6 : nh ≤ 6) : CT l SM yX8_laws cX8_laws 7 (some .int) 6 [.ref 0, .int s, .int h] (mm μ V nm sk st sn) (QI fun x m => x = lawsF B V (μ.1 10) (μ.1 11) (μ.1 12) nj n s h ∧ ∃ nm2 sk2, m = mm μ (V) nm2 sk2 st sn) := by
  refine CT.of rfl (Nat.le_of_ble_eq_true rfl) ?_
  show PW l SM RX8 cX8_laws 7 (some .int) 6 _ 0 [(0, .ref 0), (1, .int s), (2, .int h)] [] (mm μ V nm sk st sn)
  refine pw_aload_n dX8_laws_0 rfl rfl ?_
  refine pw_iload_n dX8_laws_1 rfl rfl ?_
  refine pw_iload_n dX8_laws_2 rfl rfl ?_
  refine pw_cVi dX8_laws_3 mv_X8_276 ckModel T_X8_toldWrong rfl rfl (Nat.le_of_ble_eq_true rfl) (by decide) (fun x_3 m_3 h_3 => ?_)
  obtain ⟨rfl, rfl⟩ := h_3
  refine pw_istore_n (ls2 := [(3, _), (0, _), (1, _), (2, _)]) dX8_laws_6 rfl (by decide) rfl ?_
  refine pw_iload_n dX8_laws_7 rfl rfl ?_
  refine pw_if_eq (tgt := 13) dX8_laws_8 (by decide) (fun c_8 => ?_) (fun c_8 => ?_)
  · skip
    have hr0 : rjF (μ.1 10) (μ.1 11) V s h = 0 := c_8
    obtain ⟨hr1, hhr⟩ := rj_0 hr0
    obtain ⟨s, hs4, rfl, hso, hsz⟩ := rs_0 hr1
    obtain ⟨h, hlh, hsh, rfl⟩ := hr_of h5 hh6 hhr
    refine pw_aload_n dX8_laws_13 rfl rfl ?_
    refine pw_getI dX8_laws_14 fa_X8_94 rfl ?_
    refine pw_top (y := V 0 13) rfl ?_
    refine pw_istore (ls2 := [(4, _), (3, _), (0, _), (1, _), (2, _)]) dX8_laws_17 (by decide) rfl ?_
    refine pw_iconst (v := 0) dX8_laws_19 rfl ?_
    refine pw_istore (ls2 := [(5, _), (4, _), (3, _), (0, _), (1, _), (2, _)]) dX8_laws_20 (by decide) rfl ?_
    refine pw_iconst (v := 0) dX8_laws_22 rfl ?_
    refine pw_istore (ls2 := [(6, _), (5, _), (4, _), (3, _), (0, _), (1, _), (2, _)]) dX8_laws_23 (by decide) rfl ?_
    have L_25 : ∀ (fu_25 : Nat) (f : Nat) (b w : Int32) (nm sk : Nat → Int32), (f ≤ n) → (biL B V (μ.1 12) s h nj 0 13 (n - f) f b = biL B V (μ.1 12) s h nj 0 13 n 0 0) → n - f < fu_25 → PW l SM RX8 cX8_laws 7 (some .int) 6 (QI fun x m => x = lawsF B V (μ.1 10) (μ.1 11) (μ.1 12) nj n (nI s) (nI h) ∧ ∃ nm2 sk2, m = mm μ (V) nm2 sk2 st sn) 25 [(0, .ref 0), (1, .int (nI s)), (2, .int (nI h)), (4, .int (V 0 13)), (5, .int b), (6, .int (nI f))] [] (mm μ (vu V 0 13 w) nm sk st sn) := by
      intro fu_25
      induction fu_25 with
      | zero =>
        intro f b w nm sk hi hx hm_25
        exact absurd hm_25 (Nat.not_lt_zero _)
      | succ fu_25 ih_25 =>
        intro f b w nm sk hi hx hm_25
        refine pw_iload dX8_laws_25 rfl ?_
        refine pw_aload_n dX8_laws_27 rfl rfl ?_
        refine pw_getI dX8_laws_28 fa_X8_91 rfl ?_
        refine pw_top (y := nI n) hn ?_
        refine pw_icmp_ge (tgt := 69) dX8_laws_31 (by decide) (fun c_31 => ?_) (fun c_31 => ?_)
        · skip
          have hge := nI_geD (n := n) (by omega) c_31
          refine pw_aload_n dX8_laws_69 rfl rfl ?_
          refine pw_iload dX8_laws_70 rfl ?_
          refine pw_putI dX8_laws_72 fa_X8_94 rfl ?_
          refine pw_mem (m_0_13.trans (congrArg (fun U => mm μ U nm sk st sn) (vu_vi V 0 13 w))) ?_
          refine pw_iload dX8_laws_75 rfl ?_
          refine pw_iret dX8_laws_77 rfl ?_
          rw [show n - f = 0 by omega] at hx
          exact ⟨by unfold lawsF; rw [if_pos hr0, cl_nI (show s < 2 ^ 31 by omega), cl_nI (show h < 2 ^ 31 by omega)]; exact hx, _, _, rfl⟩
        · skip
          have hlt := nI_ltD (n := n) (by omega) c_31
          have hx2 := hx
          rw [show n - f = (n - (f + 1)) + 1 by omega] at hx2
          refine pw_aload_n dX8_laws_34 rfl rfl ?_
          refine pw_iload dX8_laws_35 rfl ?_
          refine pw_putI dX8_laws_37 fa_X8_94 rfl ?_
          refine pw_mem (m_0_13.trans (congrArg (fun U => mm μ U nm sk st sn) (vu_vu V 0 13 w (nI f)))) ?_
          refine pw_iload dX8_laws_40 rfl ?_
          refine pw_aload_n dX8_laws_42 rfl rfl ?_
          refine pw_iload_n dX8_laws_43 rfl rfl ?_
          refine pw_iload_n dX8_laws_44 rfl rfl ?_
          refine pw_cVi dX8_laws_45 mv_X8_279 ckModel (T_X8_unlike (V := (vu V 0 13 (nI f))) ⟨f, by omega, upd_s (V 0) 13 (nI f), hLs f hlt⟩ h1 hj5 hsh hs4) rfl rfl (Nat.le_of_ble_eq_true rfl) (by decide) (fun x_45 m_45 h_45 => ?_)
          obtain ⟨rfl, nm1, sk1, rfl⟩ := h_45
          refine pw_iconst (v := (-1)) dX8_laws_48 rfl ?_
          refine pw_icmp_ne (tgt := 59) dX8_laws_49 (by decide) (fun c_49 => ?_) (fun c_49 => ?_)
          · skip
            refine pw_iconst (v := 0) dX8_laws_59 rfl ?_
            refine pw_ior dX8_laws_60 ?_
            refine pw_istore (ls2 := [(5, _), (0, _), (1, _), (2, _), (4, _), (6, _)]) dX8_laws_61 (by decide) rfl ?_
            refine pw_iinc (ls2 := [(6, _), (5, _), (0, _), (1, _), (2, _), (4, _)]) (v := nI (f + 1)) dX8_laws_63 rfl (inc1 f) (by decide) rfl ?_
            refine pw_goto (tgt := 25) dX8_laws_66 (by decide) ?_
            refine pw_sub [2, 3, 4, 5, 1, 0] rfl ?_
            exact ih_25 (f + 1) _ _ nm1 sk1 hlt (bi_n (by omega) hx2 c_49) (by omega)
          · skip
            refine pw_iconst (v := 1) dX8_laws_52 rfl ?_
            refine pw_iload dX8_laws_53 rfl ?_
            refine pw_ishl dX8_laws_55 ?_
            refine pw_goto (tgt := 60) dX8_laws_56 (by decide) ?_
            refine pw_ior dX8_laws_60 ?_
            refine pw_istore (ls2 := [(5, _), (0, _), (1, _), (2, _), (4, _), (6, _)]) dX8_laws_61 (by decide) rfl ?_
            refine pw_iinc (ls2 := [(6, _), (5, _), (0, _), (1, _), (2, _), (4, _)]) (v := nI (f + 1)) dX8_laws_63 rfl (inc1 f) (by decide) rfl ?_
            refine pw_goto (tgt := 25) dX8_laws_66 (by decide) ?_
            refine pw_sub [2, 3, 4, 5, 1, 0] rfl ?_
            exact ih_25 (f + 1) _ _ nm1 sk1 hlt (bi_y hx2 c_49) (by omega)
    refine pw_sub [4, 5, 6, 2, 1, 0] rfl ?_
    have hL0 := L_25 (n + 1) 0 0 (V 0 13) nm sk (Nat.zero_le _) rfl (by omega)
    rw [vu_id] at hL0
    exact hL0
  · skip
    refine pw_iload_n dX8_laws_11 rfl rfl ?_
    refine pw_iret dX8_laws_12 rfl ?_
    exact ⟨by unfold lawsF; rw [if_neg c_8], _, _, rfl⟩

set_option maxHeartbeats 4000000 in
set_option maxRecDepth 100000 in
theorem T_X8_heards {l : Launch} {μ : PM} {B : BK} {V : VW} {nm sk st : Nat → Int32} {sn : Int32} {nj nh : Nat} {s h wh : Int32} (hL : okL μ B V) (h1 : V 0 1 = nI nj) (hj5 : nj ≤ 5) (h5 : V 0 5 = nI nh) (hh6 : nh ≤ 6) : CT l SM yX8_heards cX8_heards 11 (some .int) 6 [.ref 0, .int s, .int h, .int wh] (mm μ V nm sk st sn) (QI fun x m => x = heaF B V (μ.1 10) (μ.1 11) (μ.1 12) nj s h wh ∧ ∃ nm2 sk2, m = mm μ (V) nm2 sk2 st sn) := by
  refine CT.of rfl (Nat.le_of_ble_eq_true rfl) ?_
  show PW l SM RX8 cX8_heards 11 (some .int) 6 _ 0 [(0, .ref 0), (1, .int s), (2, .int h), (3, .int wh)] [] (mm μ V nm sk st sn)
  refine pw_aload_n dX8_heards_0 rfl rfl ?_
  refine pw_iload_n dX8_heards_1 rfl rfl ?_
  refine pw_iload_n dX8_heards_2 rfl rfl ?_
  refine pw_cVi dX8_heards_3 mv_X8_276 ckModel T_X8_toldWrong rfl rfl (Nat.le_of_ble_eq_true rfl) (by decide) (fun x_3 m_3 h_3 => ?_)
  obtain ⟨rfl, rfl⟩ := h_3
  refine pw_istore (ls2 := [(4, _), (0, _), (1, _), (2, _), (3, _)]) dX8_heards_6 (by decide) rfl ?_
  refine pw_iload dX8_heards_8 rfl ?_
  refine pw_if_eq (tgt := 16) dX8_heards_10 (by decide) (fun c_10 => ?_) (fun c_10 => ?_)
  · skip
    have hr0 : rjF (μ.1 10) (μ.1 11) V s h = 0 := c_10
    obtain ⟨hr1, hhr⟩ := rj_0 hr0
    obtain ⟨s, hs4, rfl, hso, hsz⟩ := rs_0 hr1
    obtain ⟨h, hlh, hsh, rfl⟩ := hr_of h5 hh6 hhr
    refine pw_iload_n dX8_heards_16 rfl rfl ?_
    refine pw_iconst (v := 0) dX8_heards_17 rfl ?_
    refine pw_iconst (v := 2) dX8_heards_18 rfl ?_
    refine pw_cSi dX8_heards_19 ms_X8_78 T_X8_in rfl rfl (Nat.le_of_ble_eq_true rfl) (by decide) (fun x_19 m_19 h_19 => ?_)
    obtain ⟨rfl, rfl⟩ := h_19
    refine pw_if_ne (tgt := 28) dX8_heards_22 (by decide) (fun c_22 => ?_) (fun c_22 => ?_)
    · skip
      have hb_22 := b2_n c_22
      refine pw_aload_n dX8_heards_28 rfl rfl ?_
      refine pw_getR dX8_heards_29 fa_X8_19 rfl ?_
      refine pw_iconst (v := 5) dX8_heards_32 rfl ?_
      refine pw_iload_n dX8_heards_33 rfl rfl ?_
      refine pw_imul dX8_heards_34 ?_
      refine pw_iconst (v := 3) dX8_heards_35 rfl ?_
      refine pw_iadd dX8_heards_36 ?_
      refine pw_iald (j := 5 * h + 3) dX8_heards_37 rfl (by show nI 5 * nI h + nI 3 = _; rw [pk_mul, nI_add]) (by omega) ?_
      refine pw_top (y := V 7 h) (hl_at (by decide)) ?_
      refine pw_istore (ls2 := [(5, _), (4, _), (0, _), (1, _), (2, _), (3, _)]) dX8_heards_38 (by decide) rfl ?_
      refine pw_iconst (v := 1) dX8_heards_40 rfl ?_
      refine pw_aload_n dX8_heards_41 rfl rfl ?_
      refine pw_getI dX8_heards_42 fa_X8_75 rfl ?_
      refine pw_ishl dX8_heards_45 ?_
      refine pw_iconst (v := 1) dX8_heards_46 rfl ?_
      refine pw_isub dX8_heards_47 ?_
      have hal := aljF_n h1 (show nj ≤ 6 by omega)
      have hab := aN_b (show nj ≤ 6 by omega)
      refine pw_top (y := nI (aN nj - 1)) hal ?_
      refine pw_istore (ls2 := [(6, _), (5, _), (4, _), (0, _), (1, _), (2, _), (3, _)]) dX8_heards_48 (by decide) rfl ?_
      refine pw_iconst (v := 0) dX8_heards_50 rfl ?_
      refine pw_istore (ls2 := [(7, _), (6, _), (5, _), (4, _), (0, _), (1, _), (2, _), (3, _)]) dX8_heards_51 (by decide) rfl ?_
      refine pw_iload dX8_heards_53 rfl ?_
      refine pw_istore (ls2 := [(8, _), (7, _), (6, _), (5, _), (4, _), (0, _), (1, _), (2, _), (3, _)]) dX8_heards_55 (by decide) rfl ?_
      refine pw_iconst (v := 0) dX8_heards_57 rfl ?_
      refine pw_istore (ls2 := [(9, _), (8, _), (7, _), (6, _), (5, _), (4, _), (0, _), (1, _), (2, _), (3, _)]) dX8_heards_58 (by decide) rfl ?_
      refine pw_iconst (v := 0) dX8_heards_60 rfl ?_
      refine pw_istore (ls2 := [(10, _), (9, _), (8, _), (7, _), (6, _), (5, _), (4, _), (0, _), (1, _), (2, _), (3, _)]) dX8_heards_61 (by decide) rfl ?_
      have L_63 : ∀ (fu_63 : Nat) (f c : Nat) (x y w : Int32) (nm sk : Nat → Int32), (f ≤ aN nj) → (c ≤ f) → (heL B V (μ.1 12) s h nj (aN nj - f) f (c, x, aljF V &&& (y ^^^ -1)) = heaA B V (μ.1 12) nj s h) → aN nj - f < fu_63 → PW l SM RX8 cX8_heards 11 (some .int) 6 (QI fun x m => x = heaF B V (μ.1 10) (μ.1 11) (μ.1 12) nj (nI s) (nI h) wh ∧ ∃ nm2 sk2, m = mm μ (V) nm2 sk2 st sn) 63 [(0, .ref 0), (1, .int (nI s)), (2, .int (nI h)), (3, .int wh), (5, .int (V 7 h)), (6, .int (nI (aN nj - 1))), (7, .int (nI c)), (8, .int x), (9, .int y), (10, .int (nI f))] [] (mm μ (vu V 7 h w) nm sk st sn) := by
        intro fu_63
        induction fu_63 with
        | zero =>
          intro f c x y w nm sk hi hcf hx hm_63
          exact absurd hm_63 (Nat.not_lt_zero _)
        | succ fu_63 ih_63 =>
          intro f c x y w nm sk hi hcf hx hm_63
          refine pw_iload dX8_heards_63 rfl ?_
          refine pw_iload dX8_heards_65 rfl ?_
          refine pw_icmp_gt (tgt := 115) dX8_heards_67 (by decide) (fun c_67 => ?_) (fun c_67 => ?_)
          · skip
            have hge : aN nj ≤ f := by
              have := (nI_ltI (by omega) (by omega)).mp c_67
              omega
            refine pw_aload_n dX8_heards_115 rfl rfl ?_
            refine pw_getR dX8_heards_116 fa_X8_19 rfl ?_
            refine pw_iconst (v := 5) dX8_heards_119 rfl ?_
            refine pw_iload_n dX8_heards_120 rfl rfl ?_
            refine pw_imul dX8_heards_121 ?_
            refine pw_iconst (v := 3) dX8_heards_122 rfl ?_
            refine pw_iadd dX8_heards_123 ?_
            refine pw_iload dX8_heards_124 rfl ?_
            refine pw_iast (j := 5 * h + 3) dX8_heards_126 rfl (by show nI 5 * nI h + nI 3 = _; rw [pk_mul, nI_add]) (by omega) ?_
            refine pw_mem ((m_4 (i := 3) (by decide)).trans (congrArg (fun U => mm μ U nm sk st sn) (vu_vi V 7 h w))) ?_
            rw [show aN nj - f = 0 by omega] at hx
            change (c, x, aljF V &&& (y ^^^ -1)) = _ at hx
            refine pw_iload_n dX8_heards_127 rfl rfl ?_
            refine pw_if_ne (tgt := 136) dX8_heards_128 (by decide) (fun c_128 => ?_) (fun c_128 => ?_)
            · skip
              refine pw_iload dX8_heards_136 rfl ?_
              refine pw_if_ne (tgt := 145) dX8_heards_138 (by decide) (fun c_138 => ?_) (fun c_138 => ?_)
              · skip
                refine pw_iload_n dX8_heards_145 rfl rfl ?_
                refine pw_iconst (v := 1) dX8_heards_146 rfl ?_
                refine pw_icmp_ne (tgt := 155) dX8_heards_147 (by decide) (fun c_147 => ?_) (fun c_147 => ?_)
                · skip
                  refine pw_iload dX8_heards_155 rfl ?_
                  refine pw_iload dX8_heards_157 rfl ?_
                  refine pw_iconst (v := (-1)) dX8_heards_159 rfl ?_
                  refine pw_ixor dX8_heards_160 ?_
                  refine pw_iand dX8_heards_161 ?_
                  refine pw_iret dX8_heards_162 rfl ?_
                  exact ⟨by unfold heaF; rw [if_pos hr0, show inF wh 0 2 = true from hb_22, if_pos rfl, cl_nI (show s < 2 ^ 31 by omega), cl_nI (show h < 2 ^ 31 by omega), ← hx, if_neg c_128]; show _ = if c = 0 then _ else _; rw [if_neg (fun q => c_138 (by rw [q]; rfl)), if_neg c_147, ← hal], _, _, rfl⟩
                · skip
                  refine pw_iload dX8_heards_150 rfl ?_
                  refine pw_goto (tgt := 162) dX8_heards_152 (by decide) ?_
                  refine pw_iret dX8_heards_162 rfl ?_
                  exact ⟨by unfold heaF; rw [if_pos hr0, show inF wh 0 2 = true from hb_22, if_pos rfl, cl_nI (show s < 2 ^ 31 by omega), cl_nI (show h < 2 ^ 31 by omega), ← hx, if_neg c_128]; show _ = if c = 0 then _ else _; rw [if_neg (fun q => c_138 (by rw [q]; rfl)), if_pos c_147], _, _, rfl⟩
              · skip
                refine pw_iconst (v := (-1)) dX8_heards_141 rfl ?_
                refine pw_goto (tgt := 162) dX8_heards_142 (by decide) ?_
                refine pw_iret dX8_heards_162 rfl ?_
                exact ⟨by unfold heaF; rw [if_pos hr0, show inF wh 0 2 = true from hb_22, if_pos rfl, cl_nI (show s < 2 ^ 31 by omega), cl_nI (show h < 2 ^ 31 by omega), ← hx, if_neg c_128]; show _ = if c = 0 then _ else _; rw [if_pos ((nI_eq (b := 0) (by omega) (by decide)).mp c_138)], _, _, rfl⟩
            · skip
              refine pw_iload dX8_heards_131 rfl ?_
              refine pw_goto (tgt := 162) dX8_heards_133 (by decide) ?_
              refine pw_iret dX8_heards_162 rfl ?_
              exact ⟨by unfold heaF; rw [if_pos hr0, show inF wh 0 2 = true from hb_22, if_pos rfl, cl_nI (show s < 2 ^ 31 by omega), cl_nI (show h < 2 ^ 31 by omega), ← hx, if_pos c_128], _, _, rfl⟩
          · skip
            have hlt : f < aN nj := by
              have := (nI_leI (by omega) (by omega)).mp (Int32.not_lt.mp c_67)
              have hq : 0 < aN nj := Nat.pow_pos (by decide)
              omega
            have hx2 := hx
            rw [show aN nj - f = (aN nj - (f + 1)) + 1 by omega] at hx2
            change heL B V (μ.1 12) s h nj _ (f + 1) (if fitF B (vu V 7 h (nI f)) (μ.1 12) s h nj = 1 then (c + 1, x &&& nI f, (aljF V &&& (y ^^^ -1)) &&& (nI f ^^^ -1)) else (c, x, aljF V &&& (y ^^^ -1))) = _ at hx2
            refine pw_aload_n dX8_heards_70 rfl rfl ?_
            refine pw_getR dX8_heards_71 fa_X8_19 rfl ?_
            refine pw_iconst (v := 5) dX8_heards_74 rfl ?_
            refine pw_iload_n dX8_heards_75 rfl rfl ?_
            refine pw_imul dX8_heards_76 ?_
            refine pw_iconst (v := 3) dX8_heards_77 rfl ?_
            refine pw_iadd dX8_heards_78 ?_
            refine pw_iload dX8_heards_79 rfl ?_
            refine pw_iast (j := 5 * h + 3) dX8_heards_81 rfl (by show nI 5 * nI h + nI 3 = _; rw [pk_mul, nI_add]) (by omega) ?_
            refine pw_mem ((m_4 (i := 3) (by decide)).trans (congrArg (fun U => mm μ U nm sk st sn) (vu_vu V 7 h w (nI f)))) ?_
            refine pw_aload_n dX8_heards_82 rfl rfl ?_
            refine pw_iload_n dX8_heards_83 rfl rfl ?_
            refine pw_iload_n dX8_heards_84 rfl rfl ?_
            refine pw_cVi dX8_heards_85 mv_X8_279 ckModel (T_X8_unlike (V := vu V 7 h (nI f)) (okL_V hL rfl) h1 hj5 hsh hs4) rfl rfl (Nat.le_of_ble_eq_true rfl) (by decide) (fun x_85 m_85 h_85 => ?_)
            obtain ⟨rfl, nm1, sk1, rfl⟩ := h_85
            refine pw_iconst (v := (-1)) dX8_heards_88 rfl ?_
            refine pw_icmp_ne (tgt := 109) dX8_heards_89 (by decide) (fun c_89 => ?_) (fun c_89 => ?_)
            · skip
              refine pw_iinc (ls2 := [(10, _), (0, _), (1, _), (2, _), (3, _), (5, _), (6, _), (7, _), (8, _), (9, _)]) (v := nI (f + 1)) dX8_heards_109 rfl (inc1 f) (by decide) rfl ?_
              refine pw_goto (tgt := 63) dX8_heards_112 (by decide) ?_
              refine pw_sub [1, 2, 3, 4, 5, 6, 7, 8, 9, 0] rfl ?_
              rw [fit_n c_89, if_neg (by decide)] at hx2
              exact ih_63 (f + 1) c _ _ _ nm1 sk1 hlt (by omega) hx2 (by omega)
            · skip
              refine pw_iinc (ls2 := [(7, _), (0, _), (1, _), (2, _), (3, _), (5, _), (6, _), (8, _), (9, _), (10, _)]) (v := nI (c + 1)) dX8_heards_92 rfl (inc1 c) (by decide) rfl ?_
              refine pw_iload dX8_heards_95 rfl ?_
              refine pw_iload dX8_heards_97 rfl ?_
              refine pw_iand dX8_heards_99 ?_
              refine pw_istore (ls2 := [(8, _), (7, _), (0, _), (1, _), (2, _), (3, _), (5, _), (6, _), (9, _), (10, _)]) dX8_heards_100 (by decide) rfl ?_
              refine pw_iload dX8_heards_102 rfl ?_
              refine pw_iload dX8_heards_104 rfl ?_
              refine pw_ior dX8_heards_106 ?_
              refine pw_istore (ls2 := [(9, _), (8, _), (7, _), (0, _), (1, _), (2, _), (3, _), (5, _), (6, _), (10, _)]) dX8_heards_107 (by decide) rfl ?_
              refine pw_iinc (ls2 := [(10, _), (9, _), (8, _), (7, _), (0, _), (1, _), (2, _), (3, _), (5, _), (6, _)]) (v := nI (f + 1)) dX8_heards_109 rfl (inc1 f) (by decide) rfl ?_
              refine pw_goto (tgt := 63) dX8_heards_112 (by decide) ?_
              refine pw_sub [4, 5, 6, 7, 8, 9, 3, 2, 1, 0] rfl ?_
              rw [fit_y c_89, if_pos rfl, and_no] at hx2
              exact ih_63 (f + 1) (c + 1) _ _ _ nm1 sk1 hlt (by omega) hx2 (by omega)
      refine pw_sub [7, 8, 9, 10, 5, 4, 3, 2, 1, 0] rfl ?_
      have hL0 := L_63 (aN nj + 1) 0 0 (aljF V) 0 (V 7 h) nm sk (Nat.zero_le _) (Nat.zero_le _) (by rw [and_m1]; rfl) (by omega)
      rw [vu_id, hal] at hL0
      exact hL0
    · skip
      have hb_22 := b2_0 c_22
      refine pw_bipush (v := (-7)) dX8_heards_25 rfl ?_
      refine pw_iret dX8_heards_27 rfl ?_
      exact ⟨by unfold heaF; rw [if_pos hr0, hb_22]; rfl, _, _, rfl⟩
  · skip
    refine pw_iload dX8_heards_13 rfl ?_
    refine pw_iret dX8_heards_15 rfl ?_
    exact ⟨by unfold heaF; rw [if_neg c_10], _, _, rfl⟩

set_option maxHeartbeats 4000000 in
set_option maxRecDepth 100000 in
theorem T_X8_kinds {l : Launch} {μ : PM} {B : BK} {V : VW} {nm sk st : Nat → Int32} {sn : Int32} {nj nh : Nat} {s h ja : Int32} (hL : okL μ B V) (h1 : V 0 1 = nI nj) (hj5 : nj ≤ 5) (h5 : V 0 5 = nI nh) (hh6 : nh ≤ 6) : CT l SM yX8_kinds cX8_kinds 11 (some .int) 6 [.ref 0, .int s, .int h, .int ja] (mm μ V nm sk st sn) (QI fun x m => x = kindsF B V (μ.1 10) (μ.1 11) (μ.1 12) nj s h ja ∧ ∃ nm2 sk2, m = mm μ (V) nm2 sk2 st sn) := by
  refine CT.of rfl (Nat.le_of_ble_eq_true rfl) ?_
  show PW l SM RX8 cX8_kinds 11 (some .int) 6 _ 0 [(0, .ref 0), (1, .int s), (2, .int h), (3, .int ja)] [] (mm μ V nm sk st sn)
  refine pw_aload_n dX8_kinds_0 rfl rfl ?_
  refine pw_iload_n dX8_kinds_1 rfl rfl ?_
  refine pw_iload_n dX8_kinds_2 rfl rfl ?_
  refine pw_cVi dX8_kinds_3 mv_X8_276 ckModel T_X8_toldWrong rfl rfl (Nat.le_of_ble_eq_true rfl) (by decide) (fun x_3 m_3 h_3 => ?_)
  obtain ⟨rfl, rfl⟩ := h_3
  refine pw_istore (ls2 := [(4, _), (0, _), (1, _), (2, _), (3, _)]) dX8_kinds_6 (by decide) rfl ?_
  refine pw_iload dX8_kinds_8 rfl ?_
  refine pw_if_eq (tgt := 16) dX8_kinds_10 (by decide) (fun c_10 => ?_) (fun c_10 => ?_)
  · skip
    have hr0 : rjF (μ.1 10) (μ.1 11) V s h = 0 := c_10
    obtain ⟨hr1, hhr⟩ := rj_0 hr0
    obtain ⟨s, hs4, rfl, hso, hsz⟩ := rs_0 hr1
    obtain ⟨h, hlh, hsh, rfl⟩ := hr_of h5 hh6 hhr
    refine pw_iload_n dX8_kinds_16 rfl rfl ?_
    refine pw_if_ge (tgt := 24) dX8_kinds_17 (by decide) (fun c_17 => ?_) (fun c_17 => ?_)
    · skip
      refine pw_iload_n dX8_kinds_24 rfl rfl ?_
      refine pw_bipush (v := 10) dX8_kinds_25 rfl ?_
      refine pw_idiv dX8_kinds_27 (by decide) ?_
      obtain ⟨q, hq, rfl⟩ := nI_of (Int32.not_lt.mpr c_17)
      have edq : nI q / 10 = nI (q / 10) := pk_div hq (by decide) (by decide)
      have erq : nI q - nI q / 10 * 10 = nI (q % 10) := pk_rem hq (by decide) (by decide)
      refine pw_top (y := nI (q / 10)) edq ?_
      refine pw_istore (ls2 := [(5, _), (4, _), (0, _), (1, _), (2, _), (3, _)]) dX8_kinds_28 (by decide) rfl ?_
      refine pw_aload_n dX8_kinds_30 rfl rfl ?_
      refine pw_iload dX8_kinds_31 rfl ?_
      refine pw_cVi dX8_kinds_33 mv_X8_174 ckModel T_X8_isJoke rfl rfl (Nat.le_of_ble_eq_true rfl) (by decide) (fun x_33 m_33 h_33 => ?_)
      obtain ⟨rfl, rfl⟩ := h_33
      refine pw_if_ne (tgt := 42) dX8_kinds_36 (by decide) (fun c_36 => ?_) (fun c_36 => ?_)
      · skip
        have hb_36 := b2_n c_36
        skip
        obtain ⟨jz, hlj, hsj, ejz⟩ := jk_of h1 hj5 hb_36
        have ejq : q / 10 = jz := (nI_eq (by omega) (by omega)).mp ejz
        have hqj : q / 10 < 5 := by omega
        refine pw_iload_n dX8_kinds_42 rfl rfl ?_
        refine pw_bipush (v := 10) dX8_kinds_43 rfl ?_
        refine pw_irem dX8_kinds_45 (by decide) ?_
        refine pw_top (y := nI (q % 10)) erq ?_
        refine pw_istore (ls2 := [(6, _), (5, _), (4, _), (0, _), (1, _), (2, _), (3, _)]) dX8_kinds_46 (by decide) rfl ?_
        refine pw_iload dX8_kinds_48 rfl ?_
        refine pw_iconst (v := 0) dX8_kinds_50 rfl ?_
        refine pw_iconst (v := 1) dX8_kinds_51 rfl ?_
        refine pw_cSi dX8_kinds_52 ms_X8_78 T_X8_in rfl rfl (Nat.le_of_ble_eq_true rfl) (by decide) (fun x_52 m_52 h_52 => ?_)
        obtain ⟨rfl, rfl⟩ := h_52
        refine pw_if_ne (tgt := 61) dX8_kinds_55 (by decide) (fun c_55 => ?_) (fun c_55 => ?_)
        · skip
          have hb_55 := b2_n c_55
          have hs01 : q % 10 = 0 ∨ q % 10 = 1 := by
            obtain ⟨z, hz, ez⟩ := in_trueL (n := 1) hb_55 (by decide)
            have := (nI_eq (a := q % 10) (b := z) (by omega) (by omega)).mp ez
            omega
          have hjj : rjjF (μ.1 10) (μ.1 11) V (nI s) (nI h) (nI q) = 0 := by
            unfold rjjF
            rw [if_pos hr0, if_neg (nI_pos hq), erq, edq, hb_36, if_pos rfl, if_neg (show ¬ (1 : Int32) < nI (q % 10) from nI_nlt (a := 1) (by omega) (by decide))]
          refine pw_aload_n dX8_kinds_61 rfl rfl ?_
          refine pw_getR dX8_kinds_62 fa_X8_7 rfl ?_
          refine pw_iload dX8_kinds_65 rfl ?_
          refine pw_iald (j := q / 10) dX8_kinds_67 rfl rfl (by omega) ?_
          refine pw_top (y := V 1 (q / 10)) rfl ?_
          refine pw_istore (ls2 := [(7, _), (6, _), (5, _), (4, _), (0, _), (1, _), (2, _), (3, _)]) dX8_kinds_68 (by decide) rfl ?_
          refine pw_aload_n dX8_kinds_70 rfl rfl ?_
          refine pw_getR dX8_kinds_71 fa_X8_13 rfl ?_
          refine pw_iload dX8_kinds_74 rfl ?_
          refine pw_iald (j := q / 10) dX8_kinds_76 rfl rfl (by omega) ?_
          refine pw_top (y := V 2 (q / 10)) rfl ?_
          refine pw_istore (ls2 := [(8, _), (7, _), (6, _), (5, _), (4, _), (0, _), (1, _), (2, _), (3, _)]) dX8_kinds_77 (by decide) rfl ?_
          refine pw_iconst (v := 0) dX8_kinds_79 rfl ?_
          refine pw_istore (ls2 := [(9, _), (8, _), (7, _), (6, _), (5, _), (4, _), (0, _), (1, _), (2, _), (3, _)]) dX8_kinds_80 (by decide) rfl ?_
          refine pw_iconst (v := 0) dX8_kinds_82 rfl ?_
          refine pw_istore (ls2 := [(10, _), (9, _), (8, _), (7, _), (6, _), (5, _), (4, _), (0, _), (1, _), (2, _), (3, _)]) dX8_kinds_83 (by decide) rfl ?_
          have L_85 : ∀ (fu_85 : Nat) (f r K : Nat) (b w : Int32) (nm sk : Nat → Int32), ((q % 10 = 0 ∧ r = 1 ∧ K = 6) ∨ (q % 10 = 1 ∧ r = 2 ∧ K = 10)) → (f ≤ K) → (biL B V (μ.1 12) s h nj r (q / 10) (K - f) f b = biL B V (μ.1 12) s h nj r (q / 10) K 0 0) → K - f < fu_85 → PW l SM RX8 cX8_kinds 11 (some .int) 6 (QI fun x m => x = kindsF B V (μ.1 10) (μ.1 11) (μ.1 12) nj (nI s) (nI h) (nI q) ∧ ∃ nm2 sk2, m = mm μ (V) nm2 sk2 st sn) 85 [(0, .ref 0), (1, .int (nI s)), (2, .int (nI h)), (5, .int (nI (q / 10))), (6, .int (nI (q % 10))), (7, .int (V 1 (q / 10))), (8, .int (V 2 (q / 10))), (9, .int b), (10, .int (nI f))] [] (mm μ (vu V r (q / 10) w) nm sk st sn) := by
            intro fu_85
            induction fu_85 with
            | zero =>
              intro f r K b w nm sk hr hi hx hm_85
              exact absurd hm_85 (Nat.not_lt_zero _)
            | succ fu_85 ih_85 =>
              intro f r K b w nm sk hr hi hx hm_85
              refine pw_iload dX8_kinds_85 rfl ?_
              refine pw_iload dX8_kinds_87 rfl ?_
              refine pw_if_ne (tgt := 97) dX8_kinds_89 (by decide) (fun c_89 => ?_) (fun c_89 => ?_)
              · skip
                obtain ⟨hq1, rfl, rfl⟩ : q % 10 = 1 ∧ r = 2 ∧ K = 10 := by
                  rcases hr with g | g
                  · exact absurd (show nI (q % 10) = 0 by rw [g.1]; rfl) c_89
                  · exact g
                refine pw_bipush (v := 10) dX8_kinds_97 rfl ?_
                refine pw_icmp_ge (tgt := 170) dX8_kinds_99 (by decide) (fun c_99 => ?_) (fun c_99 => ?_)
                · skip
                  have hge := nI_geD (n := 10) (by decide) c_99
                  refine pw_aload_n dX8_kinds_170 rfl rfl ?_
                  refine pw_getR dX8_kinds_171 fa_X8_7 rfl ?_
                  refine pw_iload dX8_kinds_174 rfl ?_
                  refine pw_iload dX8_kinds_176 rfl ?_
                  refine pw_iast (j := q / 10) dX8_kinds_178 rfl rfl (by omega) ?_
                  refine pw_mem m_1 ?_
                  refine pw_aload_n dX8_kinds_179 rfl rfl ?_
                  refine pw_getR dX8_kinds_180 fa_X8_13 rfl ?_
                  refine pw_iload dX8_kinds_183 rfl ?_
                  refine pw_iload dX8_kinds_185 rfl ?_
                  refine pw_iast (j := q / 10) dX8_kinds_187 rfl rfl (by omega) ?_
                  refine pw_mem (m_2.trans (congrArg (fun U => mm μ U nm sk st sn) (kd_e V (q / 10) _ w (by decide)))) ?_
                  refine pw_iload dX8_kinds_188 rfl ?_
                  refine pw_iret dX8_kinds_190 rfl ?_
                  rw [show 10 - f = 0 by omega] at hx
                  exact ⟨by unfold kindsF; rw [if_pos hjj, cl_nI hq, cl_nI (show s < 2 ^ 31 by omega), cl_nI (show h < 2 ^ 31 by omega), if_neg (by omega)]; exact hx, _, _, rfl⟩
                · skip
                  have hlt := nI_ltD (n := 10) (by omega) c_99
                  have hx2 := hx
                  rw [show 10 - f = (10 - (f + 1)) + 1 by omega] at hx2
                  refine pw_aload_n dX8_kinds_102 rfl rfl ?_
                  refine pw_getR dX8_kinds_103 fa_X8_7 rfl ?_
                  refine pw_iload dX8_kinds_106 rfl ?_
                  refine pw_iload dX8_kinds_108 rfl ?_
                  refine pw_if_ne (tgt := 118) dX8_kinds_110 (by decide) (fun c_110 => ?_) (fun c_110 => ?_)
                  · skip
                    refine pw_iload dX8_kinds_118 rfl ?_
                    refine pw_iast (j := q / 10) dX8_kinds_120 rfl rfl (by omega) ?_
                    refine pw_mem m_1 ?_
                    refine pw_aload_n dX8_kinds_121 rfl rfl ?_
                    refine pw_getR dX8_kinds_122 fa_X8_13 rfl ?_
                    refine pw_iload dX8_kinds_125 rfl ?_
                    refine pw_iload dX8_kinds_127 rfl ?_
                    refine pw_iconst (v := 1) dX8_kinds_129 rfl ?_
                    refine pw_icmp_ne (tgt := 138) dX8_kinds_130 (by decide) (fun c_130 => ?_) (fun c_130 => ?_)
                    · skip
                      exact absurd (show nI (q % 10) = 1 by rw [hq1]; rfl) c_130
                    · skip
                      refine pw_iload dX8_kinds_133 rfl ?_
                      refine pw_goto (tgt := 140) dX8_kinds_135 (by decide) ?_
                      refine pw_iast (j := q / 10) dX8_kinds_140 rfl rfl (by omega) ?_
                      refine pw_mem (m_2.trans (congrArg (fun U => mm μ U nm sk st sn) (kd_1 V (q / 10) w (nI f)))) ?_
                      refine pw_iload dX8_kinds_141 rfl ?_
                      refine pw_aload_n dX8_kinds_143 rfl rfl ?_
                      refine pw_iload_n dX8_kinds_144 rfl rfl ?_
                      refine pw_iload_n dX8_kinds_145 rfl rfl ?_
                      refine pw_cVi dX8_kinds_146 mv_X8_279 ckModel (T_X8_unlike (okL_V hL rfl) h1 hj5 hsh hs4) rfl rfl (Nat.le_of_ble_eq_true rfl) (by decide) (fun x_146 m_146 h_146 => ?_)
                      obtain ⟨rfl, nm1, sk1, rfl⟩ := h_146
                      refine pw_iconst (v := (-1)) dX8_kinds_149 rfl ?_
                      refine pw_icmp_ne (tgt := 160) dX8_kinds_150 (by decide) (fun c_150 => ?_) (fun c_150 => ?_)
                      · skip
                        refine pw_iconst (v := 0) dX8_kinds_160 rfl ?_
                        refine pw_ior dX8_kinds_161 ?_
                        refine pw_istore (ls2 := [(9, _), (0, _), (1, _), (2, _), (5, _), (6, _), (7, _), (8, _), (10, _)]) dX8_kinds_162 (by decide) rfl ?_
                        refine pw_iinc (ls2 := [(10, _), (9, _), (0, _), (1, _), (2, _), (5, _), (6, _), (7, _), (8, _)]) (v := nI (f + 1)) dX8_kinds_164 rfl (inc1 f) (by decide) rfl ?_
                        refine pw_goto (tgt := 85) dX8_kinds_167 (by decide) ?_
                        refine pw_sub [2, 3, 4, 5, 6, 7, 8, 1, 0] rfl ?_
                        exact ih_85 (f + 1) 2 10 _ _ nm1 sk1 hr hlt (bi_n (by omega) hx2 c_150) (by omega)
                      · skip
                        refine pw_iconst (v := 1) dX8_kinds_153 rfl ?_
                        refine pw_iload dX8_kinds_154 rfl ?_
                        refine pw_ishl dX8_kinds_156 ?_
                        refine pw_goto (tgt := 161) dX8_kinds_157 (by decide) ?_
                        refine pw_ior dX8_kinds_161 ?_
                        refine pw_istore (ls2 := [(9, _), (0, _), (1, _), (2, _), (5, _), (6, _), (7, _), (8, _), (10, _)]) dX8_kinds_162 (by decide) rfl ?_
                        refine pw_iinc (ls2 := [(10, _), (9, _), (0, _), (1, _), (2, _), (5, _), (6, _), (7, _), (8, _)]) (v := nI (f + 1)) dX8_kinds_164 rfl (inc1 f) (by decide) rfl ?_
                        refine pw_goto (tgt := 85) dX8_kinds_167 (by decide) ?_
                        refine pw_sub [2, 3, 4, 5, 6, 7, 8, 1, 0] rfl ?_
                        exact ih_85 (f + 1) 2 10 _ _ nm1 sk1 hr hlt (bi_y hx2 c_150) (by omega)
                  · skip
                    exact absurd c_110 c_89
              · skip
                obtain ⟨hq1, rfl, rfl⟩ : q % 10 = 0 ∧ r = 1 ∧ K = 6 := by
                  rcases hr with g | g
                  · exact g
                  · exact absurd c_89 (by rw [g.1]; decide)
                refine pw_bipush (v := 6) dX8_kinds_92 rfl ?_
                refine pw_goto (tgt := 99) dX8_kinds_94 (by decide) ?_
                refine pw_icmp_ge (tgt := 170) dX8_kinds_99 (by decide) (fun c_99 => ?_) (fun c_99 => ?_)
                · skip
                  have hge := nI_geD (n := 6) (by decide) c_99
                  refine pw_aload_n dX8_kinds_170 rfl rfl ?_
                  refine pw_getR dX8_kinds_171 fa_X8_7 rfl ?_
                  refine pw_iload dX8_kinds_174 rfl ?_
                  refine pw_iload dX8_kinds_176 rfl ?_
                  refine pw_iast (j := q / 10) dX8_kinds_178 rfl rfl (by omega) ?_
                  refine pw_mem m_1 ?_
                  refine pw_aload_n dX8_kinds_179 rfl rfl ?_
                  refine pw_getR dX8_kinds_180 fa_X8_13 rfl ?_
                  refine pw_iload dX8_kinds_183 rfl ?_
                  refine pw_iload dX8_kinds_185 rfl ?_
                  refine pw_iast (j := q / 10) dX8_kinds_187 rfl rfl (by omega) ?_
                  refine pw_mem (m_2.trans (congrArg (fun U => mm μ U nm sk st sn) (kd_e V (q / 10) _ w (by decide)))) ?_
                  refine pw_iload dX8_kinds_188 rfl ?_
                  refine pw_iret dX8_kinds_190 rfl ?_
                  rw [show 6 - f = 0 by omega] at hx
                  exact ⟨by unfold kindsF; rw [if_pos hjj, cl_nI hq, cl_nI (show s < 2 ^ 31 by omega), cl_nI (show h < 2 ^ 31 by omega), if_pos hq1]; exact hx, _, _, rfl⟩
                · skip
                  have hlt := nI_ltD (n := 6) (by omega) c_99
                  have hx2 := hx
                  rw [show 6 - f = (6 - (f + 1)) + 1 by omega] at hx2
                  refine pw_aload_n dX8_kinds_102 rfl rfl ?_
                  refine pw_getR dX8_kinds_103 fa_X8_7 rfl ?_
                  refine pw_iload dX8_kinds_106 rfl ?_
                  refine pw_iload dX8_kinds_108 rfl ?_
                  refine pw_if_ne (tgt := 118) dX8_kinds_110 (by decide) (fun c_110 => ?_) (fun c_110 => ?_)
                  · skip
                    exact absurd c_89 c_110
                  · skip
                    refine pw_iload dX8_kinds_113 rfl ?_
                    refine pw_goto (tgt := 120) dX8_kinds_115 (by decide) ?_
                    refine pw_iast (j := q / 10) dX8_kinds_120 rfl rfl (by omega) ?_
                    refine pw_mem m_1 ?_
                    refine pw_aload_n dX8_kinds_121 rfl rfl ?_
                    refine pw_getR dX8_kinds_122 fa_X8_13 rfl ?_
                    refine pw_iload dX8_kinds_125 rfl ?_
                    refine pw_iload dX8_kinds_127 rfl ?_
                    refine pw_iconst (v := 1) dX8_kinds_129 rfl ?_
                    refine pw_icmp_ne (tgt := 138) dX8_kinds_130 (by decide) (fun c_130 => ?_) (fun c_130 => ?_)
                    · skip
                      refine pw_iload dX8_kinds_138 rfl ?_
                      refine pw_iast (j := q / 10) dX8_kinds_140 rfl rfl (by omega) ?_
                      refine pw_mem (m_2.trans (congrArg (fun U => mm μ U nm sk st sn) (kd_0 V (q / 10) w (nI f)))) ?_
                      refine pw_iload dX8_kinds_141 rfl ?_
                      refine pw_aload_n dX8_kinds_143 rfl rfl ?_
                      refine pw_iload_n dX8_kinds_144 rfl rfl ?_
                      refine pw_iload_n dX8_kinds_145 rfl rfl ?_
                      refine pw_cVi dX8_kinds_146 mv_X8_279 ckModel (T_X8_unlike (okL_V hL rfl) h1 hj5 hsh hs4) rfl rfl (Nat.le_of_ble_eq_true rfl) (by decide) (fun x_146 m_146 h_146 => ?_)
                      obtain ⟨rfl, nm1, sk1, rfl⟩ := h_146
                      refine pw_iconst (v := (-1)) dX8_kinds_149 rfl ?_
                      refine pw_icmp_ne (tgt := 160) dX8_kinds_150 (by decide) (fun c_150 => ?_) (fun c_150 => ?_)
                      · skip
                        refine pw_iconst (v := 0) dX8_kinds_160 rfl ?_
                        refine pw_ior dX8_kinds_161 ?_
                        refine pw_istore (ls2 := [(9, _), (0, _), (1, _), (2, _), (5, _), (6, _), (7, _), (8, _), (10, _)]) dX8_kinds_162 (by decide) rfl ?_
                        refine pw_iinc (ls2 := [(10, _), (9, _), (0, _), (1, _), (2, _), (5, _), (6, _), (7, _), (8, _)]) (v := nI (f + 1)) dX8_kinds_164 rfl (inc1 f) (by decide) rfl ?_
                        refine pw_goto (tgt := 85) dX8_kinds_167 (by decide) ?_
                        refine pw_sub [2, 3, 4, 5, 6, 7, 8, 1, 0] rfl ?_
                        exact ih_85 (f + 1) 1 6 _ _ nm1 sk1 hr hlt (bi_n (by omega) hx2 c_150) (by omega)
                      · skip
                        refine pw_iconst (v := 1) dX8_kinds_153 rfl ?_
                        refine pw_iload dX8_kinds_154 rfl ?_
                        refine pw_ishl dX8_kinds_156 ?_
                        refine pw_goto (tgt := 161) dX8_kinds_157 (by decide) ?_
                        refine pw_ior dX8_kinds_161 ?_
                        refine pw_istore (ls2 := [(9, _), (0, _), (1, _), (2, _), (5, _), (6, _), (7, _), (8, _), (10, _)]) dX8_kinds_162 (by decide) rfl ?_
                        refine pw_iinc (ls2 := [(10, _), (9, _), (0, _), (1, _), (2, _), (5, _), (6, _), (7, _), (8, _)]) (v := nI (f + 1)) dX8_kinds_164 rfl (inc1 f) (by decide) rfl ?_
                        refine pw_goto (tgt := 85) dX8_kinds_167 (by decide) ?_
                        refine pw_sub [2, 3, 4, 5, 6, 7, 8, 1, 0] rfl ?_
                        exact ih_85 (f + 1) 1 6 _ _ nm1 sk1 hr hlt (bi_y hx2 c_150) (by omega)
                    · skip
                      exact absurd c_130 (by rw [hq1]; decide)
          refine pw_sub [7, 8, 9, 5, 4, 3, 2, 1, 0] rfl ?_
          rcases hs01 with g | g
          · have hL0 := L_85 7 0 1 6 0 (V 1 (q / 10)) nm sk (Or.inl ⟨g, rfl, rfl⟩) (Nat.zero_le _) rfl (by omega)
            rw [vu_id] at hL0
            exact hL0
          · have hL0 := L_85 11 0 2 10 0 (V 2 (q / 10)) nm sk (Or.inr ⟨g, rfl, rfl⟩) (Nat.zero_le _) rfl (by omega)
            rw [vu_id] at hL0
            exact hL0
        · skip
          have hb_55 := b2_0 c_55
          refine pw_bipush (v := (-7)) dX8_kinds_58 rfl ?_
          refine pw_iret dX8_kinds_60 rfl ?_
          have hjj : rjjF (μ.1 10) (μ.1 11) V (nI s) (nI h) (nI q) = -7 := by
            have h2 : ¬ q % 10 ≤ 1 := fun w => absurd (in_le (j := q % 10) (n := 1) w (by decide)) (by rw [show inF (nI (q % 10)) 0 (nI 1) = false from hb_55]; exact Bool.false_ne_true)
            unfold rjjF
            rw [if_pos hr0, if_neg (nI_pos hq), erq, edq, hb_36, if_pos rfl, if_pos (show (1 : Int32) < nI (q % 10) from nI_lt (a := 1) (by omega) (by omega))]
          exact ⟨by unfold kindsF; rw [hjj, if_neg (by decide)], _, _, rfl⟩
      · skip
        have hb_36 := b2_0 c_36
        skip
        refine pw_bipush (v := (-5)) dX8_kinds_39 rfl ?_
        refine pw_iret dX8_kinds_41 rfl ?_
        have hjj : rjjF (μ.1 10) (μ.1 11) V (nI s) (nI h) (nI q) = -5 := by unfold rjjF; rw [if_pos hr0, if_neg (nI_pos hq), edq, hb_36]; rfl
        exact ⟨by unfold kindsF; rw [hjj, if_neg (by decide)], _, _, rfl⟩
    · skip
      refine pw_iconst (v := (-1)) dX8_kinds_20 rfl ?_
      refine pw_goto (tgt := 28) dX8_kinds_21 (by decide) ?_
      skip
      refine pw_istore (ls2 := [(5, _), (4, _), (0, _), (1, _), (2, _), (3, _)]) dX8_kinds_28 (by decide) rfl ?_
      refine pw_aload_n dX8_kinds_30 rfl rfl ?_
      refine pw_iload dX8_kinds_31 rfl ?_
      refine pw_cVi dX8_kinds_33 mv_X8_174 ckModel T_X8_isJoke rfl rfl (Nat.le_of_ble_eq_true rfl) (by decide) (fun x_33 m_33 h_33 => ?_)
      obtain ⟨rfl, rfl⟩ := h_33
      refine pw_if_ne (tgt := 42) dX8_kinds_36 (by decide) (fun c_36 => ?_) (fun c_36 => ?_)
      · skip
        have hb_36 := b2_n c_36
        skip
        exact absurd hb_36 (by rw [jk_m1]; exact Bool.false_ne_true)
      · skip
        have hb_36 := b2_0 c_36
        skip
        refine pw_bipush (v := (-5)) dX8_kinds_39 rfl ?_
        refine pw_iret dX8_kinds_41 rfl ?_
        have hjj : rjjF (μ.1 10) (μ.1 11) V (nI s) (nI h) ja = -5 := by unfold rjjF; rw [if_pos hr0, if_pos (Int32.not_le.mp c_17)]
        exact ⟨by unfold kindsF; rw [hjj, if_neg (by decide)], _, _, rfl⟩
  · skip
    refine pw_iload dX8_kinds_13 rfl ?_
    refine pw_iret dX8_kinds_15 rfl ?_
    exact ⟨by unfold kindsF rjjF; rw [if_neg c_10, if_neg c_10], _, _, rfl⟩

set_option maxHeartbeats 4000000 in
set_option maxRecDepth 100000 in
theorem T_X8_wear {l : Launch} {μ : PM} {B : BK} {V : VW} {nm sk st : Nat → Int32} {sn : Int32} {nj nh : Nat} {s h ja : Int32} (hL : okL μ B V) (h1 : V 0 1 = nI nj) (hj5 : nj ≤ 5) (h5 : V 0 5 = nI nh) (hh6 : nh ≤ 6) : CT l SM yX8_wear cX8_wear 12 (some .int) 6 [.ref 0, .int s, .int h, .int ja] (mm μ V nm sk st sn) (QI fun x m => x = wearF B V (μ.1 10) (μ.1 11) (μ.1 12) nj s h ja ∧ ∃ nm2 sk2, m = mm μ (V) nm2 sk2 st sn) := by
  refine CT.of rfl (Nat.le_of_ble_eq_true rfl) ?_
  show PW l SM RX8 cX8_wear 12 (some .int) 6 _ 0 [(0, .ref 0), (1, .int s), (2, .int h), (3, .int ja)] [] (mm μ V nm sk st sn)
  refine pw_aload_n dX8_wear_0 rfl rfl ?_
  refine pw_iload_n dX8_wear_1 rfl rfl ?_
  refine pw_iload_n dX8_wear_2 rfl rfl ?_
  refine pw_cVi dX8_wear_3 mv_X8_276 ckModel T_X8_toldWrong rfl rfl (Nat.le_of_ble_eq_true rfl) (by decide) (fun x_3 m_3 h_3 => ?_)
  obtain ⟨rfl, rfl⟩ := h_3
  refine pw_istore (ls2 := [(4, _), (0, _), (1, _), (2, _), (3, _)]) dX8_wear_6 (by decide) rfl ?_
  refine pw_iload dX8_wear_8 rfl ?_
  refine pw_if_eq (tgt := 16) dX8_wear_10 (by decide) (fun c_10 => ?_) (fun c_10 => ?_)
  · skip
    have hr0 : rjF (μ.1 10) (μ.1 11) V s h = 0 := c_10
    obtain ⟨hr1, hhr⟩ := rj_0 hr0
    obtain ⟨s, hs4, rfl, hso, hsz⟩ := rs_0 hr1
    obtain ⟨h, hlh, hsh, rfl⟩ := hr_of h5 hh6 hhr
    refine pw_iload_n dX8_wear_16 rfl rfl ?_
    refine pw_if_ge (tgt := 24) dX8_wear_17 (by decide) (fun c_17 => ?_) (fun c_17 => ?_)
    · skip
      refine pw_iload_n dX8_wear_24 rfl rfl ?_
      refine pw_bipush (v := 10) dX8_wear_25 rfl ?_
      refine pw_idiv dX8_wear_27 (by decide) ?_
      obtain ⟨q, hq, rfl⟩ := nI_of (Int32.not_lt.mpr c_17)
      have edq : nI q / 10 = nI (q / 10) := pk_div hq (by decide) (by decide)
      have erq : nI q - nI q / 10 * 10 = nI (q % 10) := pk_rem hq (by decide) (by decide)
      refine pw_top (y := nI (q / 10)) edq ?_
      refine pw_istore (ls2 := [(5, _), (4, _), (0, _), (1, _), (2, _), (3, _)]) dX8_wear_28 (by decide) rfl ?_
      refine pw_aload_n dX8_wear_30 rfl rfl ?_
      refine pw_iload dX8_wear_31 rfl ?_
      refine pw_cVi dX8_wear_33 mv_X8_174 ckModel T_X8_isJoke rfl rfl (Nat.le_of_ble_eq_true rfl) (by decide) (fun x_33 m_33 h_33 => ?_)
      obtain ⟨rfl, rfl⟩ := h_33
      refine pw_if_ne (tgt := 42) dX8_wear_36 (by decide) (fun c_36 => ?_) (fun c_36 => ?_)
      · skip
        have hb_36 := b2_n c_36
        skip
        obtain ⟨jz, hlj, hsj, ejz⟩ := jk_of h1 hj5 hb_36
        have ejq : q / 10 = jz := (nI_eq (by omega) (by omega)).mp ejz
        have hqj : q / 10 < 5 := by omega
        refine pw_iload_n dX8_wear_42 rfl rfl ?_
        refine pw_bipush (v := 10) dX8_wear_43 rfl ?_
        refine pw_irem dX8_wear_45 (by decide) ?_
        refine pw_top (y := nI (q % 10)) erq ?_
        refine pw_istore (ls2 := [(6, _), (5, _), (4, _), (0, _), (1, _), (2, _), (3, _)]) dX8_wear_46 (by decide) rfl ?_
        refine pw_iload dX8_wear_48 rfl ?_
        refine pw_iconst (v := 0) dX8_wear_50 rfl ?_
        refine pw_iconst (v := 1) dX8_wear_51 rfl ?_
        refine pw_cSi dX8_wear_52 ms_X8_78 T_X8_in rfl rfl (Nat.le_of_ble_eq_true rfl) (by decide) (fun x_52 m_52 h_52 => ?_)
        obtain ⟨rfl, rfl⟩ := h_52
        refine pw_if_ne (tgt := 61) dX8_wear_55 (by decide) (fun c_55 => ?_) (fun c_55 => ?_)
        · skip
          have hb_55 := b2_n c_55
          have hs01 : q % 10 = 0 ∨ q % 10 = 1 := by
            obtain ⟨z, hz, ez⟩ := in_trueL (n := 1) hb_55 (by decide)
            have := (nI_eq (a := q % 10) (b := z) (by omega) (by omega)).mp ez
            omega
          have hjj : rjjF (μ.1 10) (μ.1 11) V (nI s) (nI h) (nI q) = 0 := by
            unfold rjjF
            rw [if_pos hr0, if_neg (nI_pos hq), erq, edq, hb_36, if_pos rfl, if_neg (show ¬ (1 : Int32) < nI (q % 10) from nI_nlt (a := 1) (by omega) (by decide))]
          refine pw_aload_n dX8_wear_61 rfl rfl ?_
          refine pw_getR dX8_wear_62 fa_X8_16 rfl ?_
          refine pw_iload dX8_wear_65 rfl ?_
          refine pw_iald (j := q / 10) dX8_wear_67 rfl rfl (by omega) ?_
          refine pw_top (y := V 3 (q / 10)) rfl ?_
          refine pw_istore (ls2 := [(7, _), (6, _), (5, _), (4, _), (0, _), (1, _), (2, _), (3, _)]) dX8_wear_68 (by decide) rfl ?_
          refine pw_iconst (v := 0) dX8_wear_70 rfl ?_
          refine pw_istore (ls2 := [(8, _), (7, _), (6, _), (5, _), (4, _), (0, _), (1, _), (2, _), (3, _)]) dX8_wear_71 (by decide) rfl ?_
          refine pw_iconst (v := (-1)) dX8_wear_73 rfl ?_
          refine pw_istore (ls2 := [(9, _), (8, _), (7, _), (6, _), (5, _), (4, _), (0, _), (1, _), (2, _), (3, _)]) dX8_wear_74 (by decide) rfl ?_
          refine pw_iconst (v := 0) dX8_wear_76 rfl ?_
          refine pw_istore (ls2 := [(10, _), (9, _), (8, _), (7, _), (6, _), (5, _), (4, _), (0, _), (1, _), (2, _), (3, _)]) dX8_wear_77 (by decide) rfl ?_
          have L_79 : ∀ (fu_79 : Nat) (f c : Nat) (x w : Int32) (nm sk : Nat → Int32), (f ≤ 100) → (weL B V (μ.1 12) s h nj (q / 10) (100 - f) f (c, x) = weL B V (μ.1 12) s h nj (q / 10) 100 0 (0, -1)) → 100 - f < fu_79 → PW l SM RX8 cX8_wear 12 (some .int) 6 (QI fun x m => x = wearF B V (μ.1 10) (μ.1 11) (μ.1 12) nj (nI s) (nI h) (nI q) ∧ ∃ nm2 sk2, m = mm μ (V) nm2 sk2 st sn) 79 [(0, .ref 0), (1, .int (nI s)), (2, .int (nI h)), (5, .int (nI (q / 10))), (6, .int (nI (q % 10))), (7, .int (V 3 (q / 10))), (8, .int (nI c)), (9, .int x), (10, .int (nI f))] [] (mm μ (vu V 3 (q / 10) w) nm sk st sn) := by
            intro fu_79
            induction fu_79 with
            | zero =>
              intro f c x w nm sk hi hx hm_79
              exact absurd hm_79 (Nat.not_lt_zero _)
            | succ fu_79 ih_79 =>
              intro f c x w nm sk hi hx hm_79
              refine pw_iload dX8_wear_79 rfl ?_
              refine pw_bipush (v := 100) dX8_wear_81 rfl ?_
              refine pw_icmp_ge (tgt := 153) dX8_wear_83 (by decide) (fun c_83 => ?_) (fun c_83 => ?_)
              · skip
                have hge := nI_geD (n := 100) (by decide) c_83
                refine pw_aload_n dX8_wear_153 rfl rfl ?_
                refine pw_getR dX8_wear_154 fa_X8_16 rfl ?_
                refine pw_iload dX8_wear_157 rfl ?_
                refine pw_iload dX8_wear_159 rfl ?_
                refine pw_iast (j := q / 10) dX8_wear_161 rfl rfl (by omega) ?_
                refine pw_mem (m_3.trans (congrArg (fun U => mm μ U nm sk st sn) (vu_vi V 3 (q / 10) w))) ?_
                rw [show 100 - f = 0 by omega] at hx
                change (c, x) = _ at hx
                refine pw_iload dX8_wear_162 rfl ?_
                refine pw_if_ne (tgt := 172) dX8_wear_164 (by decide) (fun c_164 => ?_) (fun c_164 => ?_)
                · skip
                  refine pw_iload dX8_wear_172 rfl ?_
                  refine pw_iret dX8_wear_174 rfl ?_
                  exact ⟨by unfold wearF; rw [if_pos hjj, cl_nI hq, cl_nI (show s < 2 ^ 31 by omega), cl_nI (show h < 2 ^ 31 by omega), if_neg (fun g => c_164 (by rw [g]; rfl)), ← hx], _, _, rfl⟩
                · skip
                  refine pw_iload dX8_wear_167 rfl ?_
                  refine pw_goto (tgt := 174) dX8_wear_169 (by decide) ?_
                  refine pw_iret dX8_wear_174 rfl ?_
                  exact ⟨by unfold wearF; rw [if_pos hjj, cl_nI hq, cl_nI (show s < 2 ^ 31 by omega), cl_nI (show h < 2 ^ 31 by omega), if_pos ((nI_eq (b := 0) (by omega) (by decide)).mp c_164), ← hx], _, _, rfl⟩
              · skip
                have hlt := nI_ltD (n := 100) (by omega) c_83
                have hx2 := hx
                rw [show 100 - f = (100 - (f + 1)) + 1 by omega] at hx2
                change weL B V (μ.1 12) s h nj (q / 10) _ (f + 1) (if fitF B (vu V 3 (q / 10) (nI f)) (μ.1 12) s h nj = 1 then (c + 1, if x = -1 then nI f else x) else (c, x)) = _ at hx2
                refine pw_aload_n dX8_wear_86 rfl rfl ?_
                refine pw_getR dX8_wear_87 fa_X8_16 rfl ?_
                refine pw_iload dX8_wear_90 rfl ?_
                refine pw_iload dX8_wear_92 rfl ?_
                refine pw_iast (j := q / 10) dX8_wear_94 rfl rfl (by omega) ?_
                refine pw_mem (m_3.trans (congrArg (fun U => mm μ U nm sk st sn) (vu_vu V 3 (q / 10) w (nI f)))) ?_
                refine pw_aload_n dX8_wear_95 rfl rfl ?_
                refine pw_iload_n dX8_wear_96 rfl rfl ?_
                refine pw_iload_n dX8_wear_97 rfl rfl ?_
                refine pw_cVi dX8_wear_98 mv_X8_279 ckModel (T_X8_unlike (V := vu V 3 (q / 10) (nI f)) (okL_V hL rfl) h1 hj5 hsh hs4) rfl rfl (Nat.le_of_ble_eq_true rfl) (by decide) (fun x_98 m_98 h_98 => ?_)
                obtain ⟨rfl, nm1, sk1, rfl⟩ := h_98
                refine pw_iconst (v := (-1)) dX8_wear_101 rfl ?_
                refine pw_icmp_ne (tgt := 109) dX8_wear_102 (by decide) (fun c_102 => ?_) (fun c_102 => ?_)
                · skip
                  refine pw_iconst (v := 0) dX8_wear_109 rfl ?_
                  refine pw_istore (ls2 := [(11, _), (0, _), (1, _), (2, _), (5, _), (6, _), (7, _), (8, _), (9, _), (10, _)]) dX8_wear_110 (by decide) rfl ?_
                  refine pw_iload dX8_wear_112 rfl ?_
                  refine pw_iload dX8_wear_114 rfl ?_
                  refine pw_if_eq (tgt := 123) dX8_wear_116 (by decide) (fun c_116 => ?_) (fun c_116 => ?_)
                  · skip
                    refine pw_iconst (v := 0) dX8_wear_123 rfl ?_
                    refine pw_iadd dX8_wear_124 ?_
                    refine pw_top (y := nI c) (Int32.add_zero _) ?_
                    refine pw_istore (ls2 := [(8, _), (11, _), (0, _), (1, _), (2, _), (5, _), (6, _), (7, _), (9, _), (10, _)]) dX8_wear_125 (by decide) rfl ?_
                    refine pw_iload dX8_wear_127 rfl ?_
                    refine pw_if_eq (tgt := 143) dX8_wear_129 (by decide) (fun c_129 => ?_) (fun c_129 => ?_)
                    · skip
                      refine pw_iload dX8_wear_143 rfl ?_
                      refine pw_istore (ls2 := [(9, _), (8, _), (11, _), (0, _), (1, _), (2, _), (5, _), (6, _), (7, _), (10, _)]) dX8_wear_145 (by decide) rfl ?_
                      refine pw_iinc (ls2 := [(10, _), (9, _), (8, _), (11, _), (0, _), (1, _), (2, _), (5, _), (6, _), (7, _)]) (v := nI (f + 1)) dX8_wear_147 rfl (inc1 f) (by decide) rfl ?_
                      refine pw_goto (tgt := 79) dX8_wear_150 (by decide) ?_
                      refine pw_sub [4, 5, 6, 7, 8, 9, 2, 1, 0] rfl ?_
                      rw [fit_n c_102, if_neg (by decide)] at hx2
                      exact ih_79 (f + 1) c _ _ nm1 sk1 hlt hx2 (by omega)
                    · skip
                      exact absurd rfl c_129
                  · skip
                    exact absurd rfl c_116
                · skip
                  refine pw_iconst (v := 1) dX8_wear_105 rfl ?_
                  refine pw_goto (tgt := 110) dX8_wear_106 (by decide) ?_
                  refine pw_istore (ls2 := [(11, _), (0, _), (1, _), (2, _), (5, _), (6, _), (7, _), (8, _), (9, _), (10, _)]) dX8_wear_110 (by decide) rfl ?_
                  refine pw_iload dX8_wear_112 rfl ?_
                  refine pw_iload dX8_wear_114 rfl ?_
                  refine pw_if_eq (tgt := 123) dX8_wear_116 (by decide) (fun c_116 => ?_) (fun c_116 => ?_)
                  · skip
                    exact absurd c_116 (by decide)
                  · skip
                    refine pw_iconst (v := 1) dX8_wear_119 rfl ?_
                    refine pw_goto (tgt := 124) dX8_wear_120 (by decide) ?_
                    refine pw_iadd dX8_wear_124 ?_
                    refine pw_top (y := nI (c + 1)) (nI_1 c) ?_
                    refine pw_istore (ls2 := [(8, _), (11, _), (0, _), (1, _), (2, _), (5, _), (6, _), (7, _), (9, _), (10, _)]) dX8_wear_125 (by decide) rfl ?_
                    refine pw_iload dX8_wear_127 rfl ?_
                    refine pw_if_eq (tgt := 143) dX8_wear_129 (by decide) (fun c_129 => ?_) (fun c_129 => ?_)
                    · skip
                      exact absurd c_129 (by decide)
                    · skip
                      refine pw_iload dX8_wear_132 rfl ?_
                      refine pw_iconst (v := (-1)) dX8_wear_134 rfl ?_
                      refine pw_icmp_ne (tgt := 143) dX8_wear_135 (by decide) (fun c_135 => ?_) (fun c_135 => ?_)
                      · skip
                        refine pw_iload dX8_wear_143 rfl ?_
                        refine pw_istore (ls2 := [(9, _), (8, _), (11, _), (0, _), (1, _), (2, _), (5, _), (6, _), (7, _), (10, _)]) dX8_wear_145 (by decide) rfl ?_
                        refine pw_iinc (ls2 := [(10, _), (9, _), (8, _), (11, _), (0, _), (1, _), (2, _), (5, _), (6, _), (7, _)]) (v := nI (f + 1)) dX8_wear_147 rfl (inc1 f) (by decide) rfl ?_
                        refine pw_goto (tgt := 79) dX8_wear_150 (by decide) ?_
                        refine pw_sub [4, 5, 6, 7, 8, 9, 2, 1, 0] rfl ?_
                        rw [fit_y c_102, if_pos rfl, if_neg c_135] at hx2
                        exact ih_79 (f + 1) (c + 1) _ _ nm1 sk1 hlt hx2 (by omega)
                      · skip
                        refine pw_iload dX8_wear_138 rfl ?_
                        refine pw_goto (tgt := 145) dX8_wear_140 (by decide) ?_
                        refine pw_istore (ls2 := [(9, _), (8, _), (11, _), (0, _), (1, _), (2, _), (5, _), (6, _), (7, _), (10, _)]) dX8_wear_145 (by decide) rfl ?_
                        refine pw_iinc (ls2 := [(10, _), (9, _), (8, _), (11, _), (0, _), (1, _), (2, _), (5, _), (6, _), (7, _)]) (v := nI (f + 1)) dX8_wear_147 rfl (inc1 f) (by decide) rfl ?_
                        refine pw_goto (tgt := 79) dX8_wear_150 (by decide) ?_
                        refine pw_sub [4, 5, 6, 7, 8, 9, 2, 1, 0] rfl ?_
                        rw [fit_y c_102, if_pos rfl, if_pos c_135] at hx2
                        exact ih_79 (f + 1) (c + 1) _ _ nm1 sk1 hlt hx2 (by omega)
          refine pw_sub [7, 8, 9, 5, 4, 3, 2, 1, 0] rfl ?_
          have hL0 := L_79 101 0 0 (-1) (V 3 (q / 10)) nm sk (Nat.zero_le _) rfl (by omega)
          rw [vu_id] at hL0
          exact hL0
        · skip
          have hb_55 := b2_0 c_55
          refine pw_bipush (v := (-7)) dX8_wear_58 rfl ?_
          refine pw_iret dX8_wear_60 rfl ?_
          have hjj : rjjF (μ.1 10) (μ.1 11) V (nI s) (nI h) (nI q) = -7 := by
            have h2 : ¬ q % 10 ≤ 1 := fun w => absurd (in_le (j := q % 10) (n := 1) w (by decide)) (by rw [show inF (nI (q % 10)) 0 (nI 1) = false from hb_55]; exact Bool.false_ne_true)
            unfold rjjF
            rw [if_pos hr0, if_neg (nI_pos hq), erq, edq, hb_36, if_pos rfl, if_pos (show (1 : Int32) < nI (q % 10) from nI_lt (a := 1) (by omega) (by omega))]
          exact ⟨by unfold wearF; rw [hjj, if_neg (by decide)], _, _, rfl⟩
      · skip
        have hb_36 := b2_0 c_36
        skip
        refine pw_bipush (v := (-5)) dX8_wear_39 rfl ?_
        refine pw_iret dX8_wear_41 rfl ?_
        have hjj : rjjF (μ.1 10) (μ.1 11) V (nI s) (nI h) (nI q) = -5 := by unfold rjjF; rw [if_pos hr0, if_neg (nI_pos hq), edq, hb_36]; rfl
        exact ⟨by unfold wearF; rw [hjj, if_neg (by decide)], _, _, rfl⟩
    · skip
      refine pw_iconst (v := (-1)) dX8_wear_20 rfl ?_
      refine pw_goto (tgt := 28) dX8_wear_21 (by decide) ?_
      skip
      refine pw_istore (ls2 := [(5, _), (4, _), (0, _), (1, _), (2, _), (3, _)]) dX8_wear_28 (by decide) rfl ?_
      refine pw_aload_n dX8_wear_30 rfl rfl ?_
      refine pw_iload dX8_wear_31 rfl ?_
      refine pw_cVi dX8_wear_33 mv_X8_174 ckModel T_X8_isJoke rfl rfl (Nat.le_of_ble_eq_true rfl) (by decide) (fun x_33 m_33 h_33 => ?_)
      obtain ⟨rfl, rfl⟩ := h_33
      refine pw_if_ne (tgt := 42) dX8_wear_36 (by decide) (fun c_36 => ?_) (fun c_36 => ?_)
      · skip
        have hb_36 := b2_n c_36
        skip
        exact absurd hb_36 (by rw [jk_m1]; exact Bool.false_ne_true)
      · skip
        have hb_36 := b2_0 c_36
        skip
        refine pw_bipush (v := (-5)) dX8_wear_39 rfl ?_
        refine pw_iret dX8_wear_41 rfl ?_
        have hjj : rjjF (μ.1 10) (μ.1 11) V (nI s) (nI h) ja = -5 := by unfold rjjF; rw [if_pos hr0, if_pos (Int32.not_le.mp c_17)]
        exact ⟨by unfold wearF; rw [hjj, if_neg (by decide)], _, _, rfl⟩
  · skip
    refine pw_iload dX8_wear_13 rfl ?_
    refine pw_iret dX8_wear_15 rfl ?_
    exact ⟨by unfold wearF rjjF; rw [if_neg c_10, if_neg c_10], _, _, rfl⟩

set_option maxHeartbeats 4000000 in
set_option maxRecDepth 100000 in
theorem T_X8_amiss {l : Launch} {μ : PM} {B : BK} {V : VW} {nm sk st : Nat → Int32} {sn : Int32} {nj nh : Nat} {s h : Int32} (hL : okL μ B V) (h1 : V 0 1 = nI nj) (hj5 : nj ≤ 5) (h5 : V 0 5 = nI nh) (hh6 : nh ≤ 6) : CT l SM yX8_amiss cX8_amiss 8 (some .long) 6 [.ref 0, .int s, .int h] (mm μ V nm sk st sn) (QL fun x m => x = amissF B V (μ.1 10) (μ.1 11) (μ.1 12) nj s h ∧ ∃ nm2 sk2, m = mm μ (V) nm2 sk2 st sn) := by
  refine CT.of rfl (Nat.le_of_ble_eq_true rfl) ?_
  show PW l SM RX8 cX8_amiss 8 (some .long) 6 _ 0 [(0, .ref 0), (1, .int s), (2, .int h)] [] (mm μ V nm sk st sn)
  refine pw_aload_n dX8_amiss_0 rfl rfl ?_
  refine pw_iload_n dX8_amiss_1 rfl rfl ?_
  refine pw_iload_n dX8_amiss_2 rfl rfl ?_
  refine pw_cVi dX8_amiss_3 mv_X8_276 ckModel T_X8_toldWrong rfl rfl (Nat.le_of_ble_eq_true rfl) (by decide) (fun x_3 m_3 h_3 => ?_)
  obtain ⟨rfl, rfl⟩ := h_3
  refine pw_if_eq (tgt := 13) dX8_amiss_6 (by decide) (fun c_6 => ?_) (fun c_6 => ?_)
  · skip
    have hr0 : rjF (μ.1 10) (μ.1 11) V s h = 0 := c_6
    obtain ⟨hr1, hhr⟩ := rj_0 hr0
    obtain ⟨s, hs4, rfl, hso, hsz⟩ := rs_0 hr1
    obtain ⟨h, hlh, hsh, rfl⟩ := hr_of h5 hh6 hhr
    refine pw_lconst dX8_amiss_13 rfl ?_
    refine pw_lstore_n (ls2 := [(3, _), (0, _), (1, _), (2, _)]) dX8_amiss_14 rfl (by decide) rfl ?_
    refine pw_iconst (v := 0) dX8_amiss_15 rfl ?_
    refine pw_istore (ls2 := [(5, _), (3, _), (0, _), (1, _), (2, _)]) dX8_amiss_16 (by decide) rfl ?_
    have L_18 : ∀ (fu_18 : Nat) (i : Nat) (x : Int64) (nm sk : Nat → Int32), (i ≤ nj) → (amL B V (μ.1 12) s h (nj - i) i x = amL B V (μ.1 12) s h nj 0 0) → nj - i < fu_18 → PW l SM RX8 cX8_amiss 8 (some .long) 6 (QL fun x m => x = amissF B V (μ.1 10) (μ.1 11) (μ.1 12) nj (nI s) (nI h) ∧ ∃ nm2 sk2, m = mm μ (V) nm2 sk2 st sn) 18 [(0, .ref 0), (1, .int (nI s)), (2, .int (nI h)), (3, .long x), (5, .int (nI i))] [] (mm μ V nm sk st sn) := by
      intro fu_18
      induction fu_18 with
      | zero =>
        intro i x nm sk hi hx hm_18
        exact absurd hm_18 (Nat.not_lt_zero _)
      | succ fu_18 ih_18 =>
        intro i x nm sk hi hx hm_18
        refine pw_iload dX8_amiss_18 rfl ?_
        refine pw_aload_n dX8_amiss_20 rfl rfl ?_
        refine pw_getI dX8_amiss_21 fa_X8_75 rfl ?_
        refine pw_top (y := nI nj) h1 ?_
        refine pw_icmp_ge (tgt := 97) dX8_amiss_24 (by decide) (fun c_24 => ?_) (fun c_24 => ?_)
        · skip
          have hge := nI_geD (by omega) c_24
          refine pw_lload_n dX8_amiss_97 rfl rfl ?_
          refine pw_lret dX8_amiss_98 rfl ?_
          rw [show nj - i = 0 by omega] at hx
          exact ⟨by unfold amissF; rw [if_pos hr0, cl_nI (show s < 2 ^ 31 by omega), cl_nI (show h < 2 ^ 31 by omega)]; exact hx, _, _, rfl⟩
        · skip
          have hlt := nI_ltD (by omega) c_24
          have hx2 := hx
          rw [show nj - i = (nj - (i + 1)) + 1 by omega] at hx2
          change amL B V (μ.1 12) s h _ (i + 1) (x + (if 0 < ((μ.1 12 (40 * s + i)).toInt64 - (yF B V i h).toInt64) then ((μ.1 12 (40 * s + i)).toInt64 - (yF B V i h).toInt64) else -((μ.1 12 (40 * s + i)).toInt64 - (yF B V i h).toInt64)) * (saysF B V 2 (V 3 i) (V 2 i) h).toInt64) = _ at hx2
          refine pw_aload_n dX8_amiss_27 rfl rfl ?_
          refine pw_getR dX8_amiss_28 fa_X8_43 rfl ?_
          refine pw_bipush (v := 40) dX8_amiss_31 rfl ?_
          refine pw_iload_n dX8_amiss_33 rfl rfl ?_
          refine pw_imul dX8_amiss_34 ?_
          refine pw_iload dX8_amiss_35 rfl ?_
          refine pw_iadd dX8_amiss_37 ?_
          refine pw_iald (j := 40 * s + i) dX8_amiss_38 rfl (by show nI 40 * nI s + nI i = _; rw [pk_mul, nI_add]) (by omega) ?_
          refine pw_top (y := μ.1 12 (40 * s + i)) rfl ?_
          refine pw_i2l dX8_amiss_39 ?_
          refine pw_aload_n dX8_amiss_40 rfl rfl ?_
          refine pw_iload dX8_amiss_41 rfl ?_
          refine pw_iload_n dX8_amiss_43 rfl rfl ?_
          refine pw_cVi dX8_amiss_44 mv_X8_190 ckModel (T_X8_yieldsOf (j := i) (h := h) hL (by omega) hsh) rfl rfl (Nat.le_of_ble_eq_true rfl) (by decide) (fun x_44 m_44 h_44 => ?_)
          obtain ⟨rfl, nm1, sk1, rfl⟩ := h_44
          refine pw_i2l dX8_amiss_47 ?_
          refine pw_lsub dX8_amiss_48 ?_
          refine pw_lstore (ls2 := [(6, _), (0, _), (1, _), (2, _), (3, _), (5, _)]) dX8_amiss_49 (by decide) rfl ?_
          refine pw_lload_n dX8_amiss_51 rfl rfl ?_
          refine pw_lload dX8_amiss_52 rfl ?_
          refine pw_lconst dX8_amiss_54 rfl ?_
          refine pw_lcmp dX8_amiss_55 ?_
          refine pw_if_ge (tgt := 65) dX8_amiss_56 (by decide) (fun c_56 => ?_) (fun c_56 => ?_)
          · skip
            have h56 : (if 0 < ((μ.1 12 (40 * s + i)).toInt64 - (yF B V i h).toInt64) then ((μ.1 12 (40 * s + i)).toInt64 - (yF B V i h).toInt64) else -((μ.1 12 (40 * s + i)).toInt64 - (yF B V i h).toInt64)) = ((μ.1 12 (40 * s + i)).toInt64 - (yF B V i h).toInt64) := by
              by_cases g : 0 < ((μ.1 12 (40 * s + i)).toInt64 - (yF B V i h).toInt64)
              · rw [if_pos g]
              · rw [if_neg g, Int64.le_antisymm (Int64.not_lt.mp g) ((lg_cmp_ge _ _).mp c_56)]; rfl
            rw [h56] at hx2
            refine pw_lload dX8_amiss_65 rfl ?_
            refine pw_aload_n dX8_amiss_67 rfl rfl ?_
            refine pw_iconst (v := 2) dX8_amiss_68 rfl ?_
            refine pw_aload_n dX8_amiss_69 rfl rfl ?_
            refine pw_getR dX8_amiss_70 fa_X8_16 rfl ?_
            refine pw_iload dX8_amiss_73 rfl ?_
            refine pw_iald (j := i) dX8_amiss_75 rfl rfl (by omega) ?_
            refine pw_top (y := V 3 i) rfl ?_
            refine pw_iload_n dX8_amiss_76 rfl rfl ?_
            refine pw_aload_n dX8_amiss_77 rfl rfl ?_
            refine pw_getR dX8_amiss_78 fa_X8_13 rfl ?_
            refine pw_iload dX8_amiss_81 rfl ?_
            refine pw_iald (j := i) dX8_amiss_83 rfl rfl (by omega) ?_
            refine pw_top (y := V 2 i) rfl ?_
            refine pw_cVi dX8_amiss_84 mv_X8_170 ckModel (T_X8_asksOf (p := 2) (h := h) hL (by decide) hsh) rfl rfl (Nat.le_of_ble_eq_true rfl) (by decide) (fun x_84 m_84 h_84 => ?_)
            obtain ⟨rfl, nm2, sk2, rfl⟩ := h_84
            refine pw_i2l dX8_amiss_87 ?_
            refine pw_lmul dX8_amiss_88 ?_
            refine pw_ladd dX8_amiss_89 ?_
            refine pw_lstore_n (ls2 := [(3, _), (6, _), (0, _), (1, _), (2, _), (5, _)]) dX8_amiss_90 rfl (by decide) rfl ?_
            refine pw_iinc (ls2 := [(5, _), (3, _), (6, _), (0, _), (1, _), (2, _)]) (v := nI (i + 1)) dX8_amiss_91 rfl (inc1 i) (by decide) rfl ?_
            refine pw_goto (tgt := 18) dX8_amiss_94 (by decide) ?_
            refine pw_sub [3, 4, 5, 1, 0] rfl ?_
            exact ih_18 (i + 1) _ nm2 sk2 hlt hx2 (by omega)
          · skip
            have h56 : ¬ 0 < ((μ.1 12 (40 * s + i)).toInt64 - (yF B V i h).toInt64) := fun g => c_56 ((lg_cmp_ge _ _).mpr (Int64.le_of_lt g))
            rw [if_neg h56] at hx2
            refine pw_lload dX8_amiss_59 rfl ?_
            refine pw_lneg dX8_amiss_61 ?_
            refine pw_goto (tgt := 67) dX8_amiss_62 (by decide) ?_
            refine pw_aload_n dX8_amiss_67 rfl rfl ?_
            refine pw_iconst (v := 2) dX8_amiss_68 rfl ?_
            refine pw_aload_n dX8_amiss_69 rfl rfl ?_
            refine pw_getR dX8_amiss_70 fa_X8_16 rfl ?_
            refine pw_iload dX8_amiss_73 rfl ?_
            refine pw_iald (j := i) dX8_amiss_75 rfl rfl (by omega) ?_
            refine pw_top (y := V 3 i) rfl ?_
            refine pw_iload_n dX8_amiss_76 rfl rfl ?_
            refine pw_aload_n dX8_amiss_77 rfl rfl ?_
            refine pw_getR dX8_amiss_78 fa_X8_13 rfl ?_
            refine pw_iload dX8_amiss_81 rfl ?_
            refine pw_iald (j := i) dX8_amiss_83 rfl rfl (by omega) ?_
            refine pw_top (y := V 2 i) rfl ?_
            refine pw_cVi dX8_amiss_84 mv_X8_170 ckModel (T_X8_asksOf (p := 2) (h := h) hL (by decide) hsh) rfl rfl (Nat.le_of_ble_eq_true rfl) (by decide) (fun x_84 m_84 h_84 => ?_)
            obtain ⟨rfl, nm2, sk2, rfl⟩ := h_84
            refine pw_i2l dX8_amiss_87 ?_
            refine pw_lmul dX8_amiss_88 ?_
            refine pw_ladd dX8_amiss_89 ?_
            refine pw_lstore_n (ls2 := [(3, _), (6, _), (0, _), (1, _), (2, _), (5, _)]) dX8_amiss_90 rfl (by decide) rfl ?_
            refine pw_iinc (ls2 := [(5, _), (3, _), (6, _), (0, _), (1, _), (2, _)]) (v := nI (i + 1)) dX8_amiss_91 rfl (inc1 i) (by decide) rfl ?_
            refine pw_goto (tgt := 18) dX8_amiss_94 (by decide) ?_
            refine pw_sub [3, 4, 5, 1, 0] rfl ?_
            exact ih_18 (i + 1) _ nm2 sk2 hlt hx2 (by omega)
    refine pw_sub [2, 3, 4, 1, 0] rfl ?_
    exact L_18 (nj + 1) 0 0 nm sk (Nat.zero_le _) rfl (by omega)
  · skip
    refine pw_ldc2 dX8_amiss_9 k_X8_253 ?_
    refine pw_lret dX8_amiss_12 rfl ?_
    exact ⟨by unfold amissF; rw [if_neg c_6]; rfl, _, _, rfl⟩

