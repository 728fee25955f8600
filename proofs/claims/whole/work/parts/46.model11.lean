def rotV (B : BK) (V : VW) (nh j h : Nat) : Nat → VW
  | 0 => V
  | m + 1 => tellV B (rotV B V nh j h m) j ((h + (m + 1)) % nh)
theorem rotV_0 {B : BK} {V : VW} {nh j h : Nat} : ∀ m, rotV B V nh j h m 0 = V 0
  | 0 => rfl
  | m + 1 => by
    show (rotV B V nh j h m) 0 = V 0
    exact rotV_0 m
theorem rotV_a {B : BK} {V : VW} {nh j h : Nat} (hh : h < nh) : ∀ m, m ≤ nh - (h + 1) → rotV B V nh j h m = tlE B j (h + 1) m V
  | 0, _ => rfl
  | m + 1, hm => by
    show tellV B (rotV B V nh j h m) j ((h + (m + 1)) % nh) = tellV B (tlE B j (h + 1) m V) j (h + 1 + m)
    rw [rotV_a hh m (by omega), Nat.mod_eq_of_lt (by omega), show h + (m + 1) = h + 1 + m by omega]
theorem rotV_b {B : BK} {V : VW} {nh j h : Nat} (hh : h < nh) : ∀ m, m ≤ h → rotV B V nh j h (nh - (h + 1) + m) = tlE B j 0 m (tlE B j (h + 1) (nh - (h + 1)) V)
  | 0, _ => rotV_a hh _ (Nat.le_refl _)
  | m + 1, hm => by
    show tellV B (rotV B V nh j h (nh - (h + 1) + m)) j ((h + (nh - (h + 1) + m + 1)) % nh) = tellV B (tlE B j 0 m _) j (0 + m)
    rw [rotV_b hh m (by omega), show h + (nh - (h + 1) + m + 1) = nh + m by omega, Nat.add_mod_left, Nat.mod_eq_of_lt (by omega), Nat.zero_add]
theorem rotV_e {B : BK} {V : VW} {nh j h : Nat} (hh : h < nh) : rotV B V nh j h (nh - 1) = tlE B j 0 h (tlE B j (h + 1) (nh - (h + 1)) V) := by
  rw [show nh - 1 = nh - (h + 1) + h by omega]
  exact rotV_b hh h (Nat.le_refl _)
theorem win_1 {n M : Nat} (h1 : 1 ≤ n) (h2 : n ≤ M) (hM : M < 2 ^ 30) : boundF (nI n) 1 (nI M) = nI n := by
  unfold boundF
  rw [if_neg (show ¬ nI n < 1 from nI_nlt (b := 1) h1 (by omega)), if_neg (nI_nlt h2 (by omega))]
theorem nI_nm {i : Nat} (h : i < 2 ^ 31) : ¬ nI i = -1 := fun e => nI_pos h (by rw [e]; decide)
def rwL (B : BK) (nh nm : Nat) : Nat → Nat → VW → Int32 → Int32
  | 0, _, _, s => s
  | m + 1, rest, V, s => rwL B nh nm m (rest % nm ^ m) (tellV B V (rest / nm ^ m / nh) (rest / nm ^ m % nh)) (s + yAt B V nh (rest / nm ^ m))
set_option maxHeartbeats 4000000 in
set_option maxRecDepth 100000 in
theorem T_X8_mine {l : Launch} {μ : PM} {B : BK} {V : VW} {nm sk st : Nat → Int32} {nj nh : Nat} {j h mu : Int32} (hL : okL μ B V) (h1 : V 0 1 = nI nj) (hj5 : nj ≤ 5) (h5 : V 0 5 = nI nh) (hh6 : nh ≤ 6) (hpw : ∀ j h, j < nj → h < nh → pwOK V j h) : CT l SM yX8_mine cX8_mine 6 (some .int) 6 [.ref 0, .int j, .int h, .int mu] (mm μ V nm sk st 0) (QI fun x m => x = mineF B V j h mu ∧ ∃ nm2 sk2 st2, m = mm μ (V) nm2 sk2 st2 0) := by
  refine CT.of rfl (Nat.le_of_ble_eq_true rfl) ?_
  show PW l SM RX8 cX8_mine 6 (some .int) 6 _ 0 [(0, .ref 0), (1, .int j), (2, .int h), (3, .int mu)] [] (mm μ V nm sk st 0)
  refine pw_aload_n dX8_mine_0 rfl rfl ?_
  refine pw_iload_n dX8_mine_1 rfl rfl ?_
  refine pw_cVi dX8_mine_2 mv_X8_174 ckModel T_X8_isJoke rfl rfl (Nat.le_of_ble_eq_true rfl) (by decide) (fun x_2 m_2 h_2 => ?_)
  obtain ⟨rfl, rfl⟩ := h_2
  refine pw_if_ne (tgt := 11) dX8_mine_5 (by decide) (fun c_5 => ?_) (fun c_5 => ?_)
  · skip
    have hb_5 := b2_n c_5
    refine pw_aload_n dX8_mine_11 rfl rfl ?_
    refine pw_iload_n dX8_mine_12 rfl rfl ?_
    refine pw_cVi dX8_mine_13 mv_X8_167 ckModel T_X8_isHearer rfl rfl (Nat.le_of_ble_eq_true rfl) (by decide) (fun x_13 m_13 h_13 => ?_)
    obtain ⟨rfl, rfl⟩ := h_13
    refine pw_if_ne (tgt := 22) dX8_mine_16 (by decide) (fun c_16 => ?_) (fun c_16 => ?_)
    · skip
      have hb_16 := b2_n c_16
      refine pw_iload_n dX8_mine_22 rfl rfl ?_
      refine pw_iconst (v := 0) dX8_mine_23 rfl ?_
      refine pw_bipush (v := 99) dX8_mine_24 rfl ?_
      refine pw_cSi dX8_mine_26 ms_X8_78 T_X8_in rfl rfl (Nat.le_of_ble_eq_true rfl) (by decide) (fun x_26 m_26 h_26 => ?_)
      obtain ⟨rfl, rfl⟩ := h_26
      refine pw_if_ne (tgt := 35) dX8_mine_29 (by decide) (fun c_29 => ?_) (fun c_29 => ?_)
      · skip
        have hb_29 := b2_n c_29
        obtain ⟨j, hlj, hsj, rfl⟩ := jk_of h1 hj5 hb_5
        obtain ⟨h, hlh, hsh, rfl⟩ := hr_of h5 hh6 hb_16
        refine pw_iconst (v := (-1)) dX8_mine_35 rfl ?_
        refine pw_istore (ls2 := [(4, _), (0, _), (1, _), (2, _), (3, _)]) dX8_mine_36 (by decide) rfl ?_
        refine pw_iconst (v := 0) dX8_mine_38 rfl ?_
        refine pw_istore (ls2 := [(5, _), (4, _), (0, _), (1, _), (2, _), (3, _)]) dX8_mine_39 (by decide) rfl ?_
        have L_41 : ∀ (fu_41 : Nat) (i : Nat) (f : Int32) (U : VW) (nm sk st : Nat → Int32), (i ≤ 100) → ((f = -1 ∧ mnL B j h mu (100 - i) i U = mnL B j h mu 100 0 V) ∨ (¬ f = -1 ∧ f = mnL B j h mu 100 0 V)) → (okL μ B U) → (pwOK U j h) → (unOK st i) → (unL st i U = V) → 100 - i < fu_41 → PW l SM RX8 cX8_mine 6 (some .int) 6 (QI fun x m => x = mineF B V (nI j) (nI h) mu ∧ ∃ nm2 sk2 st2, m = mm μ (V) nm2 sk2 st2 0) 41 [(0, .ref 0), (1, .int (nI j)), (2, .int (nI h)), (3, .int mu), (4, .int f), (5, .int (nI i))] [] (mm μ U nm sk st (nI i)) := by
          intro fu_41
          induction fu_41 with
          | zero =>
            intro i f U nm sk st hi hx hLU hpU hu hun hm_41
            exact absurd hm_41 (Nat.not_lt_zero _)
          | succ fu_41 ih_41 =>
            intro i f U nm sk st hi hx hLU hpU hu hun hm_41
            refine pw_iload dX8_mine_41 rfl ?_
            refine pw_bipush (v := 100) dX8_mine_43 rfl ?_
            refine pw_icmp_ge (tgt := 78) dX8_mine_45 (by decide) (fun c_45 => ?_) (fun c_45 => ?_)
            · skip
              have hge := nI_geD (n := 100) (by decide) c_45
              refine pw_aload_n dX8_mine_78 rfl rfl ?_
              refine pw_cVv dX8_mine_79 mv_X8_214 ckModel (T_X8_takesBack (n := i) (V := U) (by omega) hu) rfl rfl (Nat.le_of_ble_eq_true rfl) (by decide) (fun m_79 h_79 => ?_)
              obtain rfl := h_79
              refine pw_iload dX8_mine_82 rfl ?_
              refine pw_iret dX8_mine_84 rfl ?_
              have hfe : f = mnL B j h mu 100 0 V := by
                rcases hx with q | q
                · rw [q.1, ← q.2, show 100 - i = 0 by omega]; rfl
                · exact q.2
              exact ⟨by unfold mineF refT; rw [show jkF V (nI j) = true from hb_5, show hrF V (nI h) = true from hb_16, if_pos (by rfl), show inF mu 0 99 = true from hb_29, if_pos rfl, cl_nI (by omega), cl_nI (by omega)]; exact hfe, _, _, _, by rw [hun]⟩
            · skip
              have hlt := nI_ltD (n := 100) (by omega) c_45
              refine pw_iload dX8_mine_48 rfl ?_
              refine pw_iconst (v := (-1)) dX8_mine_50 rfl ?_
              refine pw_icmp_ne (tgt := 78) dX8_mine_51 (by decide) (fun c_51 => ?_) (fun c_51 => ?_)
              · skip
                have hfe := hx.resolve_left (fun q => c_51 q.1)
                refine pw_aload_n dX8_mine_78 rfl rfl ?_
                refine pw_cVv dX8_mine_79 mv_X8_214 ckModel (T_X8_takesBack (n := i) (V := U) (by omega) hu) rfl rfl (Nat.le_of_ble_eq_true rfl) (by decide) (fun m_79 h_79 => ?_)
                obtain rfl := h_79
                refine pw_iload dX8_mine_82 rfl ?_
                refine pw_iret dX8_mine_84 rfl ?_
                exact ⟨by unfold mineF refT; rw [show jkF V (nI j) = true from hb_5, show hrF V (nI h) = true from hb_16, if_pos (by rfl), show inF mu 0 99 = true from hb_29, if_pos rfl, cl_nI (by omega), cl_nI (by omega)]; exact hfe.2, _, _, _, by rw [hun]⟩
              · skip
                have hfe : mnL B j h mu (100 - i) i U = mnL B j h mu 100 0 V := by
                  rcases hx with q | q
                  · exact q.2
                  · exact absurd c_51 q.1
                have hstep : 100 - i = (100 - (i + 1)) + 1 := by omega
                rw [hstep] at hfe
                change (if mu < yF B U j h then _ else _) = _ at hfe
                refine pw_aload_n dX8_mine_54 rfl rfl ?_
                refine pw_iload_n dX8_mine_55 rfl rfl ?_
                refine pw_iload_n dX8_mine_56 rfl rfl ?_
                refine pw_cVi dX8_mine_57 mv_X8_199 ckModel (T_X8_tells (n := i) (V := U) (j := j) (h := h) hLU hsj hsh hpU (by omega)) rfl rfl (Nat.le_of_ble_eq_true rfl) (by decide) (fun x_57 m_57 h_57 => ?_)
                obtain ⟨rfl, nm1, sk1, rfl⟩ := h_57
                refine pw_iload_n dX8_mine_60 rfl rfl ?_
                refine pw_icmp_gt (tgt := 69) dX8_mine_61 (by decide) (fun c_61 => ?_) (fun c_61 => ?_)
                · skip
                  have c61 : mu < yF B U j h := c_61
                  rw [if_pos c61] at hfe
                  refine pw_iconst (v := (-1)) dX8_mine_69 rfl ?_
                  refine pw_istore (ls2 := [(4, _), (0, _), (1, _), (2, _), (3, _), (5, _)]) dX8_mine_70 (by decide) rfl ?_
                  refine pw_iinc (ls2 := [(5, _), (4, _), (0, _), (1, _), (2, _), (3, _)]) (v := nI (i + 1)) dX8_mine_72 rfl (inc1 i) (by decide) rfl ?_
                  refine pw_goto (tgt := 41) dX8_mine_75 (by decide) ?_
                  refine pw_sub [2, 3, 4, 5, 1, 0] rfl ?_
                  exact ih_41 (i + 1) (-1) _ nm1 sk1 _ hlt (Or.inl ⟨rfl, hfe⟩) (okL_V hLU rfl) (pw_tell hpU hpU) (un_ok hsj hsh hu) ((un_tell hsj hsh).trans hun) (by omega)
                · skip
                  have c61 : ¬ mu < yF B U j h := c_61
                  rw [if_neg c61] at hfe
                  refine pw_iload dX8_mine_64 rfl ?_
                  refine pw_goto (tgt := 70) dX8_mine_66 (by decide) ?_
                  refine pw_istore (ls2 := [(4, _), (0, _), (1, _), (2, _), (3, _), (5, _)]) dX8_mine_70 (by decide) rfl ?_
                  refine pw_iinc (ls2 := [(5, _), (4, _), (0, _), (1, _), (2, _), (3, _)]) (v := nI (i + 1)) dX8_mine_72 rfl (inc1 i) (by decide) rfl ?_
                  refine pw_goto (tgt := 41) dX8_mine_75 (by decide) ?_
                  refine pw_sub [2, 3, 4, 5, 1, 0] rfl ?_
                  exact ih_41 (i + 1) (nI i) _ nm1 sk1 _ hlt (Or.inr ⟨nI_nm (by omega), hfe⟩) (okL_V hLU rfl) (pw_tell hpU hpU) (un_ok hsj hsh hu) ((un_tell hsj hsh).trans hun) (by omega)
        refine pw_sub [2, 3, 4, 5, 1, 0] rfl ?_
        exact L_41 101 0 (-1) V nm sk st (Nat.zero_le _) (Or.inl ⟨rfl, rfl⟩) hL (hpw j h hlj hlh) (fun k hk => absurd hk (Nat.not_lt_zero _)) rfl (by omega)
      · skip
        have hb_29 := b2_0 c_29
        refine pw_bipush (v := (-7)) dX8_mine_32 rfl ?_
        refine pw_iret dX8_mine_34 rfl ?_
        exact ⟨by unfold mineF refT; rw [hb_5, hb_16, hb_29]; rfl, _, _, _, rfl⟩
    · skip
      have hb_16 := b2_0 c_16
      refine pw_bipush (v := (-6)) dX8_mine_19 rfl ?_
      refine pw_iret dX8_mine_21 rfl ?_
      exact ⟨by unfold mineF refT; rw [hb_5, hb_16]; rfl, _, _, _, rfl⟩
  · skip
    have hb_5 := b2_0 c_5
    refine pw_bipush (v := (-5)) dX8_mine_8 rfl ?_
    refine pw_iret dX8_mine_10 rfl ?_
    exact ⟨by unfold mineF refT; rw [hb_5]; rfl, _, _, _, rfl⟩

set_option maxHeartbeats 4000000 in
set_option maxRecDepth 100000 in
theorem T_X8_losesOf {l : Launch} {μ : PM} {B : BK} {V : VW} {nm sk st : Nat → Int32} {nh j h : Nat} (hL : okL μ B V) (h5 : V 0 5 = nI nh) (hh6 : nh ≤ 6) (hj : j < 5) (hh : h < nh) (hp : ∀ h, h < nh → pwOK V j h) : CT l SM yX8_losesOf cX8_losesOf 5 (some .int) 6 [.ref 0, .int (nI j), .int (nI h)] (mm μ V nm sk st 0) (QI fun x m => x = yF B V j h - wbF B nh V j h ∧ ∃ nm2 sk2 st2, m = mm μ (V) nm2 sk2 st2 0) := by
  refine CT.of rfl (Nat.le_of_ble_eq_true rfl) ?_
  show PW l SM RX8 cX8_losesOf 5 (some .int) 6 _ 0 [(0, .ref 0), (1, .int (nI j)), (2, .int (nI h))] [] (mm μ V nm sk st 0)
  refine pw_aload_n dX8_losesOf_0 rfl rfl ?_
  refine pw_iload_n dX8_losesOf_1 rfl rfl ?_
  refine pw_iload_n dX8_losesOf_2 rfl rfl ?_
  refine pw_cVi dX8_losesOf_3 mv_X8_190 ckModel (T_X8_yieldsOf (V := V) (j := j) (h := h) hL hj (by omega)) rfl rfl (Nat.le_of_ble_eq_true rfl) (by decide) (fun x_3 m_3 h_3 => ?_)
  obtain ⟨rfl, nm0, sk0, rfl⟩ := h_3
  refine pw_istore_n (ls2 := [(3, _), (0, _), (1, _), (2, _)]) dX8_losesOf_6 rfl (by decide) rfl ?_
  refine pw_iconst (v := 1) dX8_losesOf_7 rfl ?_
  refine pw_istore (ls2 := [(4, _), (3, _), (0, _), (1, _), (2, _)]) dX8_losesOf_8 (by decide) rfl ?_
  have L_10 : ∀ (fu_10 : Nat) (i : Nat) (U : VW) (nm sk st : Nat → Int32), (i + 1 ≤ nh) → (U = rotV B V nh j h i) → (unOK st i) → (unL st i U = V) → (∀ h, h < nh → pwOK U j h) → nh - i < fu_10 → PW l SM RX8 cX8_losesOf 5 (some .int) 6 (QI fun x m => x = yF B V j h - wbF B nh V j h ∧ ∃ nm2 sk2 st2, m = mm μ (V) nm2 sk2 st2 0) 10 [(0, .ref 0), (1, .int (nI j)), (2, .int (nI h)), (3, .int (yF B V j h)), (4, .int (nI (i + 1)))] [] (mm μ U nm sk st (nI i)) := by
    intro fu_10
    induction fu_10 with
    | zero =>
      intro i U nm sk st hi hUe hu hun hpw hm_10
      exact absurd hm_10 (Nat.not_lt_zero _)
    | succ fu_10 ih_10 =>
      intro i U nm sk st hi hUe hu hun hpw hm_10
      refine pw_iload dX8_losesOf_10 rfl ?_
      refine pw_aload_n dX8_losesOf_12 rfl rfl ?_
      refine pw_getI dX8_losesOf_13 fa_X8_82 rfl ?_
      have hU5 : U 0 5 = nI nh := by rw [hUe, rotV_0]; exact h5
      have hLU : okL μ B U := okL_V hL (by rw [hUe, rotV_0])
      refine pw_top (y := nI nh) hU5 ?_
      refine pw_icmp_ge (tgt := 46) dX8_losesOf_16 (by decide) (fun c_16 => ?_) (fun c_16 => ?_)
      · skip
        have hge := nI_geD (by omega) c_16
        refine pw_aload_n dX8_losesOf_46 rfl rfl ?_
        refine pw_iload_n dX8_losesOf_47 rfl rfl ?_
        refine pw_iload_n dX8_losesOf_48 rfl rfl ?_
        refine pw_cVi dX8_losesOf_49 mv_X8_190 ckModel (T_X8_yieldsOf (V := U) (j := j) (h := h) hLU hj (by omega)) rfl rfl (Nat.le_of_ble_eq_true rfl) (by decide) (fun x_49 m_49 h_49 => ?_)
        obtain ⟨rfl, nm2, sk2, rfl⟩ := h_49
        refine pw_istore (ls2 := [(4, _), (0, _), (1, _), (2, _), (3, _)]) dX8_losesOf_52 (by decide) rfl ?_
        refine pw_aload_n dX8_losesOf_54 rfl rfl ?_
        refine pw_cVv dX8_losesOf_55 mv_X8_214 ckModel (T_X8_takesBack (n := i) (V := U) (by omega) hu) rfl rfl (Nat.le_of_ble_eq_true rfl) (by decide) (fun m_55 h_55 => ?_)
        obtain rfl := h_55
        refine pw_iload_n dX8_losesOf_58 rfl rfl ?_
        refine pw_iload dX8_losesOf_59 rfl ?_
        refine pw_isub dX8_losesOf_61 ?_
        refine pw_iret dX8_losesOf_62 rfl ?_
        exact ⟨by unfold wbF; rw [← rotV_e hh, ← show i = nh - 1 by omega, ← hUe], _, _, _, by rw [hun]⟩
      · skip
        have hlt := nI_ltD (by omega) c_16
        refine pw_aload_n dX8_losesOf_19 rfl rfl ?_
        refine pw_iload_n dX8_losesOf_20 rfl rfl ?_
        refine pw_iload_n dX8_losesOf_21 rfl rfl ?_
        refine pw_iload dX8_losesOf_22 rfl ?_
        refine pw_iadd dX8_losesOf_24 ?_
        refine pw_aload_n dX8_losesOf_25 rfl rfl ?_
        refine pw_getI dX8_losesOf_26 fa_X8_82 rfl ?_
        refine pw_top (y := nI nh) hU5 ?_
        refine pw_iconst (v := 1) dX8_losesOf_29 rfl ?_
        refine pw_bipush (v := 6) dX8_losesOf_30 rfl ?_
        refine pw_cSi dX8_losesOf_32 ms_X8_164 T_X8_within rfl rfl (Nat.le_of_ble_eq_true rfl) (by decide) (fun x_32 m_32 h_32 => ?_)
        obtain ⟨rfl, rfl⟩ := h_32
        refine pw_top (y := nI nh) (win_1 (M := 6) (by omega) hh6 (by decide)) ?_
        refine pw_top2 (y := nI (h + (i + 1))) (nI_add _ _) ?_
        refine pw_irem dX8_losesOf_35 (nI_ne0 (by omega) (by omega)) ?_
        refine pw_top (y := nI ((h + (i + 1)) % nh)) (pk_rem (by omega) (by omega) (by omega)) ?_
        have hml : (h + (i + 1)) % nh < nh := Nat.mod_lt _ (by omega)
        refine pw_cVi dX8_losesOf_36 mv_X8_199 ckModel (T_X8_tells (n := i) (V := U) (j := j) (h := (h + (i + 1)) % nh) hLU hj (by omega) (hpw _ hml) (by omega)) rfl rfl (Nat.le_of_ble_eq_true rfl) (by decide) (fun x_36 m_36 h_36 => ?_)
        obtain ⟨rfl, nm1, sk1, rfl⟩ := h_36
        refine pw_pop dX8_losesOf_39 rfl ?_
        refine pw_iinc (ls2 := [(4, _), (0, _), (1, _), (2, _), (3, _)]) (v := nI ((i + 1) + 1)) dX8_losesOf_40 rfl (inc1 (i + 1)) (by decide) rfl ?_
        refine pw_goto (tgt := 10) dX8_losesOf_43 (by decide) ?_
        refine pw_sub [1, 2, 3, 4, 0] rfl ?_
        exact ih_10 (i + 1) _ nm1 sk1 _ hlt (by rw [hUe]; rfl) (un_ok hj (by omega) hu) ((un_tell hj (by omega)).trans hun) (fun h2 hh2 => pw_tell (hpw _ hml) (hpw h2 hh2)) (by omega)
  refine pw_sub [2, 3, 4, 1, 0] rfl ?_
  exact L_10 (nh + 1) 0 V nm0 sk0 st (by omega) rfl (fun k hk => absurd hk (Nat.not_lt_zero _)) rfl hp (by omega)

set_option maxHeartbeats 4000000 in
set_option maxRecDepth 100000 in
theorem T_X8_last {l : Launch} {μ : PM} {B : BK} {V : VW} {nm sk st : Nat → Int32} {nj nh : Nat} {j : Int32} (hL : okL μ B V) (h1 : V 0 1 = nI nj) (hj5 : nj ≤ 5) (h5 : V 0 5 = nI nh) (hh6 : nh ≤ 6) (hpw : ∀ j h, j < nj → h < nh → pwOK V j h) : CT l SM yX8_last cX8_last 7 (some .int) 7 [.ref 0, .int j] (mm μ V nm sk st 0) (QI fun x m => x = lastF B V nh j ∧ ∃ nm2 sk2 st2, m = mm μ (V) nm2 sk2 st2 0) := by
  refine CT.of rfl (Nat.le_of_ble_eq_true rfl) ?_
  show PW l SM RX8 cX8_last 7 (some .int) 7 _ 0 [(0, .ref 0), (1, .int j)] [] (mm μ V nm sk st 0)
  refine pw_aload_n dX8_last_0 rfl rfl ?_
  refine pw_iload_n dX8_last_1 rfl rfl ?_
  refine pw_cVi dX8_last_2 mv_X8_174 ckModel T_X8_isJoke rfl rfl (Nat.le_of_ble_eq_true rfl) (by decide) (fun x_2 m_2 h_2 => ?_)
  obtain ⟨rfl, rfl⟩ := h_2
  refine pw_if_ne (tgt := 11) dX8_last_5 (by decide) (fun c_5 => ?_) (fun c_5 => ?_)
  · skip
    have hb_5 := b2_n c_5
    obtain ⟨j, hlj, hsj, rfl⟩ := jk_of h1 hj5 hb_5
    refine pw_iconst (v := (-1)) dX8_last_11 rfl ?_
    refine pw_istore_n (ls2 := [(2, _), (0, _), (1, _)]) dX8_last_12 rfl (by decide) rfl ?_
    refine pw_iconst (v := 0) dX8_last_13 rfl ?_
    refine pw_istore_n (ls2 := [(3, _), (2, _), (0, _), (1, _)]) dX8_last_14 rfl (by decide) rfl ?_
    refine pw_iconst (v := 0) dX8_last_15 rfl ?_
    refine pw_istore (ls2 := [(4, _), (3, _), (2, _), (0, _), (1, _)]) dX8_last_16 (by decide) rfl ?_
    have L_18 : ∀ (fu_18 : Nat) (i : Nat) (x y : Int32) (nm sk st : Nat → Int32), (i ≤ nh) → (laL B V nh j (nh - i) i (x, y) = laL B V nh j nh 0 (-1, 0)) → nh - i < fu_18 → PW l SM RX8 cX8_last 7 (some .int) 7 (QI fun x m => x = lastF B V nh (nI j) ∧ ∃ nm2 sk2 st2, m = mm μ (V) nm2 sk2 st2 0) 18 [(0, .ref 0), (1, .int (nI j)), (2, .int x), (3, .int y), (4, .int (nI i))] [] (mm μ V nm sk st 0) := by
      intro fu_18
      induction fu_18 with
      | zero =>
        intro i x y nm sk st hi hx hm_18
        exact absurd hm_18 (Nat.not_lt_zero _)
      | succ fu_18 ih_18 =>
        intro i x y nm sk st hi hx hm_18
        refine pw_iload dX8_last_18 rfl ?_
        refine pw_aload_n dX8_last_20 rfl rfl ?_
        refine pw_getI dX8_last_21 fa_X8_82 rfl ?_
        refine pw_top (y := nI nh) h5 ?_
        refine pw_icmp_ge (tgt := 84) dX8_last_24 (by decide) (fun c_24 => ?_) (fun c_24 => ?_)
        · skip
          have hge := nI_geD (by omega) c_24
          refine pw_iload_n dX8_last_84 rfl rfl ?_
          refine pw_iret dX8_last_85 rfl ?_
          rw [show nh - i = 0 by omega] at hx
          change (x, y) = _ at hx
          exact ⟨by unfold lastF; rw [show jkF V (nI j) = true from hb_5, if_pos rfl, cl_nI (by omega), ← hx], _, _, _, rfl⟩
        · skip
          have hlt := nI_ltD (by omega) c_24
          rw [show nh - i = (nh - (i + 1)) + 1 by omega] at hx
          change laL B V nh j _ (i + 1) (if x = -1 then (nI i, yF B V j i - wbF B nh V j i) else if y ≤ yF B V j i - wbF B nh V j i then (x, y) else (nI i, yF B V j i - wbF B nh V j i)) = _ at hx
          refine pw_aload_n dX8_last_27 rfl rfl ?_
          refine pw_iload_n dX8_last_28 rfl rfl ?_
          refine pw_iload dX8_last_29 rfl ?_
          refine pw_cVi dX8_last_31 mv_X8_226 ckModel (T_X8_losesOf (j := j) (h := i) hL h5 hh6 hsj hlt (fun h hh => hpw j h hlj hh)) rfl rfl (Nat.le_of_ble_eq_true rfl) (by decide) (fun x_31 m_31 h_31 => ?_)
          obtain ⟨rfl, nm1, sk1, st1, rfl⟩ := h_31
          refine pw_istore (ls2 := [(5, _), (0, _), (1, _), (2, _), (3, _), (4, _)]) dX8_last_34 (by decide) rfl ?_
          refine pw_iload_n dX8_last_36 rfl rfl ?_
          refine pw_iconst (v := (-1)) dX8_last_37 rfl ?_
          refine pw_icmp_eq (tgt := 47) dX8_last_38 (by decide) (fun c_38 => ?_) (fun c_38 => ?_)
          · skip
            refine pw_iconst (v := 1) dX8_last_47 rfl ?_
            refine pw_goto (tgt := 52) dX8_last_48 (by decide) ?_
            refine pw_istore (ls2 := [(6, _), (5, _), (0, _), (1, _), (2, _), (3, _), (4, _)]) dX8_last_52 (by decide) rfl ?_
            refine pw_iload dX8_last_54 rfl ?_
            refine pw_if_eq (tgt := 64) dX8_last_56 (by decide) (fun c_56 => ?_) (fun c_56 => ?_)
            · skip
              exact absurd c_56 (by decide)
            · skip
              refine pw_iload dX8_last_59 rfl ?_
              refine pw_goto (tgt := 65) dX8_last_61 (by decide) ?_
              refine pw_istore_n (ls2 := [(2, _), (6, _), (5, _), (0, _), (1, _), (3, _), (4, _)]) dX8_last_65 rfl (by decide) rfl ?_
              refine pw_iload dX8_last_66 rfl ?_
              refine pw_if_eq (tgt := 76) dX8_last_68 (by decide) (fun c_68 => ?_) (fun c_68 => ?_)
              · skip
                exact absurd c_68 (by decide)
              · skip
                refine pw_iload dX8_last_71 rfl ?_
                refine pw_goto (tgt := 77) dX8_last_73 (by decide) ?_
                refine pw_istore_n (ls2 := [(3, _), (2, _), (6, _), (5, _), (0, _), (1, _), (4, _)]) dX8_last_77 rfl (by decide) rfl ?_
                refine pw_iinc (ls2 := [(4, _), (3, _), (2, _), (6, _), (5, _), (0, _), (1, _)]) (v := nI (i + 1)) dX8_last_78 rfl (inc1 i) (by decide) rfl ?_
                refine pw_goto (tgt := 18) dX8_last_81 (by decide) ?_
                refine pw_sub [5, 6, 2, 1, 0] rfl ?_
                rw [if_pos c_38] at hx
                exact ih_18 (i + 1) _ _ nm1 sk1 st1 hlt hx (by omega)
          · skip
            refine pw_iload dX8_last_41 rfl ?_
            refine pw_iload_n dX8_last_43 rfl rfl ?_
            refine pw_icmp_ge (tgt := 51) dX8_last_44 (by decide) (fun c_44 => ?_) (fun c_44 => ?_)
            · skip
              refine pw_iconst (v := 0) dX8_last_51 rfl ?_
              refine pw_istore (ls2 := [(6, _), (5, _), (0, _), (1, _), (2, _), (3, _), (4, _)]) dX8_last_52 (by decide) rfl ?_
              refine pw_iload dX8_last_54 rfl ?_
              refine pw_if_eq (tgt := 64) dX8_last_56 (by decide) (fun c_56 => ?_) (fun c_56 => ?_)
              · skip
                refine pw_iload_n dX8_last_64 rfl rfl ?_
                refine pw_istore_n (ls2 := [(2, _), (6, _), (5, _), (0, _), (1, _), (3, _), (4, _)]) dX8_last_65 rfl (by decide) rfl ?_
                refine pw_iload dX8_last_66 rfl ?_
                refine pw_if_eq (tgt := 76) dX8_last_68 (by decide) (fun c_68 => ?_) (fun c_68 => ?_)
                · skip
                  refine pw_iload_n dX8_last_76 rfl rfl ?_
                  refine pw_istore_n (ls2 := [(3, _), (2, _), (6, _), (5, _), (0, _), (1, _), (4, _)]) dX8_last_77 rfl (by decide) rfl ?_
                  refine pw_iinc (ls2 := [(4, _), (3, _), (2, _), (6, _), (5, _), (0, _), (1, _)]) (v := nI (i + 1)) dX8_last_78 rfl (inc1 i) (by decide) rfl ?_
                  refine pw_goto (tgt := 18) dX8_last_81 (by decide) ?_
                  refine pw_sub [5, 6, 2, 1, 0] rfl ?_
                  rw [if_neg c_38, if_pos c_44] at hx
                  exact ih_18 (i + 1) _ _ nm1 sk1 st1 hlt hx (by omega)
                · skip
                  exact absurd rfl c_68
              · skip
                exact absurd rfl c_56
            · skip
              refine pw_iconst (v := 1) dX8_last_47 rfl ?_
              refine pw_goto (tgt := 52) dX8_last_48 (by decide) ?_
              refine pw_istore (ls2 := [(6, _), (5, _), (0, _), (1, _), (2, _), (3, _), (4, _)]) dX8_last_52 (by decide) rfl ?_
              refine pw_iload dX8_last_54 rfl ?_
              refine pw_if_eq (tgt := 64) dX8_last_56 (by decide) (fun c_56 => ?_) (fun c_56 => ?_)
              · skip
                exact absurd c_56 (by decide)
              · skip
                refine pw_iload dX8_last_59 rfl ?_
                refine pw_goto (tgt := 65) dX8_last_61 (by decide) ?_
                refine pw_istore_n (ls2 := [(2, _), (6, _), (5, _), (0, _), (1, _), (3, _), (4, _)]) dX8_last_65 rfl (by decide) rfl ?_
                refine pw_iload dX8_last_66 rfl ?_
                refine pw_if_eq (tgt := 76) dX8_last_68 (by decide) (fun c_68 => ?_) (fun c_68 => ?_)
                · skip
                  exact absurd c_68 (by decide)
                · skip
                  refine pw_iload dX8_last_71 rfl ?_
                  refine pw_goto (tgt := 77) dX8_last_73 (by decide) ?_
                  refine pw_istore_n (ls2 := [(3, _), (2, _), (6, _), (5, _), (0, _), (1, _), (4, _)]) dX8_last_77 rfl (by decide) rfl ?_
                  refine pw_iinc (ls2 := [(4, _), (3, _), (2, _), (6, _), (5, _), (0, _), (1, _)]) (v := nI (i + 1)) dX8_last_78 rfl (inc1 i) (by decide) rfl ?_
                  refine pw_goto (tgt := 18) dX8_last_81 (by decide) ?_
                  refine pw_sub [5, 6, 2, 1, 0] rfl ?_
                  rw [if_neg c_38, if_neg c_44] at hx
                  exact ih_18 (i + 1) _ _ nm1 sk1 st1 hlt hx (by omega)
    refine pw_sub [3, 4, 2, 1, 0] rfl ?_
    exact L_18 (nh + 1) 0 (-1) 0 nm sk st (Nat.zero_le _) rfl (by omega)
  · skip
    have hb_5 := b2_0 c_5
    refine pw_bipush (v := (-5)) dX8_last_8 rfl ?_
    refine pw_iret dX8_last_10 rfl ?_
    exact ⟨by unfold lastF; rw [hb_5]; rfl, _, _, _, rfl⟩

set_option maxHeartbeats 4000000 in
set_option maxRecDepth 100000 in
theorem T_X8_byNumber {l : Launch} {μ : PM} {B : BK} {V : VW} {nm sk st : Nat → Int32} {nj nh n c : Nat} (hL : okL μ B V) (h1 : V 0 1 = nI nj) (hj5 : nj ≤ 5) (h5 : V 0 5 = nI nh) (hh6 : nh ≤ 6) (hc : c < nj * nh) (hpw : ∀ j h, j < nj → h < nh → pwOK V j h) (hn : n < 100) : CT l SM yX8_byNumber cX8_byNumber 3 (some .int) 6 [.ref 0, .int (nI c)] (mm μ V nm sk st (nI n)) (QI fun x m => x = yAt B V nh c ∧ ∃ nm2 sk2, m = mm μ (tellV B V (c / nh) (c % nh)) nm2 sk2 (unW st n (c / nh) (c % nh) V) (nI (n + 1))) := by
  refine CT.of rfl (Nat.le_of_ble_eq_true rfl) ?_
  show PW l SM RX8 cX8_byNumber 3 (some .int) 6 _ 0 [(0, .ref 0), (1, .int (nI c))] [] (mm μ V nm sk st (nI n))
  have hmul : nj * nh ≤ 30 := Nat.mul_le_mul hj5 hh6
  have hp : 0 < nh := by
    rcases Nat.eq_zero_or_pos nh with q | q
    · subst q; omega
    · exact q
  have hd1 : c / nh < nj := Nat.div_lt_of_lt_mul (by rw [Nat.mul_comm]; omega)
  have hd2 : c % nh < nh := Nat.mod_lt _ hp
  refine pw_aload_n dX8_byNumber_0 rfl rfl ?_
  refine pw_getI dX8_byNumber_1 fa_X8_82 rfl ?_
  refine pw_top (y := nI nh) h5 ?_
  refine pw_iconst (v := 1) dX8_byNumber_4 rfl ?_
  refine pw_bipush (v := 6) dX8_byNumber_5 rfl ?_
  refine pw_cSi dX8_byNumber_7 ms_X8_164 T_X8_within rfl rfl (Nat.le_of_ble_eq_true rfl) (by decide) (fun x_7 m_7 h_7 => ?_)
  obtain ⟨rfl, rfl⟩ := h_7
  refine pw_top (y := nI nh) (win_1 (M := 6) (by omega) hh6 (by decide)) ?_
  refine pw_istore_n (ls2 := [(2, _), (0, _), (1, _)]) dX8_byNumber_10 rfl (by decide) rfl ?_
  refine pw_aload_n dX8_byNumber_11 rfl rfl ?_
  refine pw_iload_n dX8_byNumber_12 rfl rfl ?_
  refine pw_iload_n dX8_byNumber_13 rfl rfl ?_
  refine pw_idiv dX8_byNumber_14 (nI_ne0 hp (by omega)) ?_
  refine pw_top (y := nI (c / nh)) (pk_div (by omega) hp (by omega)) ?_
  refine pw_iload_n dX8_byNumber_15 rfl rfl ?_
  refine pw_iload_n dX8_byNumber_16 rfl rfl ?_
  refine pw_irem dX8_byNumber_17 (nI_ne0 hp (by omega)) ?_
  refine pw_top (y := nI (c % nh)) (pk_rem (by omega) hp (by omega)) ?_
  refine pw_cVi dX8_byNumber_18 mv_X8_199 ckModel (T_X8_tells (n := n) (j := c / nh) (h := c % nh) hL (by omega) (by omega) (hpw _ _ hd1 hd2) hn) rfl rfl (Nat.le_of_ble_eq_true rfl) (by decide) (fun x_18 m_18 h_18 => ?_)
  obtain ⟨rfl, nm1, sk1, rfl⟩ := h_18
  refine pw_iret dX8_byNumber_21 rfl ?_
  exact ⟨rfl, _, _, rfl⟩

set_option maxHeartbeats 4000000 in
set_option maxRecDepth 100000 in
theorem T_X8_powerOf {l : Launch} {μ : PM} {V : VW} {nm sk st : Nat → Int32} {sn : Int32} {nj nh n : Nat} (h1 : V 0 1 = nI nj) (hj5 : nj ≤ 5) (h5 : V 0 5 = nI nh) (hh6 : nh ≤ 6) (hn : n ≤ 3) : CT l SM yX8_powerOf cX8_powerOf 4 (some .int) 2 [.ref 0, .int (nI n)] (mm μ V nm sk st sn) (QI fun x m => x = nI ((nj * nh) ^ n) ∧ m = mm μ V nm sk st sn) := by
  refine CT.of rfl (Nat.le_of_ble_eq_true rfl) ?_
  show PW l SM RX8 cX8_powerOf 4 (some .int) 2 _ 0 [(0, .ref 0), (1, .int (nI n))] [] (mm μ V nm sk st sn)
  have hmul : nj * nh ≤ 30 := Nat.mul_le_mul hj5 hh6
  refine pw_iconst (v := 1) dX8_powerOf_0 rfl ?_
  refine pw_istore_n (ls2 := [(2, _), (0, _), (1, _)]) dX8_powerOf_1 rfl (by decide) rfl ?_
  refine pw_iconst (v := 0) dX8_powerOf_2 rfl ?_
  refine pw_istore_n (ls2 := [(3, _), (2, _), (0, _), (1, _)]) dX8_powerOf_3 rfl (by decide) rfl ?_
  have L_4 : ∀ (fu_4 : Nat) (i : Nat), (i ≤ n) → n - i < fu_4 → PW l SM RX8 cX8_powerOf 4 (some .int) 2 (QI fun x m => x = nI ((nj * nh) ^ n) ∧ m = mm μ V nm sk st sn) 4 [(0, .ref 0), (1, .int (nI n)), (2, .int (nI ((nj * nh) ^ i))), (3, .int (nI i))] [] (mm μ V nm sk st sn) := by
    intro fu_4
    induction fu_4 with
    | zero =>
      intro i hi hm_4
      exact absurd hm_4 (Nat.not_lt_zero _)
    | succ fu_4 ih_4 =>
      intro i hi hm_4
      refine pw_iload_n dX8_powerOf_4 rfl rfl ?_
      refine pw_iload_n dX8_powerOf_5 rfl rfl ?_
      refine pw_icmp_ge (tgt := 22) dX8_powerOf_6 (by decide) (fun c_6 => ?_) (fun c_6 => ?_)
      · skip
        have hge := nI_geD (by omega) c_6
        refine pw_iload_n dX8_powerOf_22 rfl rfl ?_
        refine pw_iret dX8_powerOf_23 rfl ?_
        exact ⟨by rw [show i = n by omega], rfl⟩
      · skip
        have hlt := nI_ltD (by omega) c_6
        refine pw_iload_n dX8_powerOf_9 rfl rfl ?_
        refine pw_aload_n dX8_powerOf_10 rfl rfl ?_
        refine pw_cVi dX8_powerOf_11 mv_X8_205 ckModel (T_X8_allMany h1 h5 hj5 hh6) rfl rfl (Nat.le_of_ble_eq_true rfl) (by decide) (fun x_11 m_11 h_11 => ?_)
        obtain ⟨rfl, rfl⟩ := h_11
        refine pw_imul dX8_powerOf_14 ?_
        refine pw_top (y := nI ((nj * nh) ^ (i + 1))) (pk_mul _ _) ?_
        refine pw_istore_n (ls2 := [(2, _), (0, _), (1, _), (3, _)]) dX8_powerOf_15 rfl (by decide) rfl ?_
        refine pw_iinc (ls2 := [(3, _), (2, _), (0, _), (1, _)]) (v := nI (i + 1)) dX8_powerOf_16 rfl (inc1 i) (by decide) rfl ?_
        refine pw_goto (tgt := 4) dX8_powerOf_19 (by decide) ?_
        refine pw_sub [2, 3, 1, 0] rfl ?_
        exact ih_4 (i + 1) hlt (by omega)
  refine pw_sub [2, 3, 1, 0] rfl ?_
  exact L_4 (n + 1) 0 (Nat.zero_le _) (by omega)

