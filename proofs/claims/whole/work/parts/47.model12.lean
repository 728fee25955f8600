theorem m_19' {μ : PM} {V : VW} {nm sk st : Nat → Int32} {sn v : Int32} {j : Nat} {f : Nat → Int32} : si (mm (sr μ 19 f) V nm sk st sn) 19 j v = mm (sr μ 19 (upd f j v)) V nm sk st sn := by
  rw [m_19, si_sr]
theorem pow_b {nm e : Nat} (h : nm ≤ 30) (he : e ≤ 2) : nm ^ e ≤ 900 := by
  have : e = 0 ∨ e = 1 ∨ e = 2 := by omega
  rcases this with rfl | rfl | rfl
  · exact Nat.le_trans (Nat.le_of_eq (Nat.pow_zero nm)) (by decide)
  · rw [Nat.pow_one]; omega
  · exact Nat.pow_le_pow_left h 2
theorem pow_b3 {nm e : Nat} (h : nm ≤ 30) (he : e ≤ 3) : nm ^ e ≤ 27000 := by
  have : e = 0 ∨ e = 1 ∨ e = 2 ∨ e = 3 := by omega
  rcases this with rfl | rfl | rfl | rfl
  · exact Nat.le_trans (Nat.le_of_eq (Nat.pow_zero nm)) (by decide)
  · rw [Nat.pow_one]; omega
  · exact Nat.le_trans (Nat.pow_le_pow_left h 2) (by decide)
  · exact Nat.pow_le_pow_left h 3
def dgF (nm n b k : Nat) : Nat := b / nm ^ (n - 1 - k) % nm
def frA (B : BK) (V : VW) (nj nh n : Nat) : Int32 × Nat := amx (fun c => rwL B nh (nj * nh) n c V 0) ((nj * nh) ^ n)
def friF (B : BK) (V : VW) (nj nh : Nat) (n what : Int32) : Int32 := if inF n 1 3 && inF what (-1) (n - 1) then (if nj * nh = 0 then (if what = -1 then 0 else -1) else if what = -1 then (frA B V nj nh (cl n)).1 else nI (cdF nh (dgF (nj * nh) (cl n) (frA B V nj nh (cl n)).2 (cl what)))) else -2
theorem m1_neg {w x : Int32} (h : inF w (-1) x = true) (hw : ¬ w = -1) : ¬ w < 0 := by
  unfold inF at h
  simp only [Bool.and_eq_true, decide_eq_true_eq] at h
  intro q
  have h1 : (-1 : Int) ≤ w.toInt := Int32.le_iff_toInt_le.mp h.1
  have h2 : w.toInt < (0 : Int) := Int32.lt_iff_toInt_lt.mp q
  exact hw (Int32.toInt_inj.mp (show w.toInt = (-1 : Int32).toInt by show w.toInt = -1; omega))
theorem mnB_p {f : Nat → Int32} {k : Nat} (h : ¬ k = 0) : mnB f k = nI (amx f k).2 := if_neg h
theorem frd_lt {nm n B0 q : Nat} (hm : 0 < nm) : B0 / nm ^ (n - (q + 1)) % nm < nm := Nat.mod_lt _ hm
theorem in_01 {w : Int32} (h : inF w 0 1 = true) : w = 0 ∨ w = 1 := by
  obtain ⟨z, hz, rfl⟩ := in_trueL (n := 1) h (by decide)
  have : z = 0 ∨ z = 1 := by omega
  rcases this with q | q
  · rw [q]; exact Or.inl rfl
  · rw [q]; exact Or.inr rfl
set_option maxHeartbeats 4000000 in
set_option maxRecDepth 100000 in
theorem T_X8_rowOf {l : Launch} {μ : PM} {B : BK} {V : VW} {nm sk st : Nat → Int32} {nj nh n num : Nat} (hL : okL μ B V) (h1 : V 0 1 = nI nj) (hj5 : nj ≤ 5) (h5 : V 0 5 = nI nh) (hh6 : nh ≤ 6) (hpw : ∀ j h, j < nj → h < nh → pwOK V j h) (hnm : 0 < nj * nh) (hn1 : 1 ≤ n) (hn3 : n ≤ 3) (hnum : num < (nj * nh) ^ n) : CT l SM yX8_rowOf cX8_rowOf 7 (some .int) 7 [.ref 0, .int (nI num), .int (nI n)] (mm μ V nm sk st 0) (QI fun x m => x = rwL B nh (nj * nh) n num V 0 ∧ ∃ nm2 sk2 st2, m = mm μ (V) nm2 sk2 st2 0) := by
  refine CT.of rfl (Nat.le_of_ble_eq_true rfl) ?_
  show PW l SM RX8 cX8_rowOf 7 (some .int) 7 _ 0 [(0, .ref 0), (1, .int (nI num)), (2, .int (nI n))] [] (mm μ V nm sk st 0)
  have hmul : nj * nh ≤ 30 := Nat.mul_le_mul hj5 hh6
  have hN := pow_b3 hmul hn3
  refine pw_iconst (v := 0) dX8_rowOf_0 rfl ?_
  refine pw_istore_n (ls2 := [(3, _), (0, _), (1, _), (2, _)]) dX8_rowOf_1 rfl (by decide) rfl ?_
  refine pw_aload_n dX8_rowOf_2 rfl rfl ?_
  refine pw_iload_n dX8_rowOf_3 rfl rfl ?_
  refine pw_iconst (v := 1) dX8_rowOf_4 rfl ?_
  refine pw_isub dX8_rowOf_5 ?_
  refine pw_top (y := nI (n - 1)) (pk_sub (a := n) (b := 1) hn1) ?_
  refine pw_cVi dX8_rowOf_6 mv_X8_208 ckModel (T_X8_powerOf (n := n - 1) h1 hj5 h5 hh6 (by omega)) rfl rfl (Nat.le_of_ble_eq_true rfl) (by decide) (fun x_6 m_6 h_6 => ?_)
  obtain ⟨rfl, rfl⟩ := h_6
  refine pw_istore (ls2 := [(4, _), (3, _), (0, _), (1, _), (2, _)]) dX8_rowOf_9 (by decide) rfl ?_
  refine pw_iload_n dX8_rowOf_11 rfl rfl ?_
  refine pw_istore (ls2 := [(5, _), (4, _), (3, _), (0, _), (1, _), (2, _)]) dX8_rowOf_12 (by decide) rfl ?_
  refine pw_iconst (v := 0) dX8_rowOf_14 rfl ?_
  refine pw_istore (ls2 := [(6, _), (5, _), (4, _), (3, _), (0, _), (1, _), (2, _)]) dX8_rowOf_15 (by decide) rfl ?_
  have L_17 : ∀ (fu_17 : Nat) (i : Nat) (s : Int32) (by0 rest : Nat) (U : VW) (nm sk st : Nat → Int32), (i ≤ n) → (i < n → by0 = (nj * nh) ^ (n - 1 - i)) → (rest < (nj * nh) ^ (n - i)) → (rwL B nh (nj * nh) (n - i) rest U s = rwL B nh (nj * nh) n num V 0) → (U 0 = V 0) → (unOK st i) → (unL st i U = V) → (∀ j h, j < nj → h < nh → pwOK U j h) → n - i < fu_17 → PW l SM RX8 cX8_rowOf 7 (some .int) 7 (QI fun x m => x = rwL B nh (nj * nh) n num V 0 ∧ ∃ nm2 sk2 st2, m = mm μ (V) nm2 sk2 st2 0) 17 [(0, .ref 0), (1, .int (nI num)), (2, .int (nI n)), (3, .int s), (4, .int (nI by0)), (5, .int (nI rest)), (6, .int (nI i))] [] (mm μ U nm sk st (nI i)) := by
    intro fu_17
    induction fu_17 with
    | zero =>
      intro i s by0 rest U nm sk st hi hby hrest hx hU0 hu hun hpwU hm_17
      exact absurd hm_17 (Nat.not_lt_zero _)
    | succ fu_17 ih_17 =>
      intro i s by0 rest U nm sk st hi hby hrest hx hU0 hu hun hpwU hm_17
      refine pw_iload dX8_rowOf_17 rfl ?_
      refine pw_iload_n dX8_rowOf_19 rfl rfl ?_
      refine pw_icmp_ge (tgt := 71) dX8_rowOf_20 (by decide) (fun c_20 => ?_) (fun c_20 => ?_)
      · skip
        have hge := nI_geD (by omega) c_20
        refine pw_aload_n dX8_rowOf_71 rfl rfl ?_
        refine pw_cVv dX8_rowOf_72 mv_X8_214 ckModel (T_X8_takesBack (n := i) (V := U) (by omega) hu) rfl rfl (Nat.le_of_ble_eq_true rfl) (by decide) (fun m_72 h_72 => ?_)
        obtain rfl := h_72
        refine pw_iload_n dX8_rowOf_75 rfl rfl ?_
        refine pw_iret dX8_rowOf_76 rfl ?_
        rw [show n - i = 0 by omega] at hx
        change s = _ at hx
        exact ⟨hx, _, _, _, by rw [hun]⟩
      · skip
        have hlt := nI_ltD (by omega) c_20
        obtain ⟨m, hm⟩ : ∃ m, n - i = m + 1 := ⟨n - i - 1, by omega⟩
        have hbe : by0 = (nj * nh) ^ m := by rw [hby hlt, show n - 1 - i = m by omega]
        have hb9 : by0 ≤ 900 := by rw [hbe]; exact pow_b hmul (by omega)
        have hb1 : 1 ≤ by0 := by rw [hbe]; exact Nat.pow_pos hnm
        rw [hm, Nat.pow_succ] at hrest
        have hc : rest / by0 < nj * nh := by rw [hbe]; exact Nat.div_lt_of_lt_mul hrest
        have hr27 : rest < 27001 := Nat.lt_of_lt_of_le hrest (by rw [← Nat.pow_succ]; exact Nat.le_succ_of_le (pow_b3 hmul (by omega)))
        have hU1 : U 0 1 = nI nj := by rw [hU0]; exact h1
        have hU5 : U 0 5 = nI nh := by rw [hU0]; exact h5
        have hLU : okL μ B U := okL_V hL (by rw [hU0])
        rw [hm] at hx
        change rwL B nh (nj * nh) m (rest % (nj * nh) ^ m) (tellV B U (rest / (nj * nh) ^ m / nh) (rest / (nj * nh) ^ m % nh)) (s + yAt B U nh (rest / (nj * nh) ^ m)) = _ at hx
        rw [← hbe] at hx
        have hp : 0 < nh := by
          rcases Nat.eq_zero_or_pos nh with q | q
          · subst q; omega
          · exact q
        have hd1 : rest / by0 / nh < nj := Nat.div_lt_of_lt_mul (by rw [Nat.mul_comm]; omega)
        have hd2 : rest / by0 % nh < nh := Nat.mod_lt _ hp
        refine pw_iload_n dX8_rowOf_23 rfl rfl ?_
        refine pw_aload_n dX8_rowOf_24 rfl rfl ?_
        refine pw_iload dX8_rowOf_25 rfl ?_
        refine pw_iload dX8_rowOf_27 rfl ?_
        refine pw_iconst (v := 1) dX8_rowOf_29 rfl ?_
        refine pw_sipush (v := 900) dX8_rowOf_30 rfl ?_
        refine pw_cSi dX8_rowOf_33 ms_X8_164 T_X8_within rfl rfl (Nat.le_of_ble_eq_true rfl) (by decide) (fun x_33 m_33 h_33 => ?_)
        obtain ⟨rfl, rfl⟩ := h_33
        refine pw_top (y := nI by0) (win_1 (M := 900) hb1 hb9 (by decide)) ?_
        refine pw_idiv dX8_rowOf_36 (nI_ne0 (by omega) (by omega)) ?_
        refine pw_top (y := nI (rest / by0)) (pk_div (by omega) (by omega) (by omega)) ?_
        refine pw_cVi dX8_rowOf_37 mv_X8_211 ckModel (T_X8_byNumber (n := i) (V := U) (c := rest / by0) hLU hU1 hj5 hU5 hh6 hc hpwU (by omega)) rfl rfl (Nat.le_of_ble_eq_true rfl) (by decide) (fun x_37 m_37 h_37 => ?_)
        obtain ⟨rfl, nm1, sk1, rfl⟩ := h_37
        refine pw_iadd dX8_rowOf_40 ?_
        refine pw_istore_n (ls2 := [(3, _), (0, _), (1, _), (2, _), (4, _), (5, _), (6, _)]) dX8_rowOf_41 rfl (by decide) rfl ?_
        refine pw_iload dX8_rowOf_42 rfl ?_
        refine pw_iload dX8_rowOf_44 rfl ?_
        refine pw_iconst (v := 1) dX8_rowOf_46 rfl ?_
        refine pw_sipush (v := 900) dX8_rowOf_47 rfl ?_
        refine pw_cSi dX8_rowOf_50 ms_X8_164 T_X8_within rfl rfl (Nat.le_of_ble_eq_true rfl) (by decide) (fun x_50 m_50 h_50 => ?_)
        obtain ⟨rfl, rfl⟩ := h_50
        refine pw_top (y := nI by0) (win_1 (M := 900) hb1 hb9 (by decide)) ?_
        refine pw_irem dX8_rowOf_53 (nI_ne0 (by omega) (by omega)) ?_
        refine pw_top (y := nI (rest % by0)) (pk_rem (by omega) (by omega) (by omega)) ?_
        refine pw_istore (ls2 := [(5, _), (3, _), (0, _), (1, _), (2, _), (4, _), (6, _)]) dX8_rowOf_54 (by decide) rfl ?_
        refine pw_iload dX8_rowOf_56 rfl ?_
        refine pw_aload_n dX8_rowOf_58 rfl rfl ?_
        refine pw_cVi dX8_rowOf_59 mv_X8_205 ckModel (T_X8_allMany (V := tellV B U (rest / by0 / nh) (rest / by0 % nh)) hU1 hU5 hj5 hh6) rfl rfl (Nat.le_of_ble_eq_true rfl) (by decide) (fun x_59 m_59 h_59 => ?_)
        obtain ⟨rfl, rfl⟩ := h_59
        refine pw_idiv dX8_rowOf_62 (nI_ne0 hnm (by omega)) ?_
        refine pw_top (y := nI (by0 / (nj * nh))) (pk_div (by omega) hnm (by omega)) ?_
        refine pw_istore (ls2 := [(4, _), (5, _), (3, _), (0, _), (1, _), (2, _), (6, _)]) dX8_rowOf_63 (by decide) rfl ?_
        refine pw_iinc (ls2 := [(6, _), (4, _), (5, _), (3, _), (0, _), (1, _), (2, _)]) (v := nI (i + 1)) dX8_rowOf_65 rfl (inc1 i) (by decide) rfl ?_
        refine pw_goto (tgt := 17) dX8_rowOf_68 (by decide) ?_
        refine pw_sub [4, 5, 6, 3, 1, 2, 0] rfl ?_
        have hm2 : n - (i + 1) = m := by omega
        exact ih_17 (i + 1) _ (by0 / (nj * nh)) _ _ nm1 sk1 _ hlt (by
          intro h2
          obtain ⟨m2, rfl⟩ : ∃ m2, m = m2 + 1 := ⟨m - 1, by omega⟩
          rw [hbe, Nat.pow_succ, Nat.mul_div_cancel _ hnm, show n - 1 - (i + 1) = m2 by omega]) (by rw [hm2, hbe]; exact Nat.mod_lt _ (Nat.pow_pos hnm)) (by rw [hm2]; exact hx) hU0 (un_ok (by omega) (by omega) hu) ((un_tell (by omega) (by omega)).trans hun) (fun j2 h2 a b => pw_tell (hpwU _ _ hd1 hd2) (hpwU j2 h2 a b)) (by omega)
  refine pw_sub [4, 5, 6, 3, 2, 1, 0] rfl ?_
  exact L_17 (n + 1) 0 0 ((nj * nh) ^ (n - 1)) num V nm sk st (Nat.zero_le _) (fun _ => rfl) hnum rfl rfl (fun k hk => absurd hk (Nat.not_lt_zero _)) rfl hpw (by omega)

set_option maxHeartbeats 4000000 in
set_option maxRecDepth 100000 in
theorem T_X8_friday {l : Launch} {μ : PM} {B : BK} {V : VW} {nm sk st : Nat → Int32} {nj nh : Nat} {n what : Int32} (hL : okL μ B V) (h1 : V 0 1 = nI nj) (hj5 : nj ≤ 5) (h5 : V 0 5 = nI nh) (hh6 : nh ≤ 6) (hpw : ∀ j h, j < nj → h < nh → pwOK V j h) : CT l SM yX8_friday cX8_friday 7 (some .int) 8 [.ref 0, .int n, .int what] (mm μ V nm sk st 0) (QI fun x m => x = friF B V nj nh n what ∧ ∃ f3 nm2 sk2 st2, m = mm (sr μ 19 f3) (V) nm2 sk2 st2 0) := by
  refine CT.of rfl (Nat.le_of_ble_eq_true rfl) ?_
  show PW l SM RX8 cX8_friday 7 (some .int) 8 _ 0 [(0, .ref 0), (1, .int n), (2, .int what)] [] (mm μ V nm sk st 0)
  have hmul : nj * nh ≤ 30 := Nat.mul_le_mul hj5 hh6
  refine pw_iload_n dX8_friday_0 rfl rfl ?_
  refine pw_iconst (v := 1) dX8_friday_1 rfl ?_
  refine pw_iconst (v := 3) dX8_friday_2 rfl ?_
  refine pw_cSi dX8_friday_3 ms_X8_78 T_X8_in rfl rfl (Nat.le_of_ble_eq_true rfl) (by decide) (fun x_3 m_3 h_3 => ?_)
  obtain ⟨rfl, rfl⟩ := h_3
  refine pw_if_eq (tgt := 20) dX8_friday_6 (by decide) (fun c_6 => ?_) (fun c_6 => ?_)
  · skip
    have hb_6 := b2_0 c_6
    refine pw_bipush (v := (-2)) dX8_friday_20 rfl ?_
    refine pw_iret dX8_friday_22 rfl ?_
    exact ⟨by unfold friF; rw [hb_6]; rfl, μ.1 19, _, _, _, by rw [sr_self]⟩
  · skip
    have hb_6 := b2_n c_6
    refine pw_iload_n dX8_friday_9 rfl rfl ?_
    refine pw_iconst (v := (-1)) dX8_friday_10 rfl ?_
    refine pw_iload_n dX8_friday_11 rfl rfl ?_
    refine pw_iconst (v := 1) dX8_friday_12 rfl ?_
    refine pw_isub dX8_friday_13 ?_
    refine pw_cSi dX8_friday_14 ms_X8_78 T_X8_in rfl rfl (Nat.le_of_ble_eq_true rfl) (by decide) (fun x_14 m_14 h_14 => ?_)
    obtain ⟨rfl, rfl⟩ := h_14
    refine pw_if_ne (tgt := 23) dX8_friday_17 (by decide) (fun c_17 => ?_) (fun c_17 => ?_)
    · skip
      have hb_17 := b2_n c_17
      refine pw_aload_n dX8_friday_23 rfl rfl ?_
      refine pw_cVi dX8_friday_24 mv_X8_205 ckModel (T_X8_allMany h1 h5 hj5 hh6) rfl rfl (Nat.le_of_ble_eq_true rfl) (by decide) (fun x_24 m_24 h_24 => ?_)
      obtain ⟨rfl, rfl⟩ := h_24
      refine pw_if_ne (tgt := 41) dX8_friday_27 (by decide) (fun c_27 => ?_) (fun c_27 => ?_)
      · skip
        have hnm : 0 < nj * nh := by
          rcases Nat.eq_zero_or_pos (nj * nh) with q | q
          · rw [q] at c_27; exact absurd rfl c_27
          · exact q
        obtain ⟨n, hn1, hn3, rfl⟩ := in_13 hb_6
        have hN := pow_b3 hmul hn3
        have hfl : (frA B V nj nh n).2 < (nj * nh) ^ n := amx_lt _ (Nat.pow_pos hnm)
        have hp : 0 < nh := by
          rcases Nat.eq_zero_or_pos nh with q | q
          · subst q; omega
          · exact q
        refine pw_iconst (v := 0) dX8_friday_41 rfl ?_
        refine pw_istore_n (ls2 := [(3, _), (0, _), (1, _), (2, _)]) dX8_friday_42 rfl (by decide) rfl ?_
        refine pw_iconst (v := (-1)) dX8_friday_43 rfl ?_
        refine pw_istore (ls2 := [(4, _), (3, _), (0, _), (1, _), (2, _)]) dX8_friday_44 (by decide) rfl ?_
        refine pw_iconst (v := 0) dX8_friday_46 rfl ?_
        refine pw_istore (ls2 := [(5, _), (4, _), (3, _), (0, _), (1, _), (2, _)]) dX8_friday_47 (by decide) rfl ?_
        have L_49 : ∀ (fu_49 : Nat) (k : Nat) (nm sk st : Nat → Int32), (k ≤ (nj * nh) ^ n) → (nj * nh) ^ n - k < fu_49 → PW l SM RX8 cX8_friday 7 (some .int) 8 (QI fun x m => x = friF B V nj nh (nI n) what ∧ ∃ f3 nm2 sk2 st2, m = mm (sr μ 19 f3) (V) nm2 sk2 st2 0) 49 [(0, .ref 0), (1, .int (nI n)), (2, .int what), (3, .int (nI (amx (fun c => rwL B nh (nj * nh) n c V 0) k).2)), (4, .int (amx (fun c => rwL B nh (nj * nh) n c V 0) k).1), (5, .int (nI k))] [] (mm μ V nm sk st 0) := by
          intro fu_49
          induction fu_49 with
          | zero =>
            intro k nm sk st hk hm_49
            exact absurd hm_49 (Nat.not_lt_zero _)
          | succ fu_49 ih_49 =>
            intro k nm sk st hk hm_49
            refine pw_iload dX8_friday_49 rfl ?_
            refine pw_aload_n dX8_friday_51 rfl rfl ?_
            refine pw_iload_n dX8_friday_52 rfl rfl ?_
            refine pw_cVi dX8_friday_53 mv_X8_208 ckModel (T_X8_powerOf (n := n) h1 hj5 h5 hh6 hn3) rfl rfl (Nat.le_of_ble_eq_true rfl) (by decide) (fun x_53 m_53 h_53 => ?_)
            obtain ⟨rfl, rfl⟩ := h_53
            refine pw_icmp_ge (tgt := 104) dX8_friday_56 (by decide) (fun c_56 => ?_) (fun c_56 => ?_)
            · skip
              have hge := nI_geD (by omega) c_56
              have hke : k = (nj * nh) ^ n := by omega
              refine pw_iload_n dX8_friday_104 rfl rfl ?_
              refine pw_iconst (v := 1) dX8_friday_105 rfl ?_
              refine pw_isub dX8_friday_106 ?_
              refine pw_istore (ls2 := [(5, _), (0, _), (1, _), (2, _), (3, _), (4, _)]) dX8_friday_107 (by decide) rfl ?_
              have L_109 : ∀ (fu_109 : Nat) (q : Nat) (f3 : Nat → Int32), (q ≤ n) → (∀ z, q ≤ z → z < n → f3 z = nI (cdF nh (dgF (nj * nh) n (frA B V nj nh n).2 z))) → q < fu_109 → PW l SM RX8 cX8_friday 7 (some .int) 8 (QI fun x m => x = friF B V nj nh (nI n) what ∧ ∃ f3 nm2 sk2 st2, m = mm (sr μ 19 f3) (V) nm2 sk2 st2 0) 109 [(0, .ref 0), (1, .int (nI n)), (2, .int what), (3, .int (nI ((frA B V nj nh n).2 / (nj * nh) ^ (n - q)))), (4, .int (frA B V nj nh n).1), (5, .int (nI q - 1))] [] (mm (sr μ 19 f3) V nm sk st 0) := by
                intro fu_109
                induction fu_109 with
                | zero =>
                  intro q f3 hq hf hm_109
                  exact absurd hm_109 (Nat.not_lt_zero _)
                | succ fu_109 ih_109 =>
                  intro q f3 hq hf hm_109
                  refine pw_iload dX8_friday_109 rfl ?_
                  refine pw_if_lt (tgt := 160) dX8_friday_111 (by decide) (fun c_111 => ?_) (fun c_111 => ?_)
                  · skip
                    have hq0 : q = 0 := by
                      rcases Nat.eq_zero_or_pos q with e | e
                      · exact e
                      · exact absurd c_111 (by rw [show nI q - 1 = nI (q - 1) from pk_sub (a := q) (b := 1) e]; exact nI_pos (by omega))
                    refine pw_iload_n dX8_friday_160 rfl rfl ?_
                    refine pw_iconst (v := (-1)) dX8_friday_161 rfl ?_
                    refine pw_icmp_ne (tgt := 170) dX8_friday_162 (by decide) (fun c_162 => ?_) (fun c_162 => ?_)
                    · skip
                      refine pw_aload_n dX8_friday_170 rfl rfl ?_
                      refine pw_getR dX8_friday_171 fa_X8_64 rfl ?_
                      refine pw_iload_n dX8_friday_174 rfl rfl ?_
                      obtain ⟨z, hz, rfl⟩ := in_m1 hn1 hn3 hb_17 (m1_neg hb_17 c_162)
                      refine pw_iald (j := z) dX8_friday_175 rfl rfl (by omega) ?_
                      refine pw_iret dX8_friday_176 rfl ?_
                      exact ⟨by unfold friF; rw [hb_6, hb_17, Bool.and_self, if_pos rfl, if_neg (by omega), if_neg c_162, cl_nI (by omega), cl_nI (by omega)]; exact hf z (by omega) hz, f3, _, _, _, rfl⟩
                    · skip
                      refine pw_iload dX8_friday_165 rfl ?_
                      refine pw_goto (tgt := 176) dX8_friday_167 (by decide) ?_
                      refine pw_iret dX8_friday_176 rfl ?_
                      exact ⟨by unfold friF; rw [hb_6, hb_17, Bool.and_self, if_pos rfl, if_neg (by omega), if_pos c_162, cl_nI (by omega)], f3, _, _, _, rfl⟩
                  · skip
                    obtain ⟨p, rfl⟩ : ∃ p, q = p + 1 := by
                      rcases Nat.eq_zero_or_pos q with e | e
                      · subst e; exact absurd (by decide) c_111
                      · exact ⟨q - 1, by omega⟩
                    have hdl : (frA B V nj nh n).2 / (nj * nh) ^ (n - (p + 1)) % (nj * nh) < nj * nh := Nat.mod_lt _ hnm
                    have hdv := Nat.div_le_self (frA B V nj nh n).2 ((nj * nh) ^ (n - (p + 1)))
                    refine pw_iload_n dX8_friday_114 rfl rfl ?_
                    refine pw_aload_n dX8_friday_115 rfl rfl ?_
                    refine pw_cVi dX8_friday_116 mv_X8_205 ckModel (T_X8_allMany h1 h5 hj5 hh6) rfl rfl (Nat.le_of_ble_eq_true rfl) (by decide) (fun x_116 m_116 h_116 => ?_)
                    obtain ⟨rfl, rfl⟩ := h_116
                    refine pw_irem dX8_friday_119 (nI_ne0 hnm (by omega)) ?_
                    refine pw_top (y := nI ((frA B V nj nh n).2 / (nj * nh) ^ (n - (p + 1)) % (nj * nh))) (pk_rem (by omega) hnm (by omega)) ?_
                    refine pw_istore (ls2 := [(6, _), (0, _), (1, _), (2, _), (3, _), (4, _), (5, _)]) dX8_friday_120 (by decide) rfl ?_
                    refine pw_aload_n dX8_friday_122 rfl rfl ?_
                    refine pw_getR dX8_friday_123 fa_X8_64 rfl ?_
                    refine pw_iload dX8_friday_126 rfl ?_
                    refine pw_bipush (v := 10) dX8_friday_128 rfl ?_
                    refine pw_iload dX8_friday_130 rfl ?_
                    refine pw_aload_n dX8_friday_132 rfl rfl ?_
                    refine pw_getI dX8_friday_133 fa_X8_82 rfl ?_
                    refine pw_top (y := nI nh) h5 ?_
                    refine pw_idiv dX8_friday_136 (nI_ne0 hp (by omega)) ?_
                    refine pw_top (y := nI ((frA B V nj nh n).2 / (nj * nh) ^ (n - (p + 1)) % (nj * nh) / nh)) (pk_div (by omega) hp (by omega)) ?_
                    refine pw_imul dX8_friday_137 ?_
                    refine pw_top (y := nI (10 * ((frA B V nj nh n).2 / (nj * nh) ^ (n - (p + 1)) % (nj * nh) / nh))) (by show nI 10 * _ = _; rw [pk_mul]) ?_
                    refine pw_iload dX8_friday_138 rfl ?_
                    refine pw_aload_n dX8_friday_140 rfl rfl ?_
                    refine pw_getI dX8_friday_141 fa_X8_82 rfl ?_
                    refine pw_top (y := nI nh) h5 ?_
                    refine pw_irem dX8_friday_144 (nI_ne0 hp (by omega)) ?_
                    refine pw_top (y := nI ((frA B V nj nh n).2 / (nj * nh) ^ (n - (p + 1)) % (nj * nh) % nh)) (pk_rem (by omega) hp (by omega)) ?_
                    refine pw_iadd dX8_friday_145 ?_
                    refine pw_top (y := nI (cdF nh ((frA B V nj nh n).2 / (nj * nh) ^ (n - (p + 1)) % (nj * nh)))) (nI_add _ _) ?_
                    refine pw_iast (j := p) dX8_friday_146 rfl (nI_pred p) (by omega) ?_
                    refine pw_mem m_19' ?_
                    refine pw_iload_n dX8_friday_147 rfl rfl ?_
                    refine pw_aload_n dX8_friday_148 rfl rfl ?_
                    refine pw_cVi dX8_friday_149 mv_X8_205 ckModel (T_X8_allMany h1 h5 hj5 hh6) rfl rfl (Nat.le_of_ble_eq_true rfl) (by decide) (fun x_149 m_149 h_149 => ?_)
                    obtain ⟨rfl, rfl⟩ := h_149
                    refine pw_idiv dX8_friday_152 (nI_ne0 hnm (by omega)) ?_
                    refine pw_top (y := nI ((frA B V nj nh n).2 / (nj * nh) ^ (n - (p + 1)) / (nj * nh))) (pk_div (by omega) hnm (by omega)) ?_
                    refine pw_istore_n (ls2 := [(3, _), (6, _), (0, _), (1, _), (2, _), (4, _), (5, _)]) dX8_friday_153 rfl (by decide) rfl ?_
                    refine pw_iinc (ls2 := [(5, _), (3, _), (6, _), (0, _), (1, _), (2, _), (4, _)]) (v := (nI p - 1)) dX8_friday_154 rfl (by rw [nI_pred]; exact (Int32.sub_eq_add_neg (nI p) 1).symm) (by decide) rfl ?_
                    refine pw_goto (tgt := 109) dX8_friday_157 (by decide) ?_
                    refine pw_sub [3, 4, 5, 1, 6, 0] rfl ?_
                    have hh := ih_109 p (upd f3 p (nI (cdF nh ((frA B V nj nh n).2 / (nj * nh) ^ (n - (p + 1)) % (nj * nh))))) (by omega) (by
                      intro z z1 z2
                      by_cases e : z = p
                      · subst e
                        rw [upd_s]
                        unfold dgF
                        rw [show n - 1 - z = n - (z + 1) by omega]
                      · rw [upd_o _ _ e]
                        exact hf z (by omega) z2) (by omega)
                    rw [show n - p = n - (p + 1) + 1 by omega, Nat.pow_succ, ← Nat.div_div_eq_div_mul] at hh
                    exact hh
              refine pw_sub [1, 2, 3, 4, 5, 0] rfl ?_
              have hL9 := L_109 (n + 1) n (μ.1 19) (Nat.le_refl _) (fun z h1 h2 => absurd h2 (by omega)) (by omega)
              rw [sr_self, Nat.sub_self, Nat.pow_zero, Nat.div_one] at hL9
              unfold frA at hL9
              rw [← hke] at hL9
              exact hL9
            · skip
              have hlt := nI_ltD (by omega) c_56
              refine pw_aload_n dX8_friday_59 rfl rfl ?_
              refine pw_iload dX8_friday_60 rfl ?_
              refine pw_iload_n dX8_friday_62 rfl rfl ?_
              refine pw_cVi dX8_friday_63 mv_X8_217 ckModel (T_X8_rowOf (n := n) (num := k) hL h1 hj5 h5 hh6 hpw hnm hn1 hn3 hlt) rfl rfl (Nat.le_of_ble_eq_true rfl) (by decide) (fun x_63 m_63 h_63 => ?_)
              obtain ⟨rfl, nm1, sk1, st1, rfl⟩ := h_63
              refine pw_istore (ls2 := [(6, _), (0, _), (1, _), (2, _), (3, _), (4, _), (5, _)]) dX8_friday_66 (by decide) rfl ?_
              refine pw_iload dX8_friday_68 rfl ?_
              refine pw_iload dX8_friday_70 rfl ?_
              refine pw_icmp_le (tgt := 80) dX8_friday_72 (by decide) (fun c_72 => ?_) (fun c_72 => ?_)
              · skip
                refine pw_iload_n dX8_friday_80 rfl rfl ?_
                refine pw_istore_n (ls2 := [(3, _), (6, _), (0, _), (1, _), (2, _), (4, _), (5, _)]) dX8_friday_81 rfl (by decide) rfl ?_
                refine pw_iload dX8_friday_82 rfl ?_
                refine pw_iload dX8_friday_84 rfl ?_
                refine pw_icmp_le (tgt := 94) dX8_friday_86 (by decide) (fun c_86 => ?_) (fun c_86 => ?_)
                · skip
                  refine pw_iload dX8_friday_94 rfl ?_
                  refine pw_istore (ls2 := [(4, _), (3, _), (6, _), (0, _), (1, _), (2, _), (5, _)]) dX8_friday_96 (by decide) rfl ?_
                  refine pw_iinc (ls2 := [(5, _), (4, _), (3, _), (6, _), (0, _), (1, _), (2, _)]) (v := nI (k + 1)) dX8_friday_98 rfl (inc1 k) (by decide) rfl ?_
                  refine pw_goto (tgt := 49) dX8_friday_101 (by decide) ?_
                  refine pw_sub [4, 5, 6, 2, 1, 0] rfl ?_
                  have hg : amx (fun c => rwL B nh (nj * nh) n c V 0) (k + 1) = amx (fun c => rwL B nh (nj * nh) n c V 0) k := if_neg (Int32.not_lt.mpr c_72)
                  have hh := ih_49 (k + 1) nm1 sk1 st1 hlt (by omega)
                  rw [hg] at hh
                  exact hh
                · skip
                  exact absurd c_72 c_86
              · skip
                refine pw_iload dX8_friday_75 rfl ?_
                refine pw_goto (tgt := 81) dX8_friday_77 (by decide) ?_
                refine pw_istore_n (ls2 := [(3, _), (6, _), (0, _), (1, _), (2, _), (4, _), (5, _)]) dX8_friday_81 rfl (by decide) rfl ?_
                refine pw_iload dX8_friday_82 rfl ?_
                refine pw_iload dX8_friday_84 rfl ?_
                refine pw_icmp_le (tgt := 94) dX8_friday_86 (by decide) (fun c_86 => ?_) (fun c_86 => ?_)
                · skip
                  exact absurd c_86 c_72
                · skip
                  refine pw_iload dX8_friday_89 rfl ?_
                  refine pw_goto (tgt := 96) dX8_friday_91 (by decide) ?_
                  refine pw_istore (ls2 := [(4, _), (3, _), (6, _), (0, _), (1, _), (2, _), (5, _)]) dX8_friday_96 (by decide) rfl ?_
                  refine pw_iinc (ls2 := [(5, _), (4, _), (3, _), (6, _), (0, _), (1, _), (2, _)]) (v := nI (k + 1)) dX8_friday_98 rfl (inc1 k) (by decide) rfl ?_
                  refine pw_goto (tgt := 49) dX8_friday_101 (by decide) ?_
                  refine pw_sub [4, 5, 6, 2, 1, 0] rfl ?_
                  have hg : amx (fun c => rwL B nh (nj * nh) n c V 0) (k + 1) = (rwL B nh (nj * nh) n k V 0, k) := if_pos (Int32.not_le.mp c_72)
                  have hh := ih_49 (k + 1) nm1 sk1 st1 hlt (by omega)
                  rw [hg] at hh
                  exact hh
        refine pw_sub [3, 4, 5, 2, 1, 0] rfl ?_
        exact L_49 ((nj * nh) ^ n + 1) 0 nm sk st (Nat.zero_le _) (by omega)
      · skip
        have hnm0 : nj * nh = 0 := (nI_eq (b := 0) (by omega) (by decide)).mp c_27
        refine pw_iload_n dX8_friday_30 rfl rfl ?_
        refine pw_iconst (v := (-1)) dX8_friday_31 rfl ?_
        refine pw_icmp_ne (tgt := 39) dX8_friday_32 (by decide) (fun c_32 => ?_) (fun c_32 => ?_)
        · skip
          refine pw_iconst (v := (-1)) dX8_friday_39 rfl ?_
          refine pw_iret dX8_friday_40 rfl ?_
          exact ⟨by unfold friF; rw [hb_6, hb_17, Bool.and_self, if_pos rfl, if_pos hnm0, if_neg c_32], μ.1 19, _, _, _, by rw [sr_self]⟩
        · skip
          refine pw_iconst (v := 0) dX8_friday_35 rfl ?_
          refine pw_goto (tgt := 40) dX8_friday_36 (by decide) ?_
          refine pw_iret dX8_friday_40 rfl ?_
          exact ⟨by unfold friF; rw [hb_6, hb_17, Bool.and_self, if_pos rfl, if_pos hnm0, if_pos c_32], μ.1 19, _, _, _, by rw [sr_self]⟩
    · skip
      have hb_17 := b2_0 c_17
      refine pw_bipush (v := (-2)) dX8_friday_20 rfl ?_
      refine pw_iret dX8_friday_22 rfl ?_
      exact ⟨by unfold friF; rw [hb_6, hb_17]; rfl, μ.1 19, _, _, _, by rw [sr_self]⟩

set_option maxHeartbeats 4000000 in
set_option maxRecDepth 100000 in
theorem T_X8_greedy {l : Launch} {μ : PM} {B : BK} {V : VW} {nm sk st : Nat → Int32} {nj nh : Nat} {n what : Int32} (hL : okL μ B V) (h1 : V 0 1 = nI nj) (hj5 : nj ≤ 5) (h5 : V 0 5 = nI nh) (hh6 : nh ≤ 6) (hpw : ∀ j h, j < nj → h < nh → pwOK V j h) : CT l SM yX8_greedy cX8_greedy 6 (some .int) 7 [.ref 0, .int n, .int what] (mm μ V nm sk st 0) (QI fun x m => x = greedyF B V nj nh n what ∧ ∃ nm2 sk2 st2, m = mm μ (V) nm2 sk2 st2 0) := by
  refine CT.of rfl (Nat.le_of_ble_eq_true rfl) ?_
  show PW l SM RX8 cX8_greedy 6 (some .int) 7 _ 0 [(0, .ref 0), (1, .int n), (2, .int what)] [] (mm μ V nm sk st 0)
  have hmul : nj * nh ≤ 30 := Nat.mul_le_mul hj5 hh6
  refine pw_iload_n dX8_greedy_0 rfl rfl ?_
  refine pw_iconst (v := 1) dX8_greedy_1 rfl ?_
  refine pw_bipush (v := 20) dX8_greedy_2 rfl ?_
  refine pw_cSi dX8_greedy_4 ms_X8_78 T_X8_in rfl rfl (Nat.le_of_ble_eq_true rfl) (by decide) (fun x_4 m_4 h_4 => ?_)
  obtain ⟨rfl, rfl⟩ := h_4
  refine pw_if_eq (tgt := 19) dX8_greedy_7 (by decide) (fun c_7 => ?_) (fun c_7 => ?_)
  · skip
    have hb_7 := b2_0 c_7
    refine pw_bipush (v := (-2)) dX8_greedy_19 rfl ?_
    refine pw_iret dX8_greedy_21 rfl ?_
    exact ⟨by unfold greedyF; rw [hb_7]; rfl, _, _, _, rfl⟩
  · skip
    have hb_7 := b2_n c_7
    refine pw_iload_n dX8_greedy_10 rfl rfl ?_
    refine pw_iconst (v := 0) dX8_greedy_11 rfl ?_
    refine pw_iconst (v := 1) dX8_greedy_12 rfl ?_
    refine pw_cSi dX8_greedy_13 ms_X8_78 T_X8_in rfl rfl (Nat.le_of_ble_eq_true rfl) (by decide) (fun x_13 m_13 h_13 => ?_)
    obtain ⟨rfl, rfl⟩ := h_13
    refine pw_if_ne (tgt := 22) dX8_greedy_16 (by decide) (fun c_16 => ?_) (fun c_16 => ?_)
    · skip
      have hb_16 := b2_n c_16
      refine pw_aload_n dX8_greedy_22 rfl rfl ?_
      refine pw_cVi dX8_greedy_23 mv_X8_205 ckModel (T_X8_allMany h1 h5 hj5 hh6) rfl rfl (Nat.le_of_ble_eq_true rfl) (by decide) (fun x_23 m_23 h_23 => ?_)
      obtain ⟨rfl, rfl⟩ := h_23
      refine pw_if_ne (tgt := 39) dX8_greedy_26 (by decide) (fun c_26 => ?_) (fun c_26 => ?_)
      · skip
        have hnm : 0 < nj * nh := by
          rcases Nat.eq_zero_or_pos (nj * nh) with q | q
          · rw [q] at c_26; exact absurd rfl c_26
          · exact q
        obtain ⟨n, hn, rfl⟩ := in_trueL (n := 20) (inF_up hb_7) (by decide)
        have hp : 0 < nh := by
          rcases Nat.eq_zero_or_pos nh with q | q
          · subst q; omega
          · exact q
        have hpj : 0 < nj := by
          rcases Nat.eq_zero_or_pos nj with q | q
          · subst q; omega
          · exact q
        have hcan : canF nj nh = true := by unfold canF; rw [decide_eq_true hpj, decide_eq_true hp]; rfl
        have hdl := amx_lt (f := yAt B V nh) _ hnm
        refine pw_aload_n dX8_greedy_39 rfl rfl ?_
        refine pw_cVi dX8_greedy_40 mv_X8_220 ckModel (T_X8_mostNow hL h1 h5 hj5 hh6) rfl rfl (Nat.le_of_ble_eq_true rfl) (by decide) (fun x_40 m_40 h_40 => ?_)
        obtain ⟨rfl, nm0, sk0, rfl⟩ := h_40
        refine pw_top (y := nI (deF B V nj nh)) (mnB_p (by omega)) ?_
        refine pw_istore_n (ls2 := [(3, _), (0, _), (1, _), (2, _)]) dX8_greedy_43 rfl (by decide) rfl ?_
        refine pw_iconst (v := 0) dX8_greedy_44 rfl ?_
        refine pw_istore (ls2 := [(4, _), (3, _), (0, _), (1, _), (2, _)]) dX8_greedy_45 (by decide) rfl ?_
        refine pw_iconst (v := 0) dX8_greedy_47 rfl ?_
        refine pw_istore (ls2 := [(5, _), (4, _), (3, _), (0, _), (1, _), (2, _)]) dX8_greedy_48 (by decide) rfl ?_
        have L_50 : ∀ (fu_50 : Nat) (i : Nat) (s : Int32) (U : VW) (nm sk st : Nat → Int32), (i ≤ n) → (grL B nj nh (n - i) U s = grL B nj nh n V 0) → (U 0 = V 0) → (unOK st i) → (unL st i U = V) → (∀ j h, j < nj → h < nh → pwOK U j h) → n - i < fu_50 → PW l SM RX8 cX8_greedy 6 (some .int) 7 (QI fun x m => x = greedyF B V nj nh (nI n) what ∧ ∃ nm2 sk2 st2, m = mm μ (V) nm2 sk2 st2 0) 50 [(0, .ref 0), (1, .int (nI n)), (2, .int what), (3, .int (nI (deF B V nj nh))), (4, .int s), (5, .int (nI i))] [] (mm μ U nm sk st (nI i)) := by
          intro fu_50
          induction fu_50 with
          | zero =>
            intro i s U nm sk st hi hx hU0 hu hun hpwU hm_50
            exact absurd hm_50 (Nat.not_lt_zero _)
          | succ fu_50 ih_50 =>
            intro i s U nm sk st hi hx hU0 hu hun hpwU hm_50
            refine pw_iload dX8_greedy_50 rfl ?_
            refine pw_iload_n dX8_greedy_52 rfl rfl ?_
            refine pw_icmp_ge (tgt := 75) dX8_greedy_53 (by decide) (fun c_53 => ?_) (fun c_53 => ?_)
            · skip
              have hge := nI_geD (by omega) c_53
              refine pw_aload_n dX8_greedy_75 rfl rfl ?_
              refine pw_cVv dX8_greedy_76 mv_X8_214 ckModel (T_X8_takesBack (n := i) (V := U) (by omega) hu) rfl rfl (Nat.le_of_ble_eq_true rfl) (by decide) (fun m_76 h_76 => ?_)
              obtain rfl := h_76
              rw [hun]
              refine pw_iload_n dX8_greedy_79 rfl rfl ?_
              refine pw_if_ne (tgt := 88) dX8_greedy_80 (by decide) (fun c_80 => ?_) (fun c_80 => ?_)
              · skip
                refine pw_bipush (v := 10) dX8_greedy_88 rfl ?_
                refine pw_iload_n dX8_greedy_90 rfl rfl ?_
                refine pw_aload_n dX8_greedy_91 rfl rfl ?_
                refine pw_getI dX8_greedy_92 fa_X8_82 rfl ?_
                refine pw_top (y := nI nh) h5 ?_
                refine pw_idiv dX8_greedy_95 (nI_ne0 hp (by omega)) ?_
                refine pw_top (y := nI (deF B V nj nh / nh)) (pk_div (by unfold deF; omega) hp (by omega)) ?_
                refine pw_imul dX8_greedy_96 ?_
                refine pw_top (y := nI (10 * (deF B V nj nh / nh))) (by show nI 10 * _ = _; rw [pk_mul]) ?_
                refine pw_iload_n dX8_greedy_97 rfl rfl ?_
                refine pw_aload_n dX8_greedy_98 rfl rfl ?_
                refine pw_getI dX8_greedy_99 fa_X8_82 rfl ?_
                refine pw_top (y := nI nh) h5 ?_
                refine pw_irem dX8_greedy_102 (nI_ne0 hp (by omega)) ?_
                refine pw_top (y := nI (deF B V nj nh % nh)) (pk_rem (by unfold deF; omega) hp (by omega)) ?_
                refine pw_iadd dX8_greedy_103 ?_
                refine pw_top (y := nI (cdF nh (deF B V nj nh))) (nI_add _ _) ?_
                refine pw_iret dX8_greedy_104 rfl ?_
                exact ⟨by unfold greedyF; rw [show inF (nI n) 1 20 = true from hb_7, hb_16, Bool.and_self, if_pos rfl, hcan, if_pos rfl, if_pos ((in_01 hb_16).resolve_left c_80)], _, _, _, rfl⟩
              · skip
                refine pw_iload dX8_greedy_83 rfl ?_
                refine pw_goto (tgt := 104) dX8_greedy_85 (by decide) ?_
                skip
                refine pw_iret dX8_greedy_104 rfl ?_
                have c80 : what = 0 := c_80
                rw [show n - i = 0 by omega] at hx
                change s = _ at hx
                exact ⟨by unfold greedyF; rw [show inF (nI n) 1 20 = true from hb_7, hb_16, Bool.and_self, if_pos rfl, hcan, if_pos rfl, if_neg (by rw [c80]; decide), cl_nI (by omega)]; exact hx, _, _, _, rfl⟩
            · skip
              have hlt := nI_ltD (by omega) c_53
              have hU1 : U 0 1 = nI nj := by rw [hU0]; exact h1
              have hU5 : U 0 5 = nI nh := by rw [hU0]; exact h5
              have hLU : okL μ B U := okL_V hL (by rw [hU0])
              have hdU := amx_lt (f := yAt B U nh) _ hnm
              have hd1 : deF B U nj nh / nh < nj := Nat.div_lt_of_lt_mul (by rw [Nat.mul_comm]; exact hdU)
              have hd2 : deF B U nj nh % nh < nh := Nat.mod_lt _ hp
              refine pw_iload dX8_greedy_56 rfl ?_
              refine pw_aload_n dX8_greedy_58 rfl rfl ?_
              refine pw_aload_n dX8_greedy_59 rfl rfl ?_
              refine pw_cVi dX8_greedy_60 mv_X8_220 ckModel (T_X8_mostNow (V := U) hLU hU1 hU5 hj5 hh6) rfl rfl (Nat.le_of_ble_eq_true rfl) (by decide) (fun x_60 m_60 h_60 => ?_)
              obtain ⟨rfl, nm1, sk1, rfl⟩ := h_60
              refine pw_top (y := nI (deF B U nj nh)) (mnB_p (by omega)) ?_
              refine pw_cVi dX8_greedy_63 mv_X8_211 ckModel (T_X8_byNumber (n := i) (V := U) (c := deF B U nj nh) hLU hU1 hj5 hU5 hh6 hdU hpwU (by omega)) rfl rfl (Nat.le_of_ble_eq_true rfl) (by decide) (fun x_63 m_63 h_63 => ?_)
              obtain ⟨rfl, nm2, sk2, rfl⟩ := h_63
              refine pw_iadd dX8_greedy_66 ?_
              refine pw_istore (ls2 := [(4, _), (0, _), (1, _), (2, _), (3, _), (5, _)]) dX8_greedy_67 (by decide) rfl ?_
              refine pw_iinc (ls2 := [(5, _), (4, _), (0, _), (1, _), (2, _), (3, _)]) (v := nI (i + 1)) dX8_greedy_69 rfl (inc1 i) (by decide) rfl ?_
              refine pw_goto (tgt := 50) dX8_greedy_72 (by decide) ?_
              refine pw_sub [2, 3, 4, 5, 1, 0] rfl ?_
              exact ih_50 (i + 1) _ _ nm2 sk2 _ hlt (by rw [← hx, show n - i = (n - (i + 1)) + 1 by omega]; rfl) hU0 (un_ok (by omega) (by omega) hu) ((un_tell (by omega) (by omega)).trans hun) (fun j2 h2 a b => pw_tell (hpwU _ _ hd1 hd2) (hpwU j2 h2 a b)) (by omega)
        refine pw_sub [3, 4, 5, 2, 1, 0] rfl ?_
        exact L_50 (n + 1) 0 0 V nm0 sk0 st (Nat.zero_le _) rfl rfl (fun k hk => absurd hk (Nat.not_lt_zero _)) rfl hpw (by omega)
      · skip
        have hnm0 : nj * nh = 0 := (nI_eq (b := 0) (by omega) (by decide)).mp c_26
        have hcan : canF nj nh = false := by
          unfold canF
          rcases Nat.mul_eq_zero.mp hnm0 with q | q
          · rw [q]; rfl
          · rw [q]; exact Bool.and_false _
        refine pw_iload_n dX8_greedy_29 rfl rfl ?_
        refine pw_if_ne (tgt := 37) dX8_greedy_30 (by decide) (fun c_30 => ?_) (fun c_30 => ?_)
        · skip
          refine pw_iconst (v := (-1)) dX8_greedy_37 rfl ?_
          refine pw_iret dX8_greedy_38 rfl ?_
          exact ⟨by unfold greedyF; rw [hb_7, hb_16, hcan, Bool.and_self, if_pos rfl, if_neg Bool.false_ne_true, if_neg c_30], _, _, _, rfl⟩
        · skip
          refine pw_iconst (v := 0) dX8_greedy_33 rfl ?_
          refine pw_goto (tgt := 38) dX8_greedy_34 (by decide) ?_
          refine pw_iret dX8_greedy_38 rfl ?_
          exact ⟨by unfold greedyF; rw [hb_7, hb_16, hcan, Bool.and_self, if_pos rfl, if_neg Bool.false_ne_true, if_pos c_30], _, _, _, rfl⟩
    · skip
      have hb_16 := b2_0 c_16
      refine pw_bipush (v := (-2)) dX8_greedy_19 rfl ?_
      refine pw_iret dX8_greedy_21 rfl ?_
      exact ⟨by unfold greedyF; rw [hb_7, hb_16]; rfl, _, _, _, rfl⟩

