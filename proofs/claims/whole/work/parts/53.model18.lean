theorem gcL_dvd (a b : Nat) : ∀ d, gcL a b d ∣ a ∧ gcL a b d ∣ b
  | 0 => ⟨Nat.one_dvd a, Nat.one_dvd b⟩
  | d + 1 => by
    show (if d = 0 then 1 else if a % (d + 1) = 0 then (if b % (d + 1) = 0 then d + 1 else gcL a b d) else gcL a b d) ∣ a ∧ (if d = 0 then 1 else if a % (d + 1) = 0 then (if b % (d + 1) = 0 then d + 1 else gcL a b d) else gcL a b d) ∣ b
    by_cases h0 : d = 0
    · rw [if_pos h0]
      exact ⟨Nat.one_dvd a, Nat.one_dvd b⟩
    · rw [if_neg h0]
      by_cases h1 : a % (d + 1) = 0
      · rw [if_pos h1]
        by_cases h2 : b % (d + 1) = 0
        · rw [if_pos h2]
          exact ⟨Nat.dvd_of_mod_eq_zero h1, Nat.dvd_of_mod_eq_zero h2⟩
        · rw [if_neg h2]
          exact gcL_dvd a b d
      · rw [if_neg h1]
        exact gcL_dvd a b d
theorem gcL_max (a b e : Nat) (ha : e ∣ a) (hb : e ∣ b) : ∀ d, e ≤ d → e ≤ gcL a b d
  | 0, h => Nat.le_trans h (Nat.zero_le _)
  | d + 1, h => by
    have hq := (gcL_pos a b d).1
    show e ≤ (if d = 0 then 1 else if a % (d + 1) = 0 then (if b % (d + 1) = 0 then d + 1 else gcL a b d) else gcL a b d)
    by_cases h0 : d = 0
    · rw [if_pos h0]; omega
    · rw [if_neg h0]
      by_cases h1 : a % (d + 1) = 0
      · rw [if_pos h1]
        by_cases h2 : b % (d + 1) = 0
        · rw [if_pos h2]; exact h
        · rw [if_neg h2]
          rcases Nat.lt_or_ge e (d + 1) with q | q
          · exact gcL_max a b e ha hb d (by omega)
          · exact absurd (Nat.mod_eq_zero_of_dvd (show d + 1 ∣ b by rw [show d + 1 = e by omega]; exact hb)) h2
      · rw [if_neg h1]
        rcases Nat.lt_or_ge e (d + 1) with q | q
        · exact gcL_max a b e ha hb d (by omega)
        · exact absurd (Nat.mod_eq_zero_of_dvd (show d + 1 ∣ a by rw [show d + 1 = e by omega]; exact ha)) h1
theorem gcL_gcd {a b : Nat} (hb : 0 < b) : gcL a b b = Nat.gcd a b := by
  apply Nat.le_antisymm
  · exact Nat.le_of_dvd (Nat.gcd_pos_of_pos_right a hb) (Nat.dvd_gcd (gcL_dvd a b b).1 (gcL_dvd a b b).2)
  · exact gcL_max a b _ (Nat.gcd_dvd_left a b) (Nat.gcd_dvd_right a b) b (Nat.le_of_dvd hb (Nat.gcd_dvd_right a b))
theorem odds_no {B : BK} {V : VW} {nj nh : Nat} {sd ms mu pa : Int32} (h : ∀ q, q < 2 ^ 31 → ms = nI q → ¬ (q / 100 ≤ 50 ∧ 1 ≤ q % 100 ∧ q % 100 ≤ 50)) : oddsF B V nj nh sd ms mu pa = NOL := by
  unfold oddsF
  by_cases g : ms < 0
  · rw [decide_eq_true g]
    simp
  · obtain ⟨q, hq, rfl⟩ := nI_of g
    have e : odF B V nj nh (cl sd) (cl (nI q)) mu pa = NOL := by
      rw [cl_nI hq]
      unfold odF
      rw [if_neg (h q hq rfl)]
    rw [e, ite_self]
def feG (a b c d e : Int32) (k : Nat) : Int32 := if k = 0 then a else if k = 1 then b else if k = 2 then c else if k = 3 then d else e
def fdM (μ : PM) (n : Nat) (g : Nat → Int32) : Nat → PM
  | 0 => μ
  | k + 1 => si (si (fdM μ n g k) 6 (n + k) (g k)) 0 9 (nI (n + k + 1))
theorem fdM_9 {μ : PM} {n : Nat} {g : Nat → Int32} (h : μ.1 0 9 = nI n) : ∀ k, (fdM μ n g k).1 0 9 = nI (n + k)
  | 0 => h
  | k + 1 => by
    show (si (si (fdM μ n g k) 6 (n + k) (g k)) 0 9 (nI (n + k + 1))).1 0 9 = _
    rw [si_same, upd_s]
    rfl
def feedN (μ : PM) (n : Nat) (k a b c d e : Int32) : PM := if inF k 1 5 && bytesF a b c d e then (if n + cl k ≤ 160 then fdM μ n (feG a b c d e) (cl k) else μ) else μ
theorem nk0 {k x : Nat} (hk : k < 2 ^ 31) (hx : x < 2 ^ 31) (h : ¬ nI k = nI x) : ¬ k = x := fun e => h (by rw [e])
set_option maxHeartbeats 4000000 in
set_option maxRecDepth 100000 in
theorem T_X8_drawnBy {l : Launch} {μ : PM} {B : BK} {V : VW} {nm sk st : Nat → Int32} {nj nh sd n : Nat} (hL : okL μ B V) (h1 : V 0 1 = nI nj) (hj5 : nj ≤ 5) (h5 : V 0 5 = nI nh) (hh6 : nh ≤ 6) (hpw : ∀ j h, j < nj → h < nh → pwOK V j h) (hj0 : 0 < nj) (hh0 : 0 < nh) (hsd : sd ≤ 200000) (hn : n ≤ 50) : CT l SM yX8_drawnBy cX8_drawnBy 7 (some .int) 6 [.ref 0, .int (nI sd), .int (nI n)] (mm μ V nm sk st 0) (QI fun x m => x = drS B V nj nh sd n ∧ ∃ nm2 sk2 st2, m = mm μ (V) nm2 sk2 st2 0) := by
  refine CT.of rfl (Nat.le_of_ble_eq_true rfl) ?_
  show PW l SM RX8 cX8_drawnBy 7 (some .int) 6 _ 0 [(0, .ref 0), (1, .int (nI sd)), (2, .int (nI n))] [] (mm μ V nm sk st 0)
  refine pw_iload_n dX8_drawnBy_0 rfl rfl ?_
  refine pw_i2l dX8_drawnBy_1 ?_
  refine pw_topl (y := lN sd) (nI_l (by omega)) ?_
  refine pw_lconst dX8_drawnBy_2 rfl ?_
  refine pw_ladd dX8_drawnBy_3 ?_
  refine pw_topl (y := lN (sd + 1)) (lN_1 sd) ?_
  refine pw_lstore_n (ls2 := [(3, _), (0, _), (1, _), (2, _)]) dX8_drawnBy_4 rfl (by decide) rfl ?_
  refine pw_iconst (v := 0) dX8_drawnBy_5 rfl ?_
  refine pw_istore (ls2 := [(5, _), (3, _), (0, _), (1, _), (2, _)]) dX8_drawnBy_6 (by decide) rfl ?_
  refine pw_iconst (v := 0) dX8_drawnBy_8 rfl ?_
  refine pw_istore (ls2 := [(6, _), (5, _), (3, _), (0, _), (1, _), (2, _)]) dX8_drawnBy_9 (by decide) rfl ?_
  have L_11 : ∀ (fu_11 : Nat) (i a : Nat) (s : Int32) (U : VW) (nm sk st : Nat → Int32), (i ≤ n) → (a ≤ 2147483647) → (U 0 = V 0) → (unOK st i) → (unL st i U = V) → (∀ j h, j < nj → h < nh → pwOK U j h) → (drL B nj nh (n - i) a U s = drS B V nj nh sd n) → n - i < fu_11 → PW l SM RX8 cX8_drawnBy 7 (some .int) 6 (QI fun x m => x = drS B V nj nh sd n ∧ ∃ nm2 sk2 st2, m = mm μ (V) nm2 sk2 st2 0) 11 [(0, .ref 0), (2, .int (nI n)), (3, .long (lN a)), (5, .int s), (6, .int (nI i))] [] (mm μ U nm sk st (nI i)) := by
    intro fu_11
    induction fu_11 with
    | zero =>
      intro i a s U nm sk st hi hal hU0 hu hun hpwU hx hm_11
      exact absurd hm_11 (Nat.not_lt_zero _)
    | succ fu_11 ih_11 =>
      intro i a s U nm sk st hi hal hU0 hu hun hpwU hx hm_11
      refine pw_iload dX8_drawnBy_11 rfl ?_
      refine pw_iload_n dX8_drawnBy_13 rfl rfl ?_
      refine pw_icmp_ge (tgt := 64) dX8_drawnBy_14 (by decide) (fun c_14 => ?_) (fun c_14 => ?_)
      · skip
        have hge := nI_geD (by omega) c_14
        refine pw_aload_n dX8_drawnBy_64 rfl rfl ?_
        refine pw_cVv dX8_drawnBy_65 mv_X8_214 ckModel (T_X8_takesBack (n := i) (V := U) (by omega) hu) rfl rfl (Nat.le_of_ble_eq_true rfl) (by decide) (fun m_65 h_65 => ?_)
        obtain rfl := h_65
        refine pw_iload dX8_drawnBy_68 rfl ?_
        refine pw_iret dX8_drawnBy_70 rfl ?_
        rw [show n - i = 0 by omega] at hx
        change s = _ at hx
        exact ⟨hx, _, _, _, by rw [hun]⟩
      · skip
        have hlt := nI_ltD (by omega) c_14
        have hU1 : U 0 1 = nI nj := by rw [hU0]; exact h1
        have hU5 : U 0 5 = nI nh := by rw [hU0]; exact h5
        have hLU : okL μ B U := okL_V hL (by rw [hU0])
        have hLb := lotN_b a
        have hm1 : lotN a % nj < nj := Nat.mod_lt _ hj0
        have hm2 : lotN a / nj % nh < nh := Nat.mod_lt _ hh0
        have hm3 : lotN a / nj ≤ lotN a := Nat.div_le_self _ _
        refine pw_lload_n dX8_drawnBy_17 rfl rfl ?_
        refine pw_ldc2 dX8_drawnBy_18 k_X8_282 ?_
        refine pw_lmul dX8_drawnBy_21 ?_
        refine pw_topl (y := lN (a * 48271)) (lN_mul a 48271) ?_
        refine pw_ldc2 dX8_drawnBy_22 k_X8_284 ?_
        refine pw_lrem dX8_drawnBy_25 (by decide) ?_
        refine pw_topl (y := lN (lotN a)) (pk_lRem (b := 2147483647) (by omega) (by decide) (by decide)) ?_
        refine pw_lstore_n (ls2 := [(3, _), (0, _), (2, _), (5, _), (6, _)]) dX8_drawnBy_26 rfl (by decide) rfl ?_
        refine pw_iload dX8_drawnBy_27 rfl ?_
        refine pw_aload_n dX8_drawnBy_29 rfl rfl ?_
        refine pw_lload_n dX8_drawnBy_30 rfl rfl ?_
        refine pw_aload_n dX8_drawnBy_31 rfl rfl ?_
        refine pw_getI dX8_drawnBy_32 fa_X8_75 rfl ?_
        refine pw_top (y := nI nj) hU1 ?_
        refine pw_i2l dX8_drawnBy_35 ?_
        refine pw_topl (y := lN nj) (nI_l (by omega)) ?_
        refine pw_lrem dX8_drawnBy_36 (lN_ne hj0 (by omega)) ?_
        refine pw_topl (y := lN (lotN a % nj)) (pk_lRem (by omega) hj0 (by omega)) ?_
        refine pw_l2i dX8_drawnBy_37 ?_
        refine pw_top (y := nI (lotN a % nj)) (lN_i _) ?_
        refine pw_lload_n dX8_drawnBy_38 rfl rfl ?_
        refine pw_aload_n dX8_drawnBy_39 rfl rfl ?_
        refine pw_getI dX8_drawnBy_40 fa_X8_75 rfl ?_
        refine pw_top (y := nI nj) hU1 ?_
        refine pw_i2l dX8_drawnBy_43 ?_
        refine pw_topl (y := lN nj) (nI_l (by omega)) ?_
        refine pw_ldiv dX8_drawnBy_44 (lN_ne hj0 (by omega)) ?_
        refine pw_topl (y := lN (lotN a / nj)) (pk_lDiv (by omega) hj0 (by omega)) ?_
        refine pw_aload_n dX8_drawnBy_45 rfl rfl ?_
        refine pw_getI dX8_drawnBy_46 fa_X8_82 rfl ?_
        refine pw_top (y := nI nh) hU5 ?_
        refine pw_i2l dX8_drawnBy_49 ?_
        refine pw_topl (y := lN nh) (nI_l (by omega)) ?_
        refine pw_lrem dX8_drawnBy_50 (lN_ne hh0 (by omega)) ?_
        refine pw_topl (y := lN (lotN a / nj % nh)) (pk_lRem (by omega) hh0 (by omega)) ?_
        refine pw_l2i dX8_drawnBy_51 ?_
        refine pw_top (y := nI (lotN a / nj % nh)) (lN_i _) ?_
        refine pw_cVi dX8_drawnBy_52 mv_X8_199 ckModel (T_X8_tells (n := i) (V := U) (j := lotN a % nj) (h := lotN a / nj % nh) hLU (by omega) (by omega) (hpwU _ _ hm1 hm2) (by omega)) rfl rfl (Nat.le_of_ble_eq_true rfl) (by decide) (fun x_52 m_52 h_52 => ?_)
        obtain ⟨rfl, nm1, sk1, rfl⟩ := h_52
        refine pw_iadd dX8_drawnBy_55 ?_
        refine pw_istore (ls2 := [(5, _), (3, _), (0, _), (2, _), (6, _)]) dX8_drawnBy_56 (by decide) rfl ?_
        refine pw_iinc (ls2 := [(6, _), (5, _), (3, _), (0, _), (2, _)]) (v := nI (i + 1)) dX8_drawnBy_58 rfl (inc1 i) (by decide) rfl ?_
        refine pw_goto (tgt := 11) dX8_drawnBy_61 (by decide) ?_
        refine pw_sub [3, 4, 2, 1, 0] rfl ?_
        exact ih_11 (i + 1) (lotN a) _ _ nm1 sk1 _ hlt (by omega) hU0 (un_ok (by omega) (by omega) hu) ((un_tell (by omega) (by omega)).trans hun) (fun j2 h2 x y => pw_tell (hpwU _ _ hm1 hm2) (hpwU j2 h2 x y)) (by rw [← hx, show n - i = (n - (i + 1)) + 1 by omega]; rfl) (by omega)
  refine pw_sub [3, 5, 2, 1, 0] rfl ?_
  exact L_11 (n + 1) 0 (sd + 1) 0 V nm sk st (Nat.zero_le _) (by omega) rfl (fun k hk => absurd hk (Nat.not_lt_zero _)) rfl hpw rfl (by omega)

set_option maxHeartbeats 4000000 in
set_option maxRecDepth 100000 in
theorem T_X8_drawn {l : Launch} {μ : PM} {B : BK} {V : VW} {nm sk st : Nat → Int32} {nj nh : Nat} {sd n : Int32} (hL : okL μ B V) (h1 : V 0 1 = nI nj) (hj5 : nj ≤ 5) (h5 : V 0 5 = nI nh) (hh6 : nh ≤ 6) (hpw : ∀ j h, j < nj → h < nh → pwOK V j h) : CT l SM yX8_drawn cX8_drawn 3 (some .int) 7 [.ref 0, .int sd, .int n] (mm μ V nm sk st 0) (QI fun x m => x = drawnF B V nj nh sd n ∧ ∃ nm2 sk2 st2, m = mm μ (V) nm2 sk2 st2 0) := by
  refine CT.of rfl (Nat.le_of_ble_eq_true rfl) ?_
  show PW l SM RX8 cX8_drawn 3 (some .int) 7 _ 0 [(0, .ref 0), (1, .int sd), (2, .int n)] [] (mm μ V nm sk st 0)
  refine pw_iload_n dX8_drawn_0 rfl rfl ?_
  refine pw_iconst (v := 0) dX8_drawn_1 rfl ?_
  refine pw_ldcw dX8_drawn_2 k_X8_286 ?_
  refine pw_cSi dX8_drawn_5 ms_X8_78 T_X8_in rfl rfl (Nat.le_of_ble_eq_true rfl) (by decide) (fun x_5 m_5 h_5 => ?_)
  obtain ⟨rfl, rfl⟩ := h_5
  refine pw_if_eq (tgt := 21) dX8_drawn_8 (by decide) (fun c_8 => ?_) (fun c_8 => ?_)
  · skip
    have hb_8 := b2_0 c_8
    refine pw_bipush (v := (-2)) dX8_drawn_21 rfl ?_
    refine pw_iret dX8_drawn_23 rfl ?_
    exact ⟨by unfold drawnF; rw [hb_8]; rfl, _, _, _, rfl⟩
  · skip
    have hb_8 := b2_n c_8
    refine pw_iload_n dX8_drawn_11 rfl rfl ?_
    refine pw_iconst (v := 0) dX8_drawn_12 rfl ?_
    refine pw_bipush (v := 50) dX8_drawn_13 rfl ?_
    refine pw_cSi dX8_drawn_15 ms_X8_78 T_X8_in rfl rfl (Nat.le_of_ble_eq_true rfl) (by decide) (fun x_15 m_15 h_15 => ?_)
    obtain ⟨rfl, rfl⟩ := h_15
    refine pw_if_ne (tgt := 24) dX8_drawn_18 (by decide) (fun c_18 => ?_) (fun c_18 => ?_)
    · skip
      have hb_18 := b2_n c_18
      refine pw_aload_n dX8_drawn_24 rfl rfl ?_
      refine pw_cVi dX8_drawn_25 mv_X8_205 ckModel (T_X8_allMany h1 h5 hj5 hh6) rfl rfl (Nat.le_of_ble_eq_true rfl) (by decide) (fun x_25 m_25 h_25 => ?_)
      obtain ⟨rfl, rfl⟩ := h_25
      refine pw_if_ne (tgt := 35) dX8_drawn_28 (by decide) (fun c_28 => ?_) (fun c_28 => ?_)
      · skip
        have hnm : 0 < nj * nh := by
          rcases Nat.eq_zero_or_pos (nj * nh) with q | q
          · rw [q] at c_28; exact absurd rfl c_28
          · exact q
        have hp : 0 < nh := by
          rcases Nat.eq_zero_or_pos nh with q | q
          · subst q; omega
          · exact q
        have hpj : 0 < nj := by
          rcases Nat.eq_zero_or_pos nj with q | q
          · subst q; omega
          · exact q
        have hcan : canF nj nh = true := by unfold canF; rw [decide_eq_true hpj, decide_eq_true hp]; rfl
        obtain ⟨sd, hsd, rfl⟩ := in_trueL (n := 99999) hb_8 (by decide)
        obtain ⟨n, hn, rfl⟩ := in_trueL (n := 50) hb_18 (by decide)
        refine pw_aload_n dX8_drawn_35 rfl rfl ?_
        refine pw_iload_n dX8_drawn_36 rfl rfl ?_
        refine pw_iload_n dX8_drawn_37 rfl rfl ?_
        refine pw_cVi dX8_drawn_38 mv_X8_287 ckModel (T_X8_drawnBy hL h1 hj5 h5 hh6 hpw hpj hp (by omega) hn) rfl rfl (Nat.le_of_ble_eq_true rfl) (by decide) (fun x_38 m_38 h_38 => ?_)
        obtain ⟨rfl, nm1, sk1, st1, rfl⟩ := h_38
        refine pw_iret dX8_drawn_41 rfl ?_
        exact ⟨by unfold drawnF; rw [show inF (nI sd) 0 99999 = true from hb_8, show inF (nI n) 0 50 = true from hb_18, hcan, cl_nI (by omega), cl_nI (by omega)]; rfl, _, _, _, rfl⟩
      · skip
        have hmul : nj * nh ≤ 30 := Nat.mul_le_mul hj5 hh6
        have hnm0 : nj * nh = 0 := (nI_eq (b := 0) (by omega) (by decide)).mp c_28
        have hcan : canF nj nh = false := by
          unfold canF
          rcases Nat.mul_eq_zero.mp hnm0 with q | q
          · rw [q]; rfl
          · rw [q]; exact Bool.and_false _
        refine pw_iconst (v := (-1)) dX8_drawn_31 rfl ?_
        refine pw_goto (tgt := 41) dX8_drawn_32 (by decide) ?_
        refine pw_iret dX8_drawn_41 rfl ?_
        exact ⟨by unfold drawnF; rw [hb_8, hb_18, hcan]; rfl, _, _, _, rfl⟩
    · skip
      have hb_18 := b2_0 c_18
      refine pw_bipush (v := (-2)) dX8_drawn_21 rfl ?_
      refine pw_iret dX8_drawn_23 rfl ?_
      exact ⟨by unfold drawnF; rw [hb_8, hb_18]; rfl, _, _, _, rfl⟩

set_option maxHeartbeats 4000000 in
set_option maxRecDepth 100000 in
theorem T_X8_lowest {l : Launch} {Ω : SH} {μ : PM} {A n : Nat} {pa : Int32} (hA : A ≤ 1000) (hn0 : 0 < n) (hn : n ≤ 1000) (hpa : pa = 0 ∨ pa = 1) : CT l Ω yX8_lowest cX8_lowest 11 (some .long) 1 [.long (lN A), .long (lN n), .int pa] μ (QL fun x m => x = lN ((if pa = 0 then A else n) / gcL A n n) ∧ m = μ) := by
  refine CT.of rfl (Nat.le_of_ble_eq_true rfl) ?_
  show PW l Ω RX8 cX8_lowest 11 (some .long) 1 _ 0 [(0, .long (lN A)), (2, .long (lN n)), (4, .int pa)] [] μ
  refine pw_lload_n dX8_lowest_0 rfl rfl ?_
  refine pw_lconst dX8_lowest_1 rfl ?_
  refine pw_lcmp dX8_lowest_2 ?_
  refine pw_if_ne (tgt := 10) dX8_lowest_3 (by decide) (fun c_3 => ?_) (fun c_3 => ?_)
  · skip
    have hA0 : ¬ A = 0 := fun e => c_3 ((lg_cmp_eq _ _).mpr (by rw [e]; rfl))
    refine pw_lload_n dX8_lowest_10 rfl rfl ?_
    refine pw_lstore (ls2 := [(5, _), (0, _), (2, _), (4, _)]) dX8_lowest_11 (by decide) rfl ?_
    refine pw_lload_n dX8_lowest_13 rfl rfl ?_
    refine pw_lstore (ls2 := [(7, _), (5, _), (0, _), (2, _), (4, _)]) dX8_lowest_14 (by decide) rfl ?_
    have L_16 : ∀ (fu_16 : Nat) (x y : Nat), (0 < x) → (x ≤ 1000) → (y ≤ 1000) → (Nat.gcd x y = Nat.gcd A n) → y < fu_16 → PW l Ω RX8 cX8_lowest 11 (some .long) 1 (QL fun x m => x = lN ((if pa = 0 then A else n) / gcL A n n) ∧ m = μ) 16 [(0, .long (lN A)), (2, .long (lN n)), (4, .int pa), (5, .long (lN x)), (7, .long (lN y))] [] (μ) := by
      intro fu_16
      induction fu_16 with
      | zero =>
        intro x y hx1 hx hy hg hm_16
        exact absurd hm_16 (Nat.not_lt_zero _)
      | succ fu_16 ih_16 =>
        intro x y hx1 hx hy hg hm_16
        refine pw_lload dX8_lowest_16 rfl ?_
        refine pw_lconst dX8_lowest_18 rfl ?_
        refine pw_lcmp dX8_lowest_19 ?_
        refine pw_if_eq (tgt := 41) dX8_lowest_20 (by decide) (fun c_20 => ?_) (fun c_20 => ?_)
        · skip
          have hy0 : y = 0 := (lN_eq (b := 0) (by omega) (by decide)).mp ((lg_cmp_eq _ _).mp c_20)
          rw [hy0, Nat.gcd_zero_right] at hg
          refine pw_iload dX8_lowest_41 rfl ?_
          refine pw_if_ne (tgt := 50) dX8_lowest_43 (by decide) (fun c_43 => ?_) (fun c_43 => ?_)
          · skip
            refine pw_lload_n dX8_lowest_50 rfl rfl ?_
            refine pw_lload dX8_lowest_51 rfl ?_
            refine pw_ldiv dX8_lowest_53 (lN_ne (by omega) (by omega)) ?_
            refine pw_topl (y := lN (n / x)) (pk_lDiv (by omega) (by omega) (by omega)) ?_
            refine pw_lret dX8_lowest_54 rfl ?_
            exact ⟨by rw [gcL_gcd hn0, if_neg c_43, ← hg], rfl⟩
          · skip
            refine pw_lload_n dX8_lowest_46 rfl rfl ?_
            refine pw_goto (tgt := 51) dX8_lowest_47 (by decide) ?_
            refine pw_lload dX8_lowest_51 rfl ?_
            refine pw_ldiv dX8_lowest_53 (lN_ne (by omega) (by omega)) ?_
            refine pw_topl (y := lN (A / x)) (pk_lDiv (by omega) (by omega) (by omega)) ?_
            refine pw_lret dX8_lowest_54 rfl ?_
            exact ⟨by rw [gcL_gcd hn0, if_pos c_43, ← hg], rfl⟩
        · skip
          have hy0 : ¬ y = 0 := fun e => c_20 ((lg_cmp_eq _ _).mpr (by rw [e]; rfl))
          refine pw_lload dX8_lowest_23 rfl ?_
          refine pw_lload dX8_lowest_25 rfl ?_
          refine pw_lrem dX8_lowest_27 (lN_ne (by omega) (by omega)) ?_
          refine pw_topl (y := lN (x % y)) (pk_lRem (by omega) (by omega) (by omega)) ?_
          have hxy : x % y < y := Nat.mod_lt _ (by omega)
          refine pw_lstore (ls2 := [(9, _), (0, _), (2, _), (4, _), (5, _), (7, _)]) dX8_lowest_28 (by decide) rfl ?_
          refine pw_lload dX8_lowest_30 rfl ?_
          refine pw_lstore (ls2 := [(5, _), (9, _), (0, _), (2, _), (4, _), (7, _)]) dX8_lowest_32 (by decide) rfl ?_
          refine pw_lload dX8_lowest_34 rfl ?_
          refine pw_lstore (ls2 := [(7, _), (5, _), (9, _), (0, _), (2, _), (4, _)]) dX8_lowest_36 (by decide) rfl ?_
          refine pw_goto (tgt := 16) dX8_lowest_38 (by decide) ?_
          refine pw_sub [3, 4, 5, 1, 0] rfl ?_
          exact ih_16 y (x % y) (by omega) (by omega) (by omega) (by rw [← hg, Nat.gcd_comm y (x % y), ← Nat.gcd_rec y x, Nat.gcd_comm]) (by omega)
    refine pw_sub [2, 3, 4, 1, 0] rfl ?_
    exact L_16 (n + 1) A n (by omega) hA hn rfl (by omega)
  · skip
    have hA0 : A = 0 := (lN_eq (b := 0) (by omega) (by decide)).mp ((lg_cmp_eq _ _).mp c_3)
    refine pw_iload dX8_lowest_6 rfl ?_
    refine pw_i2l dX8_lowest_8 ?_
    skip
    refine pw_lret dX8_lowest_9 rfl ?_
    subst hA0
    rcases hpa with e | e
    · subst e
      exact ⟨by rw [if_pos rfl, Nat.zero_div]; rfl, rfl⟩
    · subst e
      exact ⟨by rw [gcL_gcd hn0, Nat.gcd_zero_left, if_neg (by decide), Nat.div_self hn0]; rfl, rfl⟩

set_option maxHeartbeats 4000000 in
set_option maxRecDepth 100000 in
theorem T_X8_odds {l : Launch} {μ : PM} {B : BK} {V : VW} {nm sk st : Nat → Int32} {nj nh : Nat} {sd ms mu pa : Int32} (hL : okL μ B V) (h1 : V 0 1 = nI nj) (hj5 : nj ≤ 5) (h5 : V 0 5 = nI nh) (hh6 : nh ≤ 6) (hpw : ∀ j h, j < nj → h < nh → pwOK V j h) : CT l SM yX8_odds cX8_odds 9 (some .long) 7 [.ref 0, .int sd, .int ms, .int mu, .int pa] (mm μ V nm sk st 0) (QL fun x m => x = oddsF B V nj nh sd ms mu pa ∧ ∃ nm2 sk2 st2, m = mm μ V nm2 sk2 st2 0) := by
  refine CT.of rfl (Nat.le_of_ble_eq_true rfl) ?_
  show PW l SM RX8 cX8_odds 9 (some .long) 7 _ 0 [(0, .ref 0), (1, .int sd), (2, .int ms), (3, .int mu), (4, .int pa)] [] (mm μ V nm sk st 0)
  refine pw_iload_n dX8_odds_0 rfl rfl ?_
  refine pw_iconst (v := 0) dX8_odds_1 rfl ?_
  refine pw_ldcw dX8_odds_2 k_X8_286 ?_
  refine pw_cSi dX8_odds_5 ms_X8_78 T_X8_in rfl rfl (Nat.le_of_ble_eq_true rfl) (by decide) (fun x_5 m_5 h_5 => ?_)
  obtain ⟨rfl, rfl⟩ := h_5
  refine pw_if_eq (tgt := 60) dX8_odds_8 (by decide) (fun c_8 => ?_) (fun c_8 => ?_)
  · skip
    have hb_8 := b2_0 c_8
    refine pw_iconst (v := 0) dX8_odds_60 rfl ?_
    refine pw_istore (ls2 := [(5, _), (0, _), (1, _), (2, _), (3, _), (4, _)]) dX8_odds_61 (by decide) rfl ?_
    refine pw_iload dX8_odds_63 rfl ?_
    refine pw_if_eq (tgt := 75) dX8_odds_65 (by decide) (fun c_65 => ?_) (fun c_65 => ?_)
    · skip
      refine pw_ldc2 dX8_odds_75 k_X8_253 ?_
      refine pw_lret dX8_odds_78 rfl ?_
      exact ⟨Eq.symm (by unfold oddsF; rw [hb_8]; simp; rfl), _, _, _, rfl⟩
    · skip
      exact absurd rfl c_65
  · skip
    have hb_8 := b2_n c_8
    refine pw_iload_n dX8_odds_11 rfl rfl ?_
    refine pw_iconst (v := 0) dX8_odds_12 rfl ?_
    refine pw_sipush (v := 5050) dX8_odds_13 rfl ?_
    refine pw_cSi dX8_odds_16 ms_X8_78 T_X8_in rfl rfl (Nat.le_of_ble_eq_true rfl) (by decide) (fun x_16 m_16 h_16 => ?_)
    obtain ⟨rfl, rfl⟩ := h_16
    refine pw_if_eq (tgt := 60) dX8_odds_19 (by decide) (fun c_19 => ?_) (fun c_19 => ?_)
    · skip
      have hb_19 := b2_0 c_19
      refine pw_iconst (v := 0) dX8_odds_60 rfl ?_
      refine pw_istore (ls2 := [(5, _), (0, _), (1, _), (2, _), (3, _), (4, _)]) dX8_odds_61 (by decide) rfl ?_
      refine pw_iload dX8_odds_63 rfl ?_
      refine pw_if_eq (tgt := 75) dX8_odds_65 (by decide) (fun c_65 => ?_) (fun c_65 => ?_)
      · skip
        refine pw_ldc2 dX8_odds_75 k_X8_253 ?_
        refine pw_lret dX8_odds_78 rfl ?_
        exact ⟨Eq.symm (odds_no (fun q hq e w => by
          have h : q ≤ 5050 := by omega
          have h2 : inF (nI q) 0 (nI 5050) = true := in_le h (by decide)
          rw [e] at hb_19
          exact absurd (h2.symm.trans hb_19) (by decide))), _, _, _, rfl⟩
      · skip
        exact absurd rfl c_65
    · skip
      have hb_19 := b2_n c_19
      obtain ⟨q, hq, rfl⟩ := in_trueL (n := 5050) hb_19 (by decide)
      refine pw_iload_n dX8_odds_22 rfl rfl ?_
      refine pw_bipush (v := 100) dX8_odds_23 rfl ?_
      refine pw_irem dX8_odds_25 (by decide) ?_
      refine pw_top (y := nI (q % 100)) (pk_rem (by omega) (by decide) (by decide)) ?_
      refine pw_iconst (v := 1) dX8_odds_26 rfl ?_
      refine pw_bipush (v := 50) dX8_odds_27 rfl ?_
      refine pw_cSi dX8_odds_29 ms_X8_78 T_X8_in rfl rfl (Nat.le_of_ble_eq_true rfl) (by decide) (fun x_29 m_29 h_29 => ?_)
      obtain ⟨rfl, rfl⟩ := h_29
      refine pw_if_eq (tgt := 60) dX8_odds_32 (by decide) (fun c_32 => ?_) (fun c_32 => ?_)
      · skip
        have hb_32 := b2_0 c_32
        refine pw_iconst (v := 0) dX8_odds_60 rfl ?_
        refine pw_istore (ls2 := [(5, _), (0, _), (1, _), (2, _), (3, _), (4, _)]) dX8_odds_61 (by decide) rfl ?_
        refine pw_iload dX8_odds_63 rfl ?_
        refine pw_if_eq (tgt := 75) dX8_odds_65 (by decide) (fun c_65 => ?_) (fun c_65 => ?_)
        · skip
          refine pw_ldc2 dX8_odds_75 k_X8_253 ?_
          refine pw_lret dX8_odds_78 rfl ?_
          exact ⟨Eq.symm (odds_no (fun q2 hq2 e w => by
            have e2 := (nI_eq (by omega) hq2).mp e
            subst e2
            rw [inI1 w.2.1 w.2.2] at hb_32
            cases hb_32)), _, _, _, rfl⟩
        · skip
          exact absurd rfl c_65
      · skip
        have hb_32 := b2_n c_32
        refine pw_iload_n dX8_odds_35 rfl rfl ?_
        refine pw_iconst (v := 0) dX8_odds_36 rfl ?_
        refine pw_sipush (v := 9999) dX8_odds_37 rfl ?_
        refine pw_cSi dX8_odds_40 ms_X8_78 T_X8_in rfl rfl (Nat.le_of_ble_eq_true rfl) (by decide) (fun x_40 m_40 h_40 => ?_)
        obtain ⟨rfl, rfl⟩ := h_40
        refine pw_if_eq (tgt := 60) dX8_odds_43 (by decide) (fun c_43 => ?_) (fun c_43 => ?_)
        · skip
          have hb_43 := b2_0 c_43
          refine pw_iconst (v := 0) dX8_odds_60 rfl ?_
          refine pw_istore (ls2 := [(5, _), (0, _), (1, _), (2, _), (3, _), (4, _)]) dX8_odds_61 (by decide) rfl ?_
          refine pw_iload dX8_odds_63 rfl ?_
          refine pw_if_eq (tgt := 75) dX8_odds_65 (by decide) (fun c_65 => ?_) (fun c_65 => ?_)
          · skip
            refine pw_ldc2 dX8_odds_75 k_X8_253 ?_
            refine pw_lret dX8_odds_78 rfl ?_
            exact ⟨Eq.symm (by unfold oddsF; rw [hb_43]; simp; rfl), _, _, _, rfl⟩
          · skip
            exact absurd rfl c_65
        · skip
          have hb_43 := b2_n c_43
          refine pw_iload dX8_odds_46 rfl ?_
          refine pw_iconst (v := 0) dX8_odds_48 rfl ?_
          refine pw_iconst (v := 1) dX8_odds_49 rfl ?_
          refine pw_cSi dX8_odds_50 ms_X8_78 T_X8_in rfl rfl (Nat.le_of_ble_eq_true rfl) (by decide) (fun x_50 m_50 h_50 => ?_)
          obtain ⟨rfl, rfl⟩ := h_50
          refine pw_if_eq (tgt := 60) dX8_odds_53 (by decide) (fun c_53 => ?_) (fun c_53 => ?_)
          · skip
            have hb_53 := b2_0 c_53
            refine pw_iconst (v := 0) dX8_odds_60 rfl ?_
            refine pw_istore (ls2 := [(5, _), (0, _), (1, _), (2, _), (3, _), (4, _)]) dX8_odds_61 (by decide) rfl ?_
            refine pw_iload dX8_odds_63 rfl ?_
            refine pw_if_eq (tgt := 75) dX8_odds_65 (by decide) (fun c_65 => ?_) (fun c_65 => ?_)
            · skip
              refine pw_ldc2 dX8_odds_75 k_X8_253 ?_
              refine pw_lret dX8_odds_78 rfl ?_
              exact ⟨Eq.symm (by unfold oddsF; rw [hb_53]; simp; rfl), _, _, _, rfl⟩
            · skip
              exact absurd rfl c_65
          · skip
            have hb_53 := b2_n c_53
            refine pw_iconst (v := 1) dX8_odds_56 rfl ?_
            refine pw_goto (tgt := 61) dX8_odds_57 (by decide) ?_
            refine pw_istore (ls2 := [(5, _), (0, _), (1, _), (2, _), (3, _), (4, _)]) dX8_odds_61 (by decide) rfl ?_
            refine pw_iload dX8_odds_63 rfl ?_
            refine pw_if_eq (tgt := 75) dX8_odds_65 (by decide) (fun c_65 => ?_) (fun c_65 => ?_)
            · skip
              exact absurd c_65 (by decide)
            · skip
              refine pw_aload_n dX8_odds_68 rfl rfl ?_
              refine pw_cVi dX8_odds_69 mv_X8_205 ckModel (T_X8_allMany h1 h5 hj5 hh6) rfl rfl (Nat.le_of_ble_eq_true rfl) (by decide) (fun x_69 m_69 h_69 => ?_)
              obtain ⟨rfl, rfl⟩ := h_69
              refine pw_if_ne (tgt := 79) dX8_odds_72 (by decide) (fun c_72 => ?_) (fun c_72 => ?_)
              · skip
                have hnm : 0 < nj * nh := by
                  rcases Nat.eq_zero_or_pos (nj * nh) with q | q
                  · rw [q] at c_72; exact absurd rfl c_72
                  · exact q
                have hp : 0 < nh := by
                  rcases Nat.eq_zero_or_pos nh with q | q
                  · subst q; omega
                  · exact q
                have hpj : 0 < nj := by
                  rcases Nat.eq_zero_or_pos nj with q | q
                  · subst q; omega
                  · exact q
                have hcan : canF nj nh = true := by unfold canF; rw [decide_eq_true hpj, decide_eq_true hp]; rfl
                obtain ⟨sd, hsd, rfl⟩ := in_trueL (n := 99999) hb_8 (by decide)
                have hsc1 : q % 100 ≤ 50 := by
                  obtain ⟨z, hz, ez⟩ := in_trueL (n := 50) (inF_up hb_32) (by decide)
                  have := (nI_eq (by omega) (by omega)).mp ez
                  omega
                have hsc0 : 1 ≤ q % 100 := by
                  rcases Nat.eq_zero_or_pos (q % 100) with g | g
                  · rw [g] at hb_32; exact absurd hb_32 (by decide)
                  · exact g
                have hok : oddsF B V nj nh (nI sd) (nI q) mu pa = lN ((if pa = 0 then odA B V nj nh sd q mu else q % 100) / gcL (odA B V nj nh sd q mu) (q % 100) (q % 100)) := by
                  unfold oddsF
                  rw [show inF (nI sd) 0 99999 = true from hb_8, hb_43, hb_53, decide_eq_false (nI_pos (show q < 2 ^ 31 by omega)), hcan, cl_nI (show sd < 2 ^ 31 by omega), cl_nI (show q < 2 ^ 31 by omega)]
                  show odF B V nj nh sd q mu pa = _
                  unfold odF
                  rw [if_pos ⟨by omega, hsc0, hsc1⟩]
                refine pw_lconst dX8_odds_79 rfl ?_
                refine pw_lstore (ls2 := [(6, _), (5, _), (0, _), (1, _), (2, _), (3, _), (4, _)]) dX8_odds_80 (by decide) rfl ?_
                refine pw_iconst (v := 0) dX8_odds_82 rfl ?_
                refine pw_istore (ls2 := [(8, _), (6, _), (5, _), (0, _), (1, _), (2, _), (3, _), (4, _)]) dX8_odds_83 (by decide) rfl ?_
                have L_85 : ∀ (fu_85 : Nat) (k ab : Nat) (nm sk st : Nat → Int32), (k ≤ q % 100) → (ab ≤ k) → (abL B V nj nh sd (q / 100) mu (q % 100 - k) k ab = odA B V nj nh sd q mu) → q % 100 - k < fu_85 → PW l SM RX8 cX8_odds 9 (some .long) 7 (QL fun x m => x = oddsF B V nj nh (nI sd) (nI q) mu pa ∧ ∃ nm2 sk2 st2, m = mm μ V nm2 sk2 st2 0) 85 [(0, .ref 0), (1, .int (nI sd)), (2, .int (nI q)), (3, .int mu), (4, .int pa), (6, .long (lN ab)), (8, .int (nI k))] [] (mm μ V nm sk st 0) := by
                  intro fu_85
                  induction fu_85 with
                  | zero =>
                    intro k ab nm sk st hk hab hx hm_85
                    exact absurd hm_85 (Nat.not_lt_zero _)
                  | succ fu_85 ih_85 =>
                    intro k ab nm sk st hk hab hx hm_85
                    refine pw_iload dX8_odds_85 rfl ?_
                    refine pw_iload_n dX8_odds_87 rfl rfl ?_
                    refine pw_bipush (v := 100) dX8_odds_88 rfl ?_
                    refine pw_irem dX8_odds_90 (by decide) ?_
                    refine pw_top (y := nI (q % 100)) (pk_rem (by omega) (by decide) (by decide)) ?_
                    refine pw_icmp_ge (tgt := 126) dX8_odds_91 (by decide) (fun c_91 => ?_) (fun c_91 => ?_)
                    · skip
                      have hge := nI_geD (by omega) c_91
                      rw [show q % 100 - k = 0 by omega] at hx
                      change ab = _ at hx
                      refine pw_lload dX8_odds_126 rfl ?_
                      refine pw_iload_n dX8_odds_128 rfl rfl ?_
                      refine pw_bipush (v := 100) dX8_odds_129 rfl ?_
                      refine pw_irem dX8_odds_131 (by decide) ?_
                      refine pw_top (y := nI (q % 100)) (pk_rem (by omega) (by decide) (by decide)) ?_
                      refine pw_i2l dX8_odds_132 ?_
                      refine pw_topl (y := lN (q % 100)) (nI_l (by omega)) ?_
                      refine pw_iload dX8_odds_133 rfl ?_
                      refine pw_cSl dX8_odds_135 ms_X8_290 (T_X8_lowest (A := ab) (n := q % 100) (by omega) (by omega) (by omega) (in_01 hb_53)) rfl rfl (Nat.le_of_ble_eq_true rfl) (by decide) (fun x_135 m_135 h_135 => ?_)
                      obtain ⟨rfl, rfl⟩ := h_135
                      refine pw_lret dX8_odds_138 rfl ?_
                      exact ⟨by rw [hok, hx], _, _, _, rfl⟩
                    · skip
                      have hlt := nI_ltD (by omega) c_91
                      refine pw_lload dX8_odds_94 rfl ?_
                      refine pw_aload_n dX8_odds_96 rfl rfl ?_
                      refine pw_iload_n dX8_odds_97 rfl rfl ?_
                      refine pw_iload dX8_odds_98 rfl ?_
                      refine pw_iadd dX8_odds_100 ?_
                      refine pw_top (y := nI (sd + k)) (nI_add _ _) ?_
                      refine pw_iload_n dX8_odds_101 rfl rfl ?_
                      refine pw_bipush (v := 100) dX8_odds_102 rfl ?_
                      refine pw_idiv dX8_odds_104 (by decide) ?_
                      refine pw_top (y := nI (q / 100)) (pk_div (by omega) (by decide) (by decide)) ?_
                      refine pw_cVi dX8_odds_105 mv_X8_287 ckModel (T_X8_drawnBy (sd := sd + k) (n := q / 100) hL h1 hj5 h5 hh6 hpw hpj hp (by omega) (by omega)) rfl rfl (Nat.le_of_ble_eq_true rfl) (by decide) (fun x_105 m_105 h_105 => ?_)
                      obtain ⟨rfl, nm1, sk1, st1, rfl⟩ := h_105
                      refine pw_iload_n dX8_odds_108 rfl rfl ?_
                      refine pw_icmp_lt (tgt := 116) dX8_odds_109 (by decide) (fun c_109 => ?_) (fun c_109 => ?_)
                      · skip
                        refine pw_lconst dX8_odds_116 rfl ?_
                        refine pw_ladd dX8_odds_117 ?_
                        refine pw_topl (y := lN ab) (Int64.add_zero _) ?_
                        refine pw_lstore (ls2 := [(6, _), (0, _), (1, _), (2, _), (3, _), (4, _), (8, _)]) dX8_odds_118 (by decide) rfl ?_
                        refine pw_iinc (ls2 := [(8, _), (6, _), (0, _), (1, _), (2, _), (3, _), (4, _)]) (v := nI (k + 1)) dX8_odds_120 rfl (inc1 k) (by decide) rfl ?_
                        refine pw_goto (tgt := 85) dX8_odds_123 (by decide) ?_
                        refine pw_sub [2, 3, 4, 5, 6, 1, 0] rfl ?_
                        exact ih_85 (k + 1) ab nm1 sk1 st1 hlt (by omega) (by rw [← hx, show q % 100 - k = (q % 100 - (k + 1)) + 1 by omega]; show _ = abL B V nj nh sd _ mu _ (k + 1) (if _ then _ else _); rw [if_pos c_109]) (by omega)
                      · skip
                        refine pw_lconst dX8_odds_112 rfl ?_
                        refine pw_goto (tgt := 117) dX8_odds_113 (by decide) ?_
                        refine pw_ladd dX8_odds_117 ?_
                        refine pw_topl (y := lN (ab + 1)) (lN_1 ab) ?_
                        refine pw_lstore (ls2 := [(6, _), (0, _), (1, _), (2, _), (3, _), (4, _), (8, _)]) dX8_odds_118 (by decide) rfl ?_
                        refine pw_iinc (ls2 := [(8, _), (6, _), (0, _), (1, _), (2, _), (3, _), (4, _)]) (v := nI (k + 1)) dX8_odds_120 rfl (inc1 k) (by decide) rfl ?_
                        refine pw_goto (tgt := 85) dX8_odds_123 (by decide) ?_
                        refine pw_sub [2, 3, 4, 5, 6, 1, 0] rfl ?_
                        exact ih_85 (k + 1) (ab + 1) nm1 sk1 st1 hlt (by omega) (by rw [← hx, show q % 100 - k = (q % 100 - (k + 1)) + 1 by omega]; show _ = abL B V nj nh sd _ mu _ (k + 1) (if _ then _ else _); rw [if_neg c_109]) (by omega)
                refine pw_sub [3, 4, 5, 6, 7, 1, 0] rfl ?_
                exact L_85 (q % 100 + 1) 0 0 nm sk st (Nat.zero_le _) (Nat.le_refl _) rfl (by omega)
              · skip
                have hmul : nj * nh ≤ 30 := Nat.mul_le_mul hj5 hh6
                have hnm0 : nj * nh = 0 := (nI_eq (b := 0) (by omega) (by decide)).mp c_72
                have hcan : canF nj nh = false := by
                  unfold canF
                  rcases Nat.mul_eq_zero.mp hnm0 with q | q
                  · rw [q]; rfl
                  · rw [q]; exact Bool.and_false _
                refine pw_ldc2 dX8_odds_75 k_X8_253 ?_
                refine pw_lret dX8_odds_78 rfl ?_
                exact ⟨Eq.symm (by unfold oddsF; rw [hcan]; simp; rfl), _, _, _, rfl⟩

set_option maxHeartbeats 4000000 in
set_option maxRecDepth 100000 in
theorem T_X8_feed {l : Launch} {μ : PM} {V : VW} {nm sk st : Nat → Int32} {sn : Int32} {n : Nat} {k0 a b c d e : Int32} (hz : μ.1 0 9 = nI n) (hn : n ≤ 160) : CT l SM yX8_feed cX8_feed 8 (some .int) 3 [.ref 0, .int k0, .int a, .int b, .int c, .int d, .int e] (mm μ V nm sk st sn) (QI fun x m => x = feedX n k0 a b c d e ∧ m = mm (feedN μ n k0 a b c d e) V nm sk st sn) := by
  refine CT.of rfl (Nat.le_of_ble_eq_true rfl) ?_
  show PW l SM RX8 cX8_feed 8 (some .int) 3 _ 0 [(0, .ref 0), (1, .int k0), (2, .int a), (3, .int b), (4, .int c), (5, .int d), (6, .int e)] [] (mm μ V nm sk st sn)
  refine pw_iload_n dX8_feed_0 rfl rfl ?_
  refine pw_iconst (v := 1) dX8_feed_1 rfl ?_
  refine pw_iconst (v := 5) dX8_feed_2 rfl ?_
  refine pw_cSi dX8_feed_3 ms_X8_78 T_X8_in rfl rfl (Nat.le_of_ble_eq_true rfl) (by decide) (fun x_3 m_3 h_3 => ?_)
  obtain ⟨rfl, rfl⟩ := h_3
  refine pw_if_eq (tgt := 47) dX8_feed_6 (by decide) (fun c_6 => ?_) (fun c_6 => ?_)
  · skip
    have hb_6 := b2_0 c_6
    refine pw_bipush (v := (-2)) dX8_feed_47 rfl ?_
    refine pw_iret dX8_feed_49 rfl ?_
    exact ⟨by unfold feedX bytesF; rw [hb_6]; rfl, by unfold feedN bytesF; rw [hb_6]; rfl⟩
  · skip
    have hb_6 := b2_n c_6
    refine pw_iload_n dX8_feed_9 rfl rfl ?_
    refine pw_cSi dX8_feed_10 ms_X8_97 T_X8_isByte rfl rfl (Nat.le_of_ble_eq_true rfl) (by decide) (fun x_10 m_10 h_10 => ?_)
    obtain ⟨rfl, rfl⟩ := h_10
    refine pw_if_eq (tgt := 47) dX8_feed_13 (by decide) (fun c_13 => ?_) (fun c_13 => ?_)
    · skip
      have hb_13 := b2_0 c_13
      refine pw_bipush (v := (-2)) dX8_feed_47 rfl ?_
      refine pw_iret dX8_feed_49 rfl ?_
      exact ⟨by unfold feedX bytesF; rw [hb_6, hb_13]; rfl, by unfold feedN bytesF; rw [hb_6, hb_13]; rfl⟩
    · skip
      have hb_13 := b2_n c_13
      refine pw_iload_n dX8_feed_16 rfl rfl ?_
      refine pw_cSi dX8_feed_17 ms_X8_97 T_X8_isByte rfl rfl (Nat.le_of_ble_eq_true rfl) (by decide) (fun x_17 m_17 h_17 => ?_)
      obtain ⟨rfl, rfl⟩ := h_17
      refine pw_if_eq (tgt := 47) dX8_feed_20 (by decide) (fun c_20 => ?_) (fun c_20 => ?_)
      · skip
        have hb_20 := b2_0 c_20
        refine pw_bipush (v := (-2)) dX8_feed_47 rfl ?_
        refine pw_iret dX8_feed_49 rfl ?_
        exact ⟨by unfold feedX bytesF; rw [hb_6, hb_13, hb_20]; rfl, by unfold feedN bytesF; rw [hb_6, hb_13, hb_20]; rfl⟩
      · skip
        have hb_20 := b2_n c_20
        refine pw_iload dX8_feed_23 rfl ?_
        refine pw_cSi dX8_feed_25 ms_X8_97 T_X8_isByte rfl rfl (Nat.le_of_ble_eq_true rfl) (by decide) (fun x_25 m_25 h_25 => ?_)
        obtain ⟨rfl, rfl⟩ := h_25
        refine pw_if_eq (tgt := 47) dX8_feed_28 (by decide) (fun c_28 => ?_) (fun c_28 => ?_)
        · skip
          have hb_28 := b2_0 c_28
          refine pw_bipush (v := (-2)) dX8_feed_47 rfl ?_
          refine pw_iret dX8_feed_49 rfl ?_
          exact ⟨by unfold feedX bytesF; rw [hb_6, hb_13, hb_20, hb_28]; rfl, by unfold feedN bytesF; rw [hb_6, hb_13, hb_20, hb_28]; rfl⟩
        · skip
          have hb_28 := b2_n c_28
          refine pw_iload dX8_feed_31 rfl ?_
          refine pw_cSi dX8_feed_33 ms_X8_97 T_X8_isByte rfl rfl (Nat.le_of_ble_eq_true rfl) (by decide) (fun x_33 m_33 h_33 => ?_)
          obtain ⟨rfl, rfl⟩ := h_33
          refine pw_if_eq (tgt := 47) dX8_feed_36 (by decide) (fun c_36 => ?_) (fun c_36 => ?_)
          · skip
            have hb_36 := b2_0 c_36
            refine pw_bipush (v := (-2)) dX8_feed_47 rfl ?_
            refine pw_iret dX8_feed_49 rfl ?_
            exact ⟨by unfold feedX bytesF; rw [hb_6, hb_13, hb_20, hb_28, hb_36]; rfl, by unfold feedN bytesF; rw [hb_6, hb_13, hb_20, hb_28, hb_36]; rfl⟩
          · skip
            have hb_36 := b2_n c_36
            refine pw_iload dX8_feed_39 rfl ?_
            refine pw_cSi dX8_feed_41 ms_X8_97 T_X8_isByte rfl rfl (Nat.le_of_ble_eq_true rfl) (by decide) (fun x_41 m_41 h_41 => ?_)
            obtain ⟨rfl, rfl⟩ := h_41
            refine pw_if_ne (tgt := 50) dX8_feed_44 (by decide) (fun c_44 => ?_) (fun c_44 => ?_)
            · skip
              have hb_44 := b2_n c_44
              obtain ⟨kk, hk1, hk5, rfl⟩ := in_15 hb_6
              have hby : (inF (nI kk) 1 5 && bytesF a b c d e) = true := by unfold bytesF; rw [hb_6, hb_13, hb_20, hb_28, hb_36, hb_44]; rfl
              have hck : cl (nI kk) = kk := cl_nI (by omega)
              refine pw_aload_n dX8_feed_50 rfl rfl ?_
              refine pw_getI dX8_feed_51 fa_X8_67 rfl ?_
              refine pw_top (y := nI n) hz ?_
              refine pw_iload_n dX8_feed_54 rfl rfl ?_
              refine pw_iadd dX8_feed_55 ?_
              refine pw_sipush (v := 160) dX8_feed_56 rfl ?_
              refine pw_top2 (y := nI (n + kk)) (nI_add _ _) ?_
              refine pw_icmp_le (tgt := 65) dX8_feed_59 (by decide) (fun c_59 => ?_) (fun c_59 => ?_)
              · skip
                have hfit : n + kk ≤ 160 := (nI_leI (b := 160) (by omega) (by decide)).mp c_59
                refine pw_iconst (v := 0) dX8_feed_65 rfl ?_
                refine pw_istore (ls2 := [(7, _), (0, _), (1, _), (2, _), (3, _), (4, _), (5, _), (6, _)]) dX8_feed_66 (by decide) rfl ?_
                have L_68 : ∀ (fu_68 : Nat) (k : Nat), (k ≤ kk) → kk - k < fu_68 → PW l SM RX8 cX8_feed 8 (some .int) 3 (QI fun x m => x = feedX n (nI kk) a b c d e ∧ m = mm (feedN μ n (nI kk) a b c d e) V nm sk st sn) 68 [(0, .ref 0), (1, .int (nI kk)), (2, .int a), (3, .int b), (4, .int c), (5, .int d), (6, .int e), (7, .int (nI k))] [] (mm (fdM μ n (feG a b c d e) k) V nm sk st sn) := by
                  intro fu_68
                  induction fu_68 with
                  | zero =>
                    intro k hk hm_68
                    exact absurd hm_68 (Nat.not_lt_zero _)
                  | succ fu_68 ih_68 =>
                    intro k hk hm_68
                    refine pw_iload dX8_feed_68 rfl ?_
                    refine pw_iload_n dX8_feed_70 rfl rfl ?_
                    refine pw_icmp_ge (tgt := 142) dX8_feed_71 (by decide) (fun c_71 => ?_) (fun c_71 => ?_)
                    · skip
                      have hge := nI_geD (by omega) c_71
                      refine pw_aload_n dX8_feed_142 rfl rfl ?_
                      refine pw_getI dX8_feed_143 fa_X8_67 rfl ?_
                      refine pw_top (y := nI (n + k)) (fdM_9 hz k) ?_
                      refine pw_iret dX8_feed_146 rfl ?_
                      have ek : k = kk := by omega
                      subst ek
                      exact ⟨by unfold feedX; rw [if_pos hby, hck, if_pos hfit], by unfold feedN; rw [if_pos hby, hck, if_pos hfit]⟩
                    · skip
                      have hlt := nI_ltD (by omega) c_71
                      refine pw_aload_n dX8_feed_74 rfl rfl ?_
                      refine pw_getR dX8_feed_75 fa_X8_25 rfl ?_
                      refine pw_aload_n dX8_feed_78 rfl rfl ?_
                      refine pw_getI dX8_feed_79 fa_X8_67 rfl ?_
                      refine pw_top (y := nI (n + k)) (fdM_9 hz k) ?_
                      refine pw_iload dX8_feed_82 rfl ?_
                      refine pw_if_ne (tgt := 91) dX8_feed_84 (by decide) (fun c_84 => ?_) (fun c_84 => ?_)
                      · skip
                        have d0 : ¬ k = 0 := nk0 (by omega) (by decide) c_84
                        refine pw_iload dX8_feed_91 rfl ?_
                        refine pw_iconst (v := 1) dX8_feed_93 rfl ?_
                        refine pw_icmp_ne (tgt := 101) dX8_feed_94 (by decide) (fun c_94 => ?_) (fun c_94 => ?_)
                        · skip
                          have d1 : ¬ k = 1 := nk0 (by omega) (by decide) c_94
                          refine pw_iload dX8_feed_101 rfl ?_
                          refine pw_iconst (v := 2) dX8_feed_103 rfl ?_
                          refine pw_icmp_ne (tgt := 112) dX8_feed_104 (by decide) (fun c_104 => ?_) (fun c_104 => ?_)
                          · skip
                            have d2 : ¬ k = 2 := nk0 (by omega) (by decide) c_104
                            refine pw_iload dX8_feed_112 rfl ?_
                            refine pw_iconst (v := 3) dX8_feed_114 rfl ?_
                            refine pw_icmp_ne (tgt := 123) dX8_feed_115 (by decide) (fun c_115 => ?_) (fun c_115 => ?_)
                            · skip
                              have d3 : ¬ k = 3 := nk0 (by omega) (by decide) c_115
                              refine pw_iload dX8_feed_123 rfl ?_
                              refine pw_top (y := feG a b c d e k) (by unfold feG; rw [if_neg d0, if_neg d1, if_neg d2, if_neg d3]) ?_
                              refine pw_iast (j := n + k) dX8_feed_125 rfl rfl (by omega) ?_
                              refine pw_mem m_6 ?_
                              refine pw_aload_n dX8_feed_126 rfl rfl ?_
                              refine pw_dup dX8_feed_127 rfl ?_
                              refine pw_getI dX8_feed_128 fa_X8_67 rfl ?_
                              refine pw_top (y := nI (n + k)) (fdM_9 hz k) ?_
                              refine pw_iconst (v := 1) dX8_feed_131 rfl ?_
                              refine pw_iadd dX8_feed_132 ?_
                              refine pw_top (y := nI (n + k + 1)) (nI_1 _) ?_
                              refine pw_putI dX8_feed_133 fa_X8_67 rfl ?_
                              refine pw_mem (m_0 (by decide) (by decide) (by decide) (by decide) (by decide)) ?_
                              refine pw_iinc (ls2 := [(7, _), (0, _), (1, _), (2, _), (3, _), (4, _), (5, _), (6, _)]) (v := nI (k + 1)) dX8_feed_136 rfl (inc1 k) (by decide) rfl ?_
                              refine pw_goto (tgt := 68) dX8_feed_139 (by decide) ?_
                              refine pw_sub [1, 2, 3, 4, 5, 6, 7, 0] rfl ?_
                              exact ih_68 (k + 1) hlt (by omega)
                            · skip
                              have d3 : k = 3 := (nI_eq (b := 3) (by omega) (by decide)).mp c_115
                              refine pw_iload dX8_feed_118 rfl ?_
                              refine pw_goto (tgt := 125) dX8_feed_120 (by decide) ?_
                              refine pw_top (y := feG a b c d e k) (by unfold feG; rw [if_neg d0, if_neg d1, if_neg d2, if_pos d3]) ?_
                              refine pw_iast (j := n + k) dX8_feed_125 rfl rfl (by omega) ?_
                              refine pw_mem m_6 ?_
                              refine pw_aload_n dX8_feed_126 rfl rfl ?_
                              refine pw_dup dX8_feed_127 rfl ?_
                              refine pw_getI dX8_feed_128 fa_X8_67 rfl ?_
                              refine pw_top (y := nI (n + k)) (fdM_9 hz k) ?_
                              refine pw_iconst (v := 1) dX8_feed_131 rfl ?_
                              refine pw_iadd dX8_feed_132 ?_
                              refine pw_top (y := nI (n + k + 1)) (nI_1 _) ?_
                              refine pw_putI dX8_feed_133 fa_X8_67 rfl ?_
                              refine pw_mem (m_0 (by decide) (by decide) (by decide) (by decide) (by decide)) ?_
                              refine pw_iinc (ls2 := [(7, _), (0, _), (1, _), (2, _), (3, _), (4, _), (5, _), (6, _)]) (v := nI (k + 1)) dX8_feed_136 rfl (inc1 k) (by decide) rfl ?_
                              refine pw_goto (tgt := 68) dX8_feed_139 (by decide) ?_
                              refine pw_sub [1, 2, 3, 4, 5, 6, 7, 0] rfl ?_
                              exact ih_68 (k + 1) hlt (by omega)
                          · skip
                            have d2 : k = 2 := (nI_eq (b := 2) (by omega) (by decide)).mp c_104
                            refine pw_iload dX8_feed_107 rfl ?_
                            refine pw_goto (tgt := 125) dX8_feed_109 (by decide) ?_
                            refine pw_top (y := feG a b c d e k) (by unfold feG; rw [if_neg d0, if_neg d1, if_pos d2]) ?_
                            refine pw_iast (j := n + k) dX8_feed_125 rfl rfl (by omega) ?_
                            refine pw_mem m_6 ?_
                            refine pw_aload_n dX8_feed_126 rfl rfl ?_
                            refine pw_dup dX8_feed_127 rfl ?_
                            refine pw_getI dX8_feed_128 fa_X8_67 rfl ?_
                            refine pw_top (y := nI (n + k)) (fdM_9 hz k) ?_
                            refine pw_iconst (v := 1) dX8_feed_131 rfl ?_
                            refine pw_iadd dX8_feed_132 ?_
                            refine pw_top (y := nI (n + k + 1)) (nI_1 _) ?_
                            refine pw_putI dX8_feed_133 fa_X8_67 rfl ?_
                            refine pw_mem (m_0 (by decide) (by decide) (by decide) (by decide) (by decide)) ?_
                            refine pw_iinc (ls2 := [(7, _), (0, _), (1, _), (2, _), (3, _), (4, _), (5, _), (6, _)]) (v := nI (k + 1)) dX8_feed_136 rfl (inc1 k) (by decide) rfl ?_
                            refine pw_goto (tgt := 68) dX8_feed_139 (by decide) ?_
                            refine pw_sub [1, 2, 3, 4, 5, 6, 7, 0] rfl ?_
                            exact ih_68 (k + 1) hlt (by omega)
                        · skip
                          have d1 : k = 1 := (nI_eq (b := 1) (by omega) (by decide)).mp c_94
                          refine pw_iload_n dX8_feed_97 rfl rfl ?_
                          refine pw_goto (tgt := 125) dX8_feed_98 (by decide) ?_
                          refine pw_top (y := feG a b c d e k) (by unfold feG; rw [if_neg d0, if_pos d1]) ?_
                          refine pw_iast (j := n + k) dX8_feed_125 rfl rfl (by omega) ?_
                          refine pw_mem m_6 ?_
                          refine pw_aload_n dX8_feed_126 rfl rfl ?_
                          refine pw_dup dX8_feed_127 rfl ?_
                          refine pw_getI dX8_feed_128 fa_X8_67 rfl ?_
                          refine pw_top (y := nI (n + k)) (fdM_9 hz k) ?_
                          refine pw_iconst (v := 1) dX8_feed_131 rfl ?_
                          refine pw_iadd dX8_feed_132 ?_
                          refine pw_top (y := nI (n + k + 1)) (nI_1 _) ?_
                          refine pw_putI dX8_feed_133 fa_X8_67 rfl ?_
                          refine pw_mem (m_0 (by decide) (by decide) (by decide) (by decide) (by decide)) ?_
                          refine pw_iinc (ls2 := [(7, _), (0, _), (1, _), (2, _), (3, _), (4, _), (5, _), (6, _)]) (v := nI (k + 1)) dX8_feed_136 rfl (inc1 k) (by decide) rfl ?_
                          refine pw_goto (tgt := 68) dX8_feed_139 (by decide) ?_
                          refine pw_sub [1, 2, 3, 4, 5, 6, 7, 0] rfl ?_
                          exact ih_68 (k + 1) hlt (by omega)
                      · skip
                        have d0 : k = 0 := (nI_eq (b := 0) (by omega) (by decide)).mp c_84
                        refine pw_iload_n dX8_feed_87 rfl rfl ?_
                        refine pw_goto (tgt := 125) dX8_feed_88 (by decide) ?_
                        refine pw_top (y := feG a b c d e k) (by unfold feG; rw [if_pos d0]) ?_
                        refine pw_iast (j := n + k) dX8_feed_125 rfl rfl (by omega) ?_
                        refine pw_mem m_6 ?_
                        refine pw_aload_n dX8_feed_126 rfl rfl ?_
                        refine pw_dup dX8_feed_127 rfl ?_
                        refine pw_getI dX8_feed_128 fa_X8_67 rfl ?_
                        refine pw_top (y := nI (n + k)) (fdM_9 hz k) ?_
                        refine pw_iconst (v := 1) dX8_feed_131 rfl ?_
                        refine pw_iadd dX8_feed_132 ?_
                        refine pw_top (y := nI (n + k + 1)) (nI_1 _) ?_
                        refine pw_putI dX8_feed_133 fa_X8_67 rfl ?_
                        refine pw_mem (m_0 (by decide) (by decide) (by decide) (by decide) (by decide)) ?_
                        refine pw_iinc (ls2 := [(7, _), (0, _), (1, _), (2, _), (3, _), (4, _), (5, _), (6, _)]) (v := nI (k + 1)) dX8_feed_136 rfl (inc1 k) (by decide) rfl ?_
                        refine pw_goto (tgt := 68) dX8_feed_139 (by decide) ?_
                        refine pw_sub [1, 2, 3, 4, 5, 6, 7, 0] rfl ?_
                        exact ih_68 (k + 1) hlt (by omega)
                refine pw_sub [1, 2, 3, 4, 5, 6, 7, 0] rfl ?_
                exact L_68 (kk + 1) 0 (Nat.zero_le _) (by omega)
              · skip
                have hfull : ¬ n + kk ≤ 160 := fun q => c_59 (nI_le (b := 160) q (by decide))
                refine pw_bipush (v := (-4)) dX8_feed_62 rfl ?_
                refine pw_iret dX8_feed_64 rfl ?_
                exact ⟨by unfold feedX; rw [if_pos hby, hck, if_neg hfull], by unfold feedN; rw [if_pos hby, hck, if_neg hfull]⟩
            · skip
              have hb_44 := b2_0 c_44
              refine pw_bipush (v := (-2)) dX8_feed_47 rfl ?_
              refine pw_iret dX8_feed_49 rfl ?_
              exact ⟨by unfold feedX bytesF; rw [hb_6, hb_13, hb_20, hb_28, hb_36, hb_44]; rfl, by unfold feedN bytesF; rw [hb_6, hb_13, hb_20, hb_28, hb_36, hb_44]; rfl⟩

