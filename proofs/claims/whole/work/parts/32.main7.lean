def putM (μ : PM) (n : Nat) (b : Int32) : PM := si (si μ 7 n b) 6 0 (nI (n + 1))
def putL : PM → Nat → List Int32 → PM
  | μ, _, [] => μ
  | μ, n, b :: t => putL (putM μ n b) (n + 1) t
def bytesF (a b c d e : Int32) : Bool := inF a 0 255 && (inF b 0 255 && (inF c 0 255 && (inF d 0 255 && inF e 0 255)))
def feedX (n : Nat) (k a b c d e : Int32) : Int32 := if inF k 1 5 && bytesF a b c d e then (if n + cl k ≤ 160 then nI (n + cl k) else -4) else -2
def feedM (μ : PM) (n : Nat) (k a b c d e : Int32) : PM := if inF k 1 5 && bytesF a b c d e then (if n + cl k ≤ 160 then putL μ n ([a, b, c, d, e].take (cl k)) else μ) else μ
theorem in_15 {k : Int32} (h : inF k 1 5 = true) : ∃ z, 1 ≤ z ∧ z ≤ 5 ∧ k = nI z := by
  obtain ⟨z, hz, rfl⟩ := in_trueL (n := 5) (inF_up h) (by decide)
  refine ⟨z, ?_, hz, rfl⟩
  rcases Nat.eq_zero_or_pos z with e | e
  · subst e; exact absurd h (by decide)
  · exact e
theorem sM_wr {μ : PM} {V : VW} {lv be : Int32} {r br ws : Nat → Int32} : sM (wr μ 22 V) lv be r br ws = wr (sM μ lv be r br ws) 22 V := by
  refine PM_ext (fun x => ?_) rfl
  show (if x = 13 then upd (upd ((wr μ 22 V).1 13) 1 lv) 2 be else if x = 14 then r else if x = 15 then br else if x = 16 then ws else (wr μ 22 V).1 x) = if 22 ≤ x ∧ x < 22 + 10 then V (x - 22) else (sM μ lv be r br ws).1 x
  by_cases h : 22 ≤ x ∧ x < 22 + 10
  · rw [if_pos h, if_neg (by omega), if_neg (by omega), if_neg (by omega), if_neg (by omega)]
    exact if_pos h
  · rw [if_neg h, rd_wrO (by omega)]
    show _ = if x = 13 then upd (upd (μ.1 13) 1 lv) 2 be else if x = 14 then r else if x = 15 then br else if x = 16 then ws else μ.1 x
    rw [rd_wrO (c := x) (by omega)]
theorem sM_id (μ : PM) : μ = sM μ (μ.1 13 1) (μ.1 13 2) (μ.1 14) (μ.1 15) (μ.1 16) := by
  refine PM_ext (fun x => ?_) rfl
  show μ.1 x = if x = 13 then upd (upd (μ.1 13) 1 (μ.1 13 1)) 2 (μ.1 13 2) else if x = 14 then μ.1 14 else if x = 15 then μ.1 15 else if x = 16 then μ.1 16 else μ.1 x
  by_cases e : x = 13
  · subst e
    rw [if_pos rfl]
    funext j
    by_cases h2 : j = 2
    · subst h2; rw [upd_s]
    · rw [upd_o _ _ h2]
      by_cases h1 : j = 1
      · subst h1; rw [upd_s]
      · rw [upd_o _ _ h1]
  · rw [if_neg e]
    by_cases e4 : x = 14
    · rw [if_pos e4, e4]
    · rw [if_neg e4]
      by_cases e5 : x = 15
      · rw [if_pos e5, e5]
      · rw [if_neg e5]
        by_cases e6 : x = 16
        · rw [if_pos e6, e6]
        · rw [if_neg e6]
theorem in_13 {k : Int32} (h : inF k 1 3 = true) : ∃ z, 1 ≤ z ∧ z ≤ 3 ∧ k = nI z := by
  obtain ⟨z, hz, rfl⟩ := in_trueL (n := 3) (inF_up h) (by decide)
  refine ⟨z, ?_, hz, rfl⟩
  rcases Nat.eq_zero_or_pos z with e | e
  · subst e; exact absurd h (by decide)
  · exact e
theorem in_m1 {w : Int32} {n : Nat} (hn : 1 ≤ n) (hn3 : n ≤ 3) (h : inF w (-1) (nI n - 1) = true) (hw : ¬ w < 0) : ∃ z, z < n ∧ w = nI z := by
  obtain ⟨z, hz, rfl⟩ := nI_of hw
  refine ⟨z, ?_, rfl⟩
  unfold inF at h
  simp only [Bool.and_eq_true, decide_eq_true_eq] at h
  have h2 := h.2
  rw [show nI n - 1 = nI (n - 1) from by obtain ⟨m, rfl⟩ : ∃ m, n = m + 1 := ⟨n - 1, by omega⟩; exact nI_pred m] at h2
  have := (nI_leI hz (by omega)).mp h2
  omega
def friX (be : Int32) (br : Nat → Int32) (nj nh : Nat) (n what : Int32) : Int32 := if inF n 1 3 && inF what (-1) (n - 1) then (if canF nj nh then (if 0 ≤ what then br (cl what) else be) else (if 0 ≤ what then -1 else 0)) else -2
set_option maxHeartbeats 4000000 in
set_option maxRecDepth 100000 in
theorem T_X7_friday {l : Launch} {μ : PM} {V T : VW} {nm sk : Nat → Int32} {nj nh : Nat} {n wh : Int32} (hc : okC μ V) (h1 : V 0 1 = nI nj) (hj5 : nj ≤ 5) (h5 : V 0 5 = nI nh) (hh6 : nh ≤ 6) : CT l SC yX7_friday cX7_friday 3 (some .int) 13 [.ref 0, .int n, .int wh] (sc (wr (wr μ 22 V) 32 T) nm sk) (QI fun x m => ∃ br be, ((x = friX be br nj nh n wh) ∧ ((inF n 1 3 && inF wh (-1) (n - 1)) = true → canF nj nh = true → relA be br (dsc (bk μ) nj nh (cl n) V [] 0 (-1, [])))) ∧ ∃ T2 nm2 sk2 lv2 be2 r2 br2 ws2, m = sc (wr (wr (sM μ lv2 be2 r2 br2 ws2) 22 V) 32 T2) nm2 sk2) := by
  refine CT.of rfl (Nat.le_of_ble_eq_true rfl) ?_
  show PW l SC RX7 cX7_friday 3 (some .int) 13 _ 0 [(0, .ref 0), (1, .int n), (2, .int wh)] [] (sc (wr (wr μ 22 V) 32 T) nm sk)
  refine pw_iload_n dX7_friday_0 rfl rfl ?_
  refine pw_iconst (v := 1) dX7_friday_1 rfl ?_
  refine pw_iconst (v := 3) dX7_friday_2 rfl ?_
  refine pw_cSi dX7_friday_3 ms_X7_116 T_X7_within rfl rfl (Nat.le_of_ble_eq_true rfl) (by decide) (fun x_3 m_3 h_3 => ?_)
  obtain ⟨rfl, rfl⟩ := h_3
  refine pw_if_eq (tgt := 20) dX7_friday_6 (by decide) (fun c_6 => ?_) (fun c_6 => ?_)
  · skip
    have hb_6 := b2_0 c_6
    refine pw_bipush (v := (-2)) dX7_friday_20 rfl ?_
    refine pw_iret dX7_friday_22 rfl ?_
    refine ⟨μ.1 15, 0, ?_, T, nm, sk, μ.1 13 1, μ.1 13 2, μ.1 14, μ.1 15, μ.1 16, by rw [← sM_id]⟩
    exact ⟨by unfold friX; rw [hb_6]; rfl, fun h => by rw [hb_6] at h; cases h⟩
  · skip
    have hb_6 := b2_n c_6
    refine pw_iload_n dX7_friday_9 rfl rfl ?_
    refine pw_iconst (v := (-1)) dX7_friday_10 rfl ?_
    refine pw_iload_n dX7_friday_11 rfl rfl ?_
    refine pw_iconst (v := 1) dX7_friday_12 rfl ?_
    refine pw_isub dX7_friday_13 ?_
    refine pw_cSi dX7_friday_14 ms_X7_116 T_X7_within rfl rfl (Nat.le_of_ble_eq_true rfl) (by decide) (fun x_14 m_14 h_14 => ?_)
    obtain ⟨rfl, rfl⟩ := h_14
    refine pw_if_ne (tgt := 23) dX7_friday_17 (by decide) (fun c_17 => ?_) (fun c_17 => ?_)
    · skip
      have hb_17 := b2_n c_17
      refine pw_aload_n dX7_friday_23 rfl rfl ?_
      refine pw_getR dX7_friday_24 fa_X7_28 rfl ?_
      refine pw_cVi dX7_friday_27 mv_X7_194 ckNow (canN h1 h5 hj5 hh6) rfl rfl (Nat.le_of_ble_eq_true rfl) (by decide) (fun x_27 m_27 h_27 => ?_)
      obtain ⟨rfl, rfl⟩ := h_27
      refine pw_if_ne (tgt := 43) dX7_friday_30 (by decide) (fun c_30 => ?_) (fun c_30 => ?_)
      · skip
        have hb_30 := b2_n c_30
        refine pw_aload_n dX7_friday_43 rfl rfl ?_
        refine pw_getR dX7_friday_44 fa_X7_32 rfl ?_
        refine pw_aload_n dX7_friday_47 rfl rfl ?_
        refine pw_getR dX7_friday_48 fa_X7_28 rfl ?_
        have hcan := canF_p hb_30
        obtain ⟨k, hk1, hk3, rfl⟩ := in_13 hb_6
        refine pw_cVv dX7_friday_51 mv_X7_197 ckThought (T_X6_copyFrom i32_22) rfl rfl (Nat.le_of_ble_eq_true rfl) (by decide) (fun m_51 h_51 => ?_)
        obtain rfl := h_51
        refine pw_aload_n dX7_friday_54 rfl rfl ?_
        refine pw_getR dX7_friday_55 fa_X7_47 rfl ?_
        refine pw_iload_n dX7_friday_58 rfl rfl ?_
        refine pw_cVv dX7_friday_59 mv_X7_200 ckSearch (T_X4_start (T := cpV V T) (okC_wr w22 (okC_V hc rfl)) h1 h5 hj5 hh6 hk1 hk3) rfl rfl (Nat.le_of_ble_eq_true rfl) (by decide) (fun m_59 h_59 => ?_)
        obtain ⟨nm1, sk1, be, r, br, ws, rfl, hrel⟩ := h_59
        rw [bk_wr w22, dsc_c k (EqV_mono hj5 hh6 cp_E)] at hrel
        have hcl : cl (nI k) = k := cl_nI (by omega)
        have hok : (inF (nI k) 1 3 && inF wh (-1) (nI k - 1)) = true := by rw [hb_6, hb_17]; rfl
        have hcf : canF nj nh = true := hb_30
        refine pw_iload_n dX7_friday_62 rfl rfl ?_
        refine pw_if_ge (tgt := 76) dX7_friday_63 (by decide) (fun c_63 => ?_) (fun c_63 => ?_)
        · skip
          obtain ⟨z, hzk, rfl⟩ := in_m1 hk1 hk3 hb_17 (Int32.not_lt.mpr c_63)
          refine pw_aload_n dX7_friday_76 rfl rfl ?_
          refine pw_getR dX7_friday_77 fa_X7_47 rfl ?_
          refine pw_iload_n dX7_friday_80 rfl rfl ?_
          refine pw_cVi dX7_friday_81 mv_X7_206 ckSearch (T_X4_bestAt (k0 := z) (by omega)) rfl rfl (Nat.le_of_ble_eq_true rfl) (by decide) (fun x_81 m_81 h_81 => ?_)
          obtain ⟨rfl, rfl⟩ := h_81
          refine pw_iret dX7_friday_84 rfl ?_
          exact ⟨br, be, ⟨by unfold friX; rw [hok, hcf, if_pos rfl, if_pos rfl, if_pos c_63, cl_nI (show z < 2 ^ 31 by omega)], fun _ _ => by rw [hcl]; exact hrel⟩, _, _, _, _, _, _, _, _, by rw [sM_wr]⟩
        · skip
          refine pw_aload_n dX7_friday_66 rfl rfl ?_
          refine pw_getR dX7_friday_67 fa_X7_47 rfl ?_
          refine pw_getI dX7_friday_70 fa_X7_203 rfl ?_
          refine pw_top (y := be) rfl ?_
          refine pw_goto (tgt := 84) dX7_friday_73 (by decide) ?_
          refine pw_iret dX7_friday_84 rfl ?_
          exact ⟨br, be, ⟨by unfold friX; rw [hok, hcf, if_pos rfl, if_pos rfl, if_neg c_63], fun _ _ => by rw [hcl]; exact hrel⟩, _, _, _, _, _, _, _, _, by rw [sM_wr]⟩
      · skip
        have hb_30 := b2_0 c_30
        refine pw_iload_n dX7_friday_33 rfl rfl ?_
        refine pw_if_ge (tgt := 41) dX7_friday_34 (by decide) (fun c_34 => ?_) (fun c_34 => ?_)
        · skip
          refine pw_iconst (v := (-1)) dX7_friday_41 rfl ?_
          refine pw_iret dX7_friday_42 rfl ?_
          refine ⟨μ.1 15, 0, ?_, T, nm, sk, μ.1 13 1, μ.1 13 2, μ.1 14, μ.1 15, μ.1 16, by rw [← sM_id]⟩
          exact ⟨by unfold friX canF; rw [hb_6, hb_17, hb_30, if_pos (by rfl), if_neg Bool.false_ne_true, if_pos c_34], fun _ h => by unfold canF at h; rw [hb_30] at h; cases h⟩
        · skip
          refine pw_iconst (v := 0) dX7_friday_37 rfl ?_
          refine pw_goto (tgt := 42) dX7_friday_38 (by decide) ?_
          refine pw_iret dX7_friday_42 rfl ?_
          refine ⟨μ.1 15, 0, ?_, T, nm, sk, μ.1 13 1, μ.1 13 2, μ.1 14, μ.1 15, μ.1 16, by rw [← sM_id]⟩
          exact ⟨by unfold friX canF; rw [hb_6, hb_17, hb_30, if_pos (by rfl), if_neg Bool.false_ne_true, if_neg c_34], fun _ h => by unfold canF at h; rw [hb_30] at h; cases h⟩
    · skip
      have hb_17 := b2_0 c_17
      refine pw_bipush (v := (-2)) dX7_friday_20 rfl ?_
      refine pw_iret dX7_friday_22 rfl ?_
      refine ⟨μ.1 15, 0, ?_, T, nm, sk, μ.1 13 1, μ.1 13 2, μ.1 14, μ.1 15, μ.1 16, by rw [← sM_id]⟩
      exact ⟨by unfold friX; rw [hb_6, hb_17]; rfl, fun h => by rw [hb_6, hb_17] at h; cases h⟩

set_option maxHeartbeats 4000000 in
set_option maxRecDepth 100000 in
theorem T_X7_feed {l : Launch} {μ : PM} {n : Nat} {k a b c d e : Int32} (hz : μ.1 6 0 = nI n) (hn : n ≤ 160) : CT l SC yX7_feed cX7_feed 7 (some .int) 4 [.ref 0, .int k, .int a, .int b, .int c, .int d, .int e] μ (QI fun x m => x = feedX n k a b c d e ∧ m = feedM μ n k a b c d e) := by
  refine CT.of rfl (Nat.le_of_ble_eq_true rfl) ?_
  show PW l SC RX7 cX7_feed 7 (some .int) 4 _ 0 [(0, .ref 0), (1, .int k), (2, .int a), (3, .int b), (4, .int c), (5, .int d), (6, .int e)] [] μ
  refine pw_iload_n dX7_feed_0 rfl rfl ?_
  refine pw_iconst (v := 1) dX7_feed_1 rfl ?_
  refine pw_iconst (v := 5) dX7_feed_2 rfl ?_
  refine pw_cSi dX7_feed_3 ms_X7_116 T_X7_within rfl rfl (Nat.le_of_ble_eq_true rfl) (by decide) (fun x_3 m_3 h_3 => ?_)
  obtain ⟨rfl, hm_3⟩ := h_3
  rw [hm_3]
  refine pw_if_eq (tgt := 47) dX7_feed_6 (by decide) (fun c_6 => ?_) (fun c_6 => ?_)
  · skip
    have hb_6 := b2_0 c_6
    refine pw_bipush (v := (-2)) dX7_feed_47 rfl ?_
    refine pw_iret dX7_feed_49 rfl ?_
    exact ⟨by unfold feedX bytesF; rw [hb_6]; rfl, by unfold feedM bytesF; rw [hb_6]; rfl⟩
  · skip
    have hb_6 := b2_n c_6
    refine pw_iload_n dX7_feed_9 rfl rfl ?_
    refine pw_cSi dX7_feed_10 ms_X7_120 T_X7_isByte rfl rfl (Nat.le_of_ble_eq_true rfl) (by decide) (fun x_10 m_10 h_10 => ?_)
    obtain ⟨rfl, hm_10⟩ := h_10
    rw [hm_10]
    refine pw_if_eq (tgt := 47) dX7_feed_13 (by decide) (fun c_13 => ?_) (fun c_13 => ?_)
    · skip
      have hb_13 := b2_0 c_13
      refine pw_bipush (v := (-2)) dX7_feed_47 rfl ?_
      refine pw_iret dX7_feed_49 rfl ?_
      exact ⟨by unfold feedX bytesF; rw [hb_6, hb_13]; rfl, by unfold feedM bytesF; rw [hb_6, hb_13]; rfl⟩
    · skip
      have hb_13 := b2_n c_13
      refine pw_iload_n dX7_feed_16 rfl rfl ?_
      refine pw_cSi dX7_feed_17 ms_X7_120 T_X7_isByte rfl rfl (Nat.le_of_ble_eq_true rfl) (by decide) (fun x_17 m_17 h_17 => ?_)
      obtain ⟨rfl, hm_17⟩ := h_17
      rw [hm_17]
      refine pw_if_eq (tgt := 47) dX7_feed_20 (by decide) (fun c_20 => ?_) (fun c_20 => ?_)
      · skip
        have hb_20 := b2_0 c_20
        refine pw_bipush (v := (-2)) dX7_feed_47 rfl ?_
        refine pw_iret dX7_feed_49 rfl ?_
        exact ⟨by unfold feedX bytesF; rw [hb_6, hb_13, hb_20]; rfl, by unfold feedM bytesF; rw [hb_6, hb_13, hb_20]; rfl⟩
      · skip
        have hb_20 := b2_n c_20
        refine pw_iload dX7_feed_23 rfl ?_
        refine pw_cSi dX7_feed_25 ms_X7_120 T_X7_isByte rfl rfl (Nat.le_of_ble_eq_true rfl) (by decide) (fun x_25 m_25 h_25 => ?_)
        obtain ⟨rfl, hm_25⟩ := h_25
        rw [hm_25]
        refine pw_if_eq (tgt := 47) dX7_feed_28 (by decide) (fun c_28 => ?_) (fun c_28 => ?_)
        · skip
          have hb_28 := b2_0 c_28
          refine pw_bipush (v := (-2)) dX7_feed_47 rfl ?_
          refine pw_iret dX7_feed_49 rfl ?_
          exact ⟨by unfold feedX bytesF; rw [hb_6, hb_13, hb_20, hb_28]; rfl, by unfold feedM bytesF; rw [hb_6, hb_13, hb_20, hb_28]; rfl⟩
        · skip
          have hb_28 := b2_n c_28
          refine pw_iload dX7_feed_31 rfl ?_
          refine pw_cSi dX7_feed_33 ms_X7_120 T_X7_isByte rfl rfl (Nat.le_of_ble_eq_true rfl) (by decide) (fun x_33 m_33 h_33 => ?_)
          obtain ⟨rfl, hm_33⟩ := h_33
          rw [hm_33]
          refine pw_if_eq (tgt := 47) dX7_feed_36 (by decide) (fun c_36 => ?_) (fun c_36 => ?_)
          · skip
            have hb_36 := b2_0 c_36
            refine pw_bipush (v := (-2)) dX7_feed_47 rfl ?_
            refine pw_iret dX7_feed_49 rfl ?_
            exact ⟨by unfold feedX bytesF; rw [hb_6, hb_13, hb_20, hb_28, hb_36]; rfl, by unfold feedM bytesF; rw [hb_6, hb_13, hb_20, hb_28, hb_36]; rfl⟩
          · skip
            have hb_36 := b2_n c_36
            refine pw_iload dX7_feed_39 rfl ?_
            refine pw_cSi dX7_feed_41 ms_X7_120 T_X7_isByte rfl rfl (Nat.le_of_ble_eq_true rfl) (by decide) (fun x_41 m_41 h_41 => ?_)
            obtain ⟨rfl, hm_41⟩ := h_41
            rw [hm_41]
            refine pw_if_ne (tgt := 50) dX7_feed_44 (by decide) (fun c_44 => ?_) (fun c_44 => ?_)
            · skip
              have hb_44 := b2_n c_44
              obtain ⟨k, hk1, hk5, rfl⟩ := in_15 hb_6
              have hby : (inF (nI k) 1 5 && bytesF a b c d e) = true := by unfold bytesF; rw [hb_6, hb_13, hb_20, hb_28, hb_36, hb_44]; rfl
              have hck : cl (nI k) = k := cl_nI (by omega)
              refine pw_aload_n dX7_feed_50 rfl rfl ?_
              refine pw_getR dX7_feed_51 fa_X7_19 rfl ?_
              refine pw_getI dX7_feed_54 fa_X7_115 rfl ?_
              refine pw_top (y := nI n) hz ?_
              refine pw_iload_n dX7_feed_57 rfl rfl ?_
              refine pw_iadd dX7_feed_58 ?_
              refine pw_top (y := nI (n + k)) (nI_add _ _) ?_
              refine pw_sipush (v := 160) dX7_feed_59 rfl ?_
              refine pw_icmp_le (tgt := 68) dX7_feed_62 (by decide) (fun c_62 => ?_) (fun c_62 => ?_)
              · skip
                have hfit : n + k ≤ 160 := (nI_leI (b := 160) (by omega) (by decide)).mp c_62
                have hX : feedX n (nI k) a b c d e = nI (n + k) := by unfold feedX; rw [if_pos hby, hck, if_pos hfit]
                have hM : feedM μ n (nI k) a b c d e = putL μ n ([a, b, c, d, e].take k) := by unfold feedM; rw [if_pos hby, hck, if_pos hfit]
                refine pw_aload_n dX7_feed_68 rfl rfl ?_
                refine pw_getR dX7_feed_69 fa_X7_19 rfl ?_
                refine pw_iload_n dX7_feed_72 rfl rfl ?_
                refine pw_cVv dX7_feed_73 mv_X7_77 ckReader (T_X2_put (μ := μ) (n := n + 0) hz (by omega)) rfl rfl (Nat.le_of_ble_eq_true rfl) (by decide) (fun m_73 h_73 => ?_)
                rw [h_73, if_pos (by omega)]
                refine pw_iload_n dX7_feed_76 rfl rfl ?_
                refine pw_iconst (v := 1) dX7_feed_77 rfl ?_
                refine pw_icmp_le (tgt := 89) dX7_feed_78 (by decide) (fun c_78 => ?_) (fun c_78 => ?_)
                · skip
                  have hk_78 : k ≤ 1 := (nI_leI (b := 1) (by omega) (by decide)).mp c_78
                  refine pw_iload_n dX7_feed_89 rfl rfl ?_
                  refine pw_iconst (v := 2) dX7_feed_90 rfl ?_
                  refine pw_icmp_le (tgt := 103) dX7_feed_91 (by decide) (fun c_91 => ?_) (fun c_91 => ?_)
                  · skip
                    have hk_91 : k ≤ 2 := (nI_leI (b := 2) (by omega) (by decide)).mp c_91
                    refine pw_iload_n dX7_feed_103 rfl rfl ?_
                    refine pw_iconst (v := 3) dX7_feed_104 rfl ?_
                    refine pw_icmp_le (tgt := 117) dX7_feed_105 (by decide) (fun c_105 => ?_) (fun c_105 => ?_)
                    · skip
                      have hk_105 : k ≤ 3 := (nI_leI (b := 3) (by omega) (by decide)).mp c_105
                      refine pw_iload_n dX7_feed_117 rfl rfl ?_
                      refine pw_iconst (v := 4) dX7_feed_118 rfl ?_
                      refine pw_icmp_le (tgt := 131) dX7_feed_119 (by decide) (fun c_119 => ?_) (fun c_119 => ?_)
                      · skip
                        have hk_119 : k ≤ 4 := (nI_leI (b := 4) (by omega) (by decide)).mp c_119
                        refine pw_aload_n dX7_feed_131 rfl rfl ?_
                        refine pw_getR dX7_feed_132 fa_X7_19 rfl ?_
                        refine pw_getI dX7_feed_135 fa_X7_115 rfl ?_
                        refine pw_iret dX7_feed_138 rfl ?_
                        have ek : k = 1 := by omega
                        subst ek
                        exact ⟨by rw [hX]; rfl, by rw [hM]; rfl⟩
                      · skip
                        have hk_119 : 4 < k := by
                          rcases Nat.lt_or_ge 4 k with q | q
                          · exact q
                          · exact absurd (nI_le (b := 4) q (by decide)) c_119
                        exact absurd hk_119 (by omega)
                    · skip
                      have hk_105 : 3 < k := by
                        rcases Nat.lt_or_ge 3 k with q | q
                        · exact q
                        · exact absurd (nI_le (b := 3) q (by decide)) c_105
                      exact absurd hk_105 (by omega)
                  · skip
                    have hk_91 : 2 < k := by
                      rcases Nat.lt_or_ge 2 k with q | q
                      · exact q
                      · exact absurd (nI_le (b := 2) q (by decide)) c_91
                    exact absurd hk_91 (by omega)
                · skip
                  have hk_78 : 1 < k := by
                    rcases Nat.lt_or_ge 1 k with q | q
                    · exact q
                    · exact absurd (nI_le (b := 1) q (by decide)) c_78
                  refine pw_aload_n dX7_feed_81 rfl rfl ?_
                  refine pw_getR dX7_feed_82 fa_X7_19 rfl ?_
                  refine pw_iload_n dX7_feed_85 rfl rfl ?_
                  refine pw_cVv dX7_feed_86 mv_X7_77 ckReader (T_X2_put (μ := (putM μ n a)) (n := n + 1) rfl (by omega)) rfl rfl (Nat.le_of_ble_eq_true rfl) (by decide) (fun m_86 h_86 => ?_)
                  rw [h_86, if_pos (by omega)]
                  refine pw_iload_n dX7_feed_89 rfl rfl ?_
                  refine pw_iconst (v := 2) dX7_feed_90 rfl ?_
                  refine pw_icmp_le (tgt := 103) dX7_feed_91 (by decide) (fun c_91 => ?_) (fun c_91 => ?_)
                  · skip
                    have hk_91 : k ≤ 2 := (nI_leI (b := 2) (by omega) (by decide)).mp c_91
                    refine pw_iload_n dX7_feed_103 rfl rfl ?_
                    refine pw_iconst (v := 3) dX7_feed_104 rfl ?_
                    refine pw_icmp_le (tgt := 117) dX7_feed_105 (by decide) (fun c_105 => ?_) (fun c_105 => ?_)
                    · skip
                      have hk_105 : k ≤ 3 := (nI_leI (b := 3) (by omega) (by decide)).mp c_105
                      refine pw_iload_n dX7_feed_117 rfl rfl ?_
                      refine pw_iconst (v := 4) dX7_feed_118 rfl ?_
                      refine pw_icmp_le (tgt := 131) dX7_feed_119 (by decide) (fun c_119 => ?_) (fun c_119 => ?_)
                      · skip
                        have hk_119 : k ≤ 4 := (nI_leI (b := 4) (by omega) (by decide)).mp c_119
                        refine pw_aload_n dX7_feed_131 rfl rfl ?_
                        refine pw_getR dX7_feed_132 fa_X7_19 rfl ?_
                        refine pw_getI dX7_feed_135 fa_X7_115 rfl ?_
                        refine pw_iret dX7_feed_138 rfl ?_
                        have ek : k = 2 := by omega
                        subst ek
                        exact ⟨by rw [hX]; rfl, by rw [hM]; rfl⟩
                      · skip
                        have hk_119 : 4 < k := by
                          rcases Nat.lt_or_ge 4 k with q | q
                          · exact q
                          · exact absurd (nI_le (b := 4) q (by decide)) c_119
                        exact absurd hk_119 (by omega)
                    · skip
                      have hk_105 : 3 < k := by
                        rcases Nat.lt_or_ge 3 k with q | q
                        · exact q
                        · exact absurd (nI_le (b := 3) q (by decide)) c_105
                      exact absurd hk_105 (by omega)
                  · skip
                    have hk_91 : 2 < k := by
                      rcases Nat.lt_or_ge 2 k with q | q
                      · exact q
                      · exact absurd (nI_le (b := 2) q (by decide)) c_91
                    refine pw_aload_n dX7_feed_94 rfl rfl ?_
                    refine pw_getR dX7_feed_95 fa_X7_19 rfl ?_
                    refine pw_iload dX7_feed_98 rfl ?_
                    refine pw_cVv dX7_feed_100 mv_X7_77 ckReader (T_X2_put (μ := (putM (putM μ n a) (n + 1) b)) (n := n + 2) rfl (by omega)) rfl rfl (Nat.le_of_ble_eq_true rfl) (by decide) (fun m_100 h_100 => ?_)
                    rw [h_100, if_pos (by omega)]
                    refine pw_iload_n dX7_feed_103 rfl rfl ?_
                    refine pw_iconst (v := 3) dX7_feed_104 rfl ?_
                    refine pw_icmp_le (tgt := 117) dX7_feed_105 (by decide) (fun c_105 => ?_) (fun c_105 => ?_)
                    · skip
                      have hk_105 : k ≤ 3 := (nI_leI (b := 3) (by omega) (by decide)).mp c_105
                      refine pw_iload_n dX7_feed_117 rfl rfl ?_
                      refine pw_iconst (v := 4) dX7_feed_118 rfl ?_
                      refine pw_icmp_le (tgt := 131) dX7_feed_119 (by decide) (fun c_119 => ?_) (fun c_119 => ?_)
                      · skip
                        have hk_119 : k ≤ 4 := (nI_leI (b := 4) (by omega) (by decide)).mp c_119
                        refine pw_aload_n dX7_feed_131 rfl rfl ?_
                        refine pw_getR dX7_feed_132 fa_X7_19 rfl ?_
                        refine pw_getI dX7_feed_135 fa_X7_115 rfl ?_
                        refine pw_iret dX7_feed_138 rfl ?_
                        have ek : k = 3 := by omega
                        subst ek
                        exact ⟨by rw [hX]; rfl, by rw [hM]; rfl⟩
                      · skip
                        have hk_119 : 4 < k := by
                          rcases Nat.lt_or_ge 4 k with q | q
                          · exact q
                          · exact absurd (nI_le (b := 4) q (by decide)) c_119
                        exact absurd hk_119 (by omega)
                    · skip
                      have hk_105 : 3 < k := by
                        rcases Nat.lt_or_ge 3 k with q | q
                        · exact q
                        · exact absurd (nI_le (b := 3) q (by decide)) c_105
                      refine pw_aload_n dX7_feed_108 rfl rfl ?_
                      refine pw_getR dX7_feed_109 fa_X7_19 rfl ?_
                      refine pw_iload dX7_feed_112 rfl ?_
                      refine pw_cVv dX7_feed_114 mv_X7_77 ckReader (T_X2_put (μ := (putM (putM (putM μ n a) (n + 1) b) (n + 2) c)) (n := n + 3) rfl (by omega)) rfl rfl (Nat.le_of_ble_eq_true rfl) (by decide) (fun m_114 h_114 => ?_)
                      rw [h_114, if_pos (by omega)]
                      refine pw_iload_n dX7_feed_117 rfl rfl ?_
                      refine pw_iconst (v := 4) dX7_feed_118 rfl ?_
                      refine pw_icmp_le (tgt := 131) dX7_feed_119 (by decide) (fun c_119 => ?_) (fun c_119 => ?_)
                      · skip
                        have hk_119 : k ≤ 4 := (nI_leI (b := 4) (by omega) (by decide)).mp c_119
                        refine pw_aload_n dX7_feed_131 rfl rfl ?_
                        refine pw_getR dX7_feed_132 fa_X7_19 rfl ?_
                        refine pw_getI dX7_feed_135 fa_X7_115 rfl ?_
                        refine pw_iret dX7_feed_138 rfl ?_
                        have ek : k = 4 := by omega
                        subst ek
                        exact ⟨by rw [hX]; rfl, by rw [hM]; rfl⟩
                      · skip
                        have hk_119 : 4 < k := by
                          rcases Nat.lt_or_ge 4 k with q | q
                          · exact q
                          · exact absurd (nI_le (b := 4) q (by decide)) c_119
                        refine pw_aload_n dX7_feed_122 rfl rfl ?_
                        refine pw_getR dX7_feed_123 fa_X7_19 rfl ?_
                        refine pw_iload dX7_feed_126 rfl ?_
                        refine pw_cVv dX7_feed_128 mv_X7_77 ckReader (T_X2_put (μ := (putM (putM (putM (putM μ n a) (n + 1) b) (n + 2) c) (n + 3) d)) (n := n + 4) rfl (by omega)) rfl rfl (Nat.le_of_ble_eq_true rfl) (by decide) (fun m_128 h_128 => ?_)
                        rw [h_128, if_pos (by omega)]
                        refine pw_aload_n dX7_feed_131 rfl rfl ?_
                        refine pw_getR dX7_feed_132 fa_X7_19 rfl ?_
                        refine pw_getI dX7_feed_135 fa_X7_115 rfl ?_
                        refine pw_iret dX7_feed_138 rfl ?_
                        have ek : k = 5 := by omega
                        subst ek
                        exact ⟨by rw [hX]; rfl, by rw [hM]; rfl⟩
              · skip
                have hfull : ¬ n + k ≤ 160 := fun h => c_62 (nI_le (b := 160) h (by decide))
                refine pw_bipush (v := (-4)) dX7_feed_65 rfl ?_
                refine pw_iret dX7_feed_67 rfl ?_
                exact ⟨by unfold feedX; rw [if_pos hby, hck, if_neg hfull], by unfold feedM; rw [if_pos hby, hck, if_neg hfull]⟩
            · skip
              have hb_44 := b2_0 c_44
              refine pw_bipush (v := (-2)) dX7_feed_47 rfl ?_
              refine pw_iret dX7_feed_49 rfl ?_
              exact ⟨by unfold feedX bytesF; rw [hb_6, hb_13, hb_20, hb_28, hb_36, hb_44]; rfl, by unfold feedM bytesF; rw [hb_6, hb_13, hb_20, hb_28, hb_36, hb_44]; rfl⟩

set_option maxHeartbeats 4000000 in
set_option maxRecDepth 100000 in
theorem T_X7_text {l : Launch} {μ : PM} {n size : Nat} (hz : μ.1 6 0 = nI n) (hn : n ≤ 160) (hs : μ.1 1 0 = nI size) (hs6 : size ≤ 6) : CT l SC yX7_text cX7_text 3 (some .int) 52 [.ref 0] μ (QI fun x m => if size < 6 then ∃ ki pl nu co en, rowT ki pl nu (tkL (μ.1 7) n) ∧ rowL co (rdF ki nu).2.1.2 ∧ rowE en (rdF ki nu).2.2 ∧ (rdF ki nu).2.1.1 < (tkL (μ.1 7) n).length ∧ (if (rdF ki nu).1 then x = nI size ∧ m = si (sr (sr (si (pM (eM (tM μ (nI (tkL (μ.1 7) n).length) ki pl nu) en) (nI (rdF ki nu).2.1.1) (nI (rdF ki nu).2.1.2.length) co) 6 0 0) 2 (va_cpy co (μ.1 2) 0 (160 * size) 160)) 3 (va_cpy en (μ.1 3) 0 (3 * size) 3)) 1 0 (nI (size + 1)) else x = -100 - pl (rdF ki nu).2.1.1 ∧ m = si (pM (eM (tM μ (nI (tkL (μ.1 7) n).length) ki pl nu) en) (nI (rdF ki nu).2.1.1) (nI (rdF ki nu).2.1.2.length) co) 6 0 0) else x = -4 ∧ m = μ) := by
  refine CT.of rfl (Nat.le_of_ble_eq_true rfl) ?_
  show PW l SC RX7 cX7_text 3 (some .int) 52 _ 0 [(0, .ref 0)] [] μ
  refine pw_aload_n dX7_text_0 rfl rfl ?_
  refine pw_getR dX7_text_1 fa_X7_10 rfl ?_
  refine pw_getI dX7_text_4 fa_X7_109 rfl ?_
  refine pw_top (y := nI size) hs ?_
  refine pw_bipush (v := 6) dX7_text_7 rfl ?_
  refine pw_icmp_lt (tgt := 15) dX7_text_9 (by decide) (fun c_9 => ?_) (fun c_9 => ?_)
  · skip
    have hlt : size < 6 := (nI_ltI (b := 6) (by omega) (by decide)).mp c_9
    refine pw_aload_n dX7_text_15 rfl rfl ?_
    refine pw_getR dX7_text_16 fa_X7_19 rfl ?_
    refine pw_cVi dX7_text_19 mv_X7_81 ckReader (T_X2_read hz hn) rfl rfl (Nat.le_of_ble_eq_true rfl) (by decide) (fun x_19 m_19 h_19 => ?_)
    obtain ⟨ki, pl, nu, co, en, hrt, rfl, rfl, hrl, hre, hri, hes⟩ := h_19
    refine pw_istore_n (ls2 := [(1, _), (0, _)]) dX7_text_22 rfl (by decide) rfl ?_
    refine pw_aload_n dX7_text_23 rfl rfl ?_
    refine pw_getR dX7_text_24 fa_X7_19 rfl ?_
    refine pw_cVi dX7_text_27 mv_X7_124 ckReader (T_X2_place (a := (rdF ki nu).2.1.1) rfl (by have h1 := hri.1; have h2 := toksF_len (f := μ.1 7) (n := n) 160 0; rw [tkL_len] at h1; omega)) rfl rfl (Nat.le_of_ble_eq_true rfl) (by decide) (fun x_27 m_27 h_27 => ?_)
    obtain ⟨rfl, hm_27⟩ := h_27
    rw [hm_27]
    refine pw_top (y := pl (rdF ki nu).2.1.1) rfl ?_
    refine pw_istore_n (ls2 := [(2, _), (1, _), (0, _)]) dX7_text_30 rfl (by decide) rfl ?_
    refine pw_aload_n dX7_text_31 rfl rfl ?_
    refine pw_getR dX7_text_32 fa_X7_19 rfl ?_
    refine pw_cVv dX7_text_35 mv_X7_96 ckReader T_X2_empty rfl rfl (Nat.le_of_ble_eq_true rfl) (by decide) (fun m_35 h_35 => ?_)
    rw [h_35]
    refine pw_iload_n dX7_text_38 rfl rfl ?_
    refine pw_if_ne (tgt := 47) dX7_text_39 (by decide) (fun c_39 => ?_) (fun c_39 => ?_)
    · skip
      have hb := b2_n c_39
      refine pw_aload_n dX7_text_47 rfl rfl ?_
      refine pw_getR dX7_text_48 fa_X7_10 rfl ?_
      refine pw_aload_n dX7_text_51 rfl rfl ?_
      refine pw_getR dX7_text_52 fa_X7_19 rfl ?_
      refine pw_getR dX7_text_55 fa_X7_85 rfl ?_
      refine pw_aload_n dX7_text_58 rfl rfl ?_
      refine pw_getR dX7_text_59 fa_X7_19 rfl ?_
      refine pw_getR dX7_text_62 fa_X7_89 rfl ?_
      refine pw_cVi dX7_text_65 mv_X7_92 ckBook (T_X1_keep (size := size) hs hlt) rfl rfl (Nat.le_of_ble_eq_true rfl) (by decide) (fun x_65 m_65 h_65 => ?_)
      obtain ⟨rfl, hm_65⟩ := h_65
      rw [hm_65]
      refine pw_iret dX7_text_68 rfl ?_
      rw [if_pos hlt]
      refine ⟨ki, pl, nu, co, en, hrt, hrl, hre, hri.1, ?_⟩
      rw [hb, if_pos rfl]
      exact ⟨rfl, rfl⟩
    · skip
      have hb := b2_0 c_39
      refine pw_bipush (v := (-100)) dX7_text_42 rfl ?_
      refine pw_iload_n dX7_text_44 rfl rfl ?_
      refine pw_isub dX7_text_45 ?_
      refine pw_iret dX7_text_46 rfl ?_
      rw [if_pos hlt]
      refine ⟨ki, pl, nu, co, en, hrt, hrl, hre, hri.1, ?_⟩
      rw [hb, if_neg Bool.false_ne_true]
      exact ⟨rfl, rfl⟩
  · skip
    have hge : ¬ size < 6 := fun h => c_9 (nI_lt (b := 6) h (by decide))
    refine pw_bipush (v := (-4)) dX7_text_12 rfl ?_
    refine pw_iret dX7_text_14 rfl ?_
    rw [if_neg hge]
    exact ⟨rfl, rfl⟩

