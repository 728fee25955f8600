theorem si_si {μ : PM} {c j : Nat} {v w : Int32} : si (si μ c j v) c j w = si μ c j w := by
  refine PM_ext (fun x => ?_) rfl
  by_cases e : x = c
  · subst e
    rw [si_same, si_same, si_same]
    funext y
    by_cases q : y = j
    · subst q; rw [upd_s, upd_s]
    · rw [upd_o _ _ q, upd_o _ _ q, upd_o _ _ q]
  · rw [si_other _ _ _ _ e, si_other _ _ _ _ e, si_other _ _ _ _ e]
theorem si_id {μ : PM} {c j : Nat} : si μ c j (μ.1 c j) = μ := by
  refine PM_ext (fun x => ?_) rfl
  by_cases e : x = c
  · subst e
    rw [si_same]
    funext y
    by_cases q : y = j
    · subst q; rw [upd_s]
    · rw [upd_o _ _ q]
  · rw [si_other _ _ _ _ e]
def pcN (x : Nat) : Nat := x % 2 + x / 2 % 2 + x / 4 % 2 + x / 8 % 2 + x / 16 % 2 + x / 32 % 2
theorem pcN_or : ∀ a, a < 64 → ∀ s, s < 64 → a ||| s = a ∨ pcN a < pcN (a ||| s) := by decide +kernel
theorem pcN_6 : ∀ a, a < 64 → pcN a ≤ 6 := by decide +kernel
theorem nI_or {a b : Nat} (ha : a < 64) (hb : b < 64) : nI a ||| nI b = nI (a ||| b) ∧ a ||| b < 64 := by
  have hlt : a ||| b < 2 ^ 6 := Nat.or_lt_two_pow (n := 6) ha hb
  refine ⟨?_, hlt⟩
  apply Int32.toBitVec_inj.mp
  apply BitVec.eq_of_toNat_eq
  rw [Int32.toBitVec_or, BitVec.toNat_or, pk_tn (by omega), pk_tn (by omega), pk_tn (by omega)]
theorem shF_2 : ∀ h, h < 6 → shF h = nI (2 ^ h) := by decide +kernel
theorem pow_64 : ∀ h, h < 6 → 2 ^ h < 64 ∧ 2 ^ (h + 1) ≤ 64 := by decide +kernel
theorem minuteF_or {fr ca : Nat → Int32} {a : Nat} {th : Int32} (ha : a < 64) : ∀ n, n ≤ 6 → ∃ s, s < 2 ^ n ∧ minuteF fr ca (nI a) th n = nI (a ||| s)
  | 0, _ => ⟨0, by decide, by rw [Nat.or_zero]; rfl⟩
  | h + 1, hn => by
    obtain ⟨s, hs, e⟩ := minuteF_or (fr := fr) (ca := ca) (th := th) ha h (by omega)
    have hp := pow_64 h (by omega)
    unfold minuteF
    split
    · rw [e]
      change ∃ s, s < 2 ^ (h + 1) ∧ nI (a ||| _) ||| shF h = nI (a ||| s)
      rw [shF_2 h (by omega), (nI_or (nI_or ha (by omega)).2 hp.1).1, Nat.or_assoc]
      exact ⟨_, Nat.or_lt_two_pow (Nat.lt_of_lt_of_le hs (Nat.pow_le_pow_right (by decide) (by omega))) (Nat.pow_lt_pow_right (by decide) (by omega)), rfl⟩
    · rw [e]
      exact ⟨s, Nat.lt_of_lt_of_le hs (Nat.pow_le_pow_right (by decide) (by omega)), rfl⟩
theorem pow_6 {n : Nat} (h : n ≤ 6) : 2 ^ n ≤ 64 := Nat.pow_le_pow_right (n := 2) (by decide) h
theorem minuteF_up {fr ca : Nat → Int32} {a n : Nat} {th : Int32} (ha : a < 64) (hn : n ≤ 6) : ∃ c, c < 64 ∧ minuteF fr ca (nI a) th n = nI c ∧ (¬ minuteF fr ca (nI a) th n = nI a → pcN a < pcN c) := by
  obtain ⟨s, hs, e⟩ := minuteF_or (fr := fr) (ca := ca) (th := th) ha n hn
  have hp := pow_6 hn
  refine ⟨a ||| s, (nI_or ha (by omega)).2, e, fun h => ?_⟩
  rcases pcN_or a ha s (by omega) with q | q
  · rw [e, q] at h
    exact absurd rfl h
  · exact q
theorem atL_fix {fr ca : Nat → Int32} {n k : Nat} {a th x : Int32} (hx : atLastF fr ca n a th k = x) (hf : minuteF fr ca x th n = x) : ∀ m, atLastF fr ca n a th (k + m) = x
  | 0 => hx
  | m + 1 => by
    show minuteF fr ca (atLastF fr ca n a th (k + m)) th n = x
    rw [atL_fix hx hf m]
    exact hf
theorem atL_sm {fr ca : Nat → Int32} {n a : Nat} {th : Int32} (hn : n ≤ 6) (ha : a < 64) : ∀ k, ∃ c, c < 64 ∧ atLastF fr ca n (nI a) th k = nI c
  | 0 => ⟨a, ha, rfl⟩
  | k + 1 => by
    obtain ⟨c, hc, e⟩ := atL_sm (fr := fr) (ca := ca) (th := th) hn ha k
    show ∃ d, d < 64 ∧ minuteF fr ca (atLastF fr ca n (nI a) th k) th n = nI d
    rw [e]
    exact minuteF_sm hc n hn
theorem or_all : ∀ n, n < 7 → ∀ s, s < 64 → s < 2 ^ n → (2 ^ n - 1) ||| s = 2 ^ n - 1 := by decide +kernel
theorem atL_all {fr ca : Nat → Int32} {n : Nat} {th : Int32} (hn : n ≤ 6) (k : Nat) : atLastF fr ca n (nI (aN n - 1)) th k = nI (aN n - 1) := by
  have hp := pow_6 hn
  have hq : 0 < 2 ^ n := Nat.pow_pos (by decide)
  have hf : minuteF fr ca (nI (aN n - 1)) th n = nI (aN n - 1) := by
    obtain ⟨s, hs, e⟩ := minuteF_or (fr := fr) (ca := ca) (th := th) (a := aN n - 1) (by unfold aN; omega) n hn
    rw [e]
    unfold aN
    rw [or_all n (by omega) s (by omega) hs]
  have h := atL_fix (fr := fr) (ca := ca) (n := n) (k := 0) (a := nI (aN n - 1)) (th := th) rfl hf k
  rw [Nat.zero_add] at h
  exact h
theorem bc_all : ∀ n, n < 7 → ∀ z, z < 64 → z < 2 ^ n - 1 → ¬ bcF (nI (2 ^ n - 1)) ≤ bcF (nI z) := by decide +kernel
/-- what the model's loop over sets holds against the class's words -/
def sdI (V : VW) (n i : Nat) (b : Int32) : Prop := (i < aN n → sdL V n (aN n - 1 - i) i (if b = -1 then allF V else b) = sdL V n (aN n - 1) 0 (allF V)) ∧ (i = aN n → b = sdL V n (aN n - 1) 0 (allF V)) ∧ ((b = -1 ∧ i < aN n) ∨ ∃ z, z < i ∧ b = nI z)
theorem sdI_0 {V : VW} {n : Nat} : sdI V n 0 (-1) := by
  have hq : 0 < aN n := Nat.pow_pos (by decide)
  exact ⟨fun _ => rfl, fun h => absurd h (by omega), Or.inl ⟨rfl, hq⟩⟩
def sdG (V : VW) (n i : Nat) (b : Int32) : Int32 := if bcF b ≤ bcF (nI i) then b else if atLastF (V 6) (V 8) n (nI i) (allF V) 6 = allF V then nI i else b
theorem sdI_s {V : VW} {n i : Nat} {b b2 : Int32} (hal : allF V = nI (aN n - 1)) (hi : i < aN n) (h : sdI V n i b) (h1 : i + 1 < aN n → (if b2 = -1 then allF V else b2) = sdG V n i (if b = -1 then allF V else b)) (h2 : i + 1 = aN n → b2 = (if b = -1 then allF V else b)) (h3 : (b2 = -1 ∧ i + 1 < aN n) ∨ ∃ z, z < i + 1 ∧ b2 = nI z) : sdI V n (i + 1) b2 := by
  obtain ⟨g1, _, _⟩ := h
  refine ⟨fun hl => ?_, fun he => ?_, h3⟩
  · have g := g1 hi
    rw [show aN n - 1 - i = (aN n - 1 - (i + 1)) + 1 by omega] at g
    rw [h1 hl]
    exact g
  · have g := g1 hi
    rw [show aN n - 1 - i = 0 by omega] at g
    rw [h2 he]
    exact g
set_option maxHeartbeats 4000000 in
set_option maxRecDepth 100000 in
theorem T_X8_atLast {l : Launch} {μ : PM} {V : VW} {nm sk st : Nat → Int32} {sn : Int32} {n a : Nat} {th : Int32} (hn : V 0 5 = nI n) (hn6 : n ≤ 6) (ha : a < 64) : CT l SM yX8_atLast cX8_atLast 5 (some .int) 3 [.ref 0, .int (nI a), .int th] (mm μ V nm sk st sn) (QI fun x m => x = atLastF (V 6) (V 8) n (nI a) th 6 ∧ m = mm (si μ 0 38 (nI (mtlF (V 6) (V 8) n th 6 (nI a)))) V nm sk st sn) := by
  refine CT.of rfl (Nat.le_of_ble_eq_true rfl) ?_
  show PW l SM RX8 cX8_atLast 5 (some .int) 3 _ 0 [(0, .ref 0), (1, .int (nI a)), (2, .int th)] [] (mm μ V nm sk st sn)
  refine pw_iload_n dX8_atLast_0 rfl rfl ?_
  refine pw_istore_n (ls2 := [(3, _), (0, _), (1, _), (2, _)]) dX8_atLast_1 rfl (by decide) rfl ?_
  refine pw_aload_n dX8_atLast_2 rfl rfl ?_
  refine pw_iload_n dX8_atLast_3 rfl rfl ?_
  refine pw_iload_n dX8_atLast_4 rfl rfl ?_
  refine pw_cVi dX8_atLast_5 mv_X8_232 ckModel (T_X8_catches (a := a) hn hn6 ha) rfl rfl (Nat.le_of_ble_eq_true rfl) (by decide) (fun x_5 m_5 h_5 => ?_)
  obtain ⟨rfl, rfl⟩ := h_5
  refine pw_istore (ls2 := [(4, _), (3, _), (0, _), (1, _), (2, _)]) dX8_atLast_8 (by decide) rfl ?_
  refine pw_aload_n dX8_atLast_10 rfl rfl ?_
  refine pw_iconst (v := 0) dX8_atLast_11 rfl ?_
  refine pw_putI dX8_atLast_12 fa_X8_235 rfl ?_
  have L_15 : ∀ (fu_15 : Nat) (k b : Nat), (b < 64) → (nI b = atLastF (V 6) (V 8) n (nI a) th k) → (mtlF (V 6) (V 8) n th 6 (nI a) = mtlF (V 6) (V 8) n th (6 - k) (nI b) + k) → (k ≤ pcN b) → 7 - k < fu_15 → PW l SM RX8 cX8_atLast 5 (some .int) 3 (QI fun x m => x = atLastF (V 6) (V 8) n (nI a) th 6 ∧ m = mm (si μ 0 38 (nI (mtlF (V 6) (V 8) n th 6 (nI a)))) V nm sk st sn) 15 [(0, .ref 0), (1, .int (nI a)), (2, .int th), (3, .int (nI b)), (4, .int (minuteF (V 6) (V 8) (nI b) th n))] [] (mm (si μ 0 38 (nI k)) V nm sk st sn) := by
    intro fu_15
    induction fu_15 with
    | zero =>
      intro k b hb hx hm hp hm_15
      exact absurd hm_15 (Nat.not_lt_zero _)
    | succ fu_15 ih_15 =>
      intro k b hb hx hm hp hm_15
      refine pw_iload dX8_atLast_15 rfl ?_
      refine pw_iload_n dX8_atLast_17 rfl rfl ?_
      refine pw_icmp_eq (tgt := 45) dX8_atLast_18 (by decide) (fun c_18 => ?_) (fun c_18 => ?_)
      · skip
        skip
        refine pw_iload_n dX8_atLast_45 rfl rfl ?_
        refine pw_iret dX8_atLast_46 rfl ?_
        have hb6 := pcN_6 b hb
        have hfx := atL_fix (fr := V 6) (ca := V 8) (n := n) (k := k) hx.symm c_18 (6 - k)
        rw [show k + (6 - k) = 6 by omega] at hfx
        have hz : mtlF (V 6) (V 8) n th (6 - k) (nI b) = 0 := by
          cases hq : 6 - k with
          | zero => rfl
          | succ q =>
            show (if minuteF (V 6) (V 8) (nI b) th n = nI b then 0 else _) = 0
            rw [if_pos c_18]
        exact ⟨hfx.symm, by rw [hm, hz, Nat.zero_add]⟩
      · skip
        obtain ⟨c, hc, ec, hup⟩ := minuteF_up (fr := V 6) (ca := V 8) (th := th) (n := n) hb hn6
        have hpl := hup c_18
        have hp6 := pcN_6 c hc
        rw [ec]
        refine pw_iload dX8_atLast_21 rfl ?_
        refine pw_istore_n (ls2 := [(3, _), (0, _), (1, _), (2, _), (4, _)]) dX8_atLast_23 rfl (by decide) rfl ?_
        refine pw_aload_n dX8_atLast_24 rfl rfl ?_
        refine pw_dup dX8_atLast_25 rfl ?_
        refine pw_getI dX8_atLast_26 fa_X8_235 rfl ?_
        refine pw_top (y := nI k) (by show (si μ 0 38 (nI k)).1 0 38 = _; rw [si_same, upd_s]) ?_
        refine pw_iconst (v := 1) dX8_atLast_29 rfl ?_
        refine pw_iadd dX8_atLast_30 ?_
        refine pw_top (y := nI (k + 1)) (nI_1 k) ?_
        refine pw_putI dX8_atLast_31 fa_X8_235 rfl ?_
        refine pw_mem (m_0 (by decide) (by decide) (by decide) (by decide) (by decide)) ?_
        rw [si_si]
        refine pw_aload_n dX8_atLast_34 rfl rfl ?_
        refine pw_iload_n dX8_atLast_35 rfl rfl ?_
        refine pw_iload_n dX8_atLast_36 rfl rfl ?_
        refine pw_cVi dX8_atLast_37 mv_X8_232 ckModel (T_X8_catches (a := c) hn hn6 hc) rfl rfl (Nat.le_of_ble_eq_true rfl) (by decide) (fun x_37 m_37 h_37 => ?_)
        obtain ⟨rfl, rfl⟩ := h_37
        refine pw_istore (ls2 := [(4, _), (3, _), (0, _), (1, _), (2, _)]) dX8_atLast_40 (by decide) rfl ?_
        refine pw_goto (tgt := 15) dX8_atLast_42 (by decide) ?_
        refine pw_sub [2, 3, 4, 1, 0] rfl ?_
        exact ih_15 (k + 1) c hc (by rw [← ec, hx]; rfl) (by
          rw [hm, show 6 - k = (6 - (k + 1)) + 1 by omega]
          show (if minuteF (V 6) (V 8) (nI b) th n = nI b then 0 else mtlF (V 6) (V 8) n th (6 - (k + 1)) (minuteF (V 6) (V 8) (nI b) th n) + 1) + k = _
          rw [if_neg c_18, ec]
          omega) (by omega) (by omega)
  refine pw_sub [2, 3, 4, 1, 0] rfl ?_
  refine pw_mem (m_0 (by decide) (by decide) (by decide) (by decide) (by decide)) ?_
  exact L_15 8 0 a ha rfl rfl (Nat.zero_le _) (by omega)

set_option maxHeartbeats 4000000 in
set_option maxRecDepth 100000 in
theorem T_X8_panic {l : Launch} {μ : PM} {V : VW} {nm sk st : Nat → Int32} {sn : Int32} {n : Nat} {fi wh : Int32} (hn : V 0 5 = nI n) (hn6 : n ≤ 6) : CT l SM yX8_panic cX8_panic 4 (some .int) 4 [.ref 0, .int fi, .int wh] (mm μ V nm sk st sn) (QI fun x m => x = panicF V n fi wh ∧ ∃ mo, m = mm (si μ 0 38 mo) V nm sk st sn) := by
  refine CT.of rfl (Nat.le_of_ble_eq_true rfl) ?_
  show PW l SM RX8 cX8_panic 4 (some .int) 4 _ 0 [(0, .ref 0), (1, .int fi), (2, .int wh)] [] (mm μ V nm sk st sn)
  have hal := allF_n hn hn6
  have hab := aN_b hn6
  refine pw_aload_n dX8_panic_0 rfl rfl ?_
  refine pw_iload_n dX8_panic_1 rfl rfl ?_
  refine pw_cVi dX8_panic_2 mv_X8_180 ckModel T_X8_areSome rfl rfl (Nat.le_of_ble_eq_true rfl) (by decide) (fun x_2 m_2 h_2 => ?_)
  obtain ⟨rfl, rfl⟩ := h_2
  refine pw_if_eq (tgt := 17) dX8_panic_5 (by decide) (fun c_5 => ?_) (fun c_5 => ?_)
  · skip
    have hb_5 := b2_0 c_5
    refine pw_bipush (v := (-2)) dX8_panic_17 rfl ?_
    refine pw_iret dX8_panic_19 rfl ?_
    exact ⟨by unfold panicF; rw [hb_5]; rfl, μ.1 0 38, by rw [si_id]⟩
  · skip
    have hb_5 := b2_n c_5
    refine pw_iload_n dX8_panic_8 rfl rfl ?_
    refine pw_iconst (v := 0) dX8_panic_9 rfl ?_
    refine pw_iconst (v := 1) dX8_panic_10 rfl ?_
    refine pw_cSi dX8_panic_11 ms_X8_78 T_X8_in rfl rfl (Nat.le_of_ble_eq_true rfl) (by decide) (fun x_11 m_11 h_11 => ?_)
    obtain ⟨rfl, rfl⟩ := h_11
    refine pw_if_ne (tgt := 20) dX8_panic_14 (by decide) (fun c_14 => ?_) (fun c_14 => ?_)
    · skip
      have hb_14 := b2_n c_14
      have hfi : inF fi 0 (nI (aN n - 1)) = true := by rw [← hal]; exact hb_5
      obtain ⟨a0, ha0, rfl⟩ := in_trueL hfi (by omega)
      refine pw_aload_n dX8_panic_20 rfl rfl ?_
      refine pw_iload_n dX8_panic_21 rfl rfl ?_
      refine pw_aload_n dX8_panic_22 rfl rfl ?_
      refine pw_cVi dX8_panic_23 mv_X8_85 ckModel T_X8_everybody rfl rfl (Nat.le_of_ble_eq_true rfl) (by decide) (fun x_23 m_23 h_23 => ?_)
      obtain ⟨rfl, rfl⟩ := h_23
      refine pw_cVi dX8_panic_26 mv_X8_238 ckModel (T_X8_atLast (a := a0) (th := allF V) hn hn6 (by omega)) rfl rfl (Nat.le_of_ble_eq_true rfl) (by decide) (fun x_26 m_26 h_26 => ?_)
      obtain ⟨rfl, rfl⟩ := h_26
      refine pw_istore_n (ls2 := [(3, _), (0, _), (1, _), (2, _)]) dX8_panic_29 rfl (by decide) rfl ?_
      refine pw_iload_n dX8_panic_30 rfl rfl ?_
      refine pw_if_ne (tgt := 38) dX8_panic_31 (by decide) (fun c_31 => ?_) (fun c_31 => ?_)
      · skip
        refine pw_aload_n dX8_panic_38 rfl rfl ?_
        refine pw_getI dX8_panic_39 fa_X8_235 rfl ?_
        refine pw_iret dX8_panic_42 rfl ?_
        exact ⟨by unfold panicF; rw [show areF V (nI a0) = true from hb_5, hb_14, Bool.and_self, if_pos rfl, if_neg c_31]; rfl, _, rfl⟩
      · skip
        refine pw_iload_n dX8_panic_34 rfl rfl ?_
        refine pw_goto (tgt := 42) dX8_panic_35 (by decide) ?_
        refine pw_iret dX8_panic_42 rfl ?_
        exact ⟨by unfold panicF; rw [show areF V (nI a0) = true from hb_5, hb_14, Bool.and_self, if_pos rfl, if_pos c_31], _, rfl⟩
    · skip
      have hb_14 := b2_0 c_14
      refine pw_bipush (v := (-2)) dX8_panic_17 rfl ?_
      refine pw_iret dX8_panic_19 rfl ?_
      exact ⟨by unfold panicF; rw [hb_5, hb_14]; rfl, μ.1 0 38, by rw [si_id]⟩

set_option maxHeartbeats 4000000 in
set_option maxRecDepth 100000 in
theorem T_X8_seeds {l : Launch} {μ : PM} {V : VW} {nm sk st : Nat → Int32} {sn : Int32} {n : Nat} {wh : Int32} (hn : V 0 5 = nI n) (hn6 : n ≤ 6) : CT l SM yX8_seeds cX8_seeds 5 (some .int) 4 [.ref 0, .int wh] (mm μ V nm sk st sn) (QI fun x m => x = seedsF V n wh ∧ ∃ mo, m = mm (si μ 0 38 mo) V nm sk st sn) := by
  refine CT.of rfl (Nat.le_of_ble_eq_true rfl) ?_
  show PW l SM RX8 cX8_seeds 5 (some .int) 4 _ 0 [(0, .ref 0), (1, .int wh)] [] (mm μ V nm sk st sn)
  have hal := allF_n hn hn6
  have hab := aN_b hn6
  refine pw_iload_n dX8_seeds_0 rfl rfl ?_
  refine pw_iconst (v := 0) dX8_seeds_1 rfl ?_
  refine pw_iconst (v := 1) dX8_seeds_2 rfl ?_
  refine pw_cSi dX8_seeds_3 ms_X8_78 T_X8_in rfl rfl (Nat.le_of_ble_eq_true rfl) (by decide) (fun x_3 m_3 h_3 => ?_)
  obtain ⟨rfl, rfl⟩ := h_3
  refine pw_if_ne (tgt := 12) dX8_seeds_6 (by decide) (fun c_6 => ?_) (fun c_6 => ?_)
  · skip
    have hb_6 := b2_n c_6
    refine pw_iconst (v := (-1)) dX8_seeds_12 rfl ?_
    refine pw_istore_n (ls2 := [(2, _), (0, _), (1, _)]) dX8_seeds_13 rfl (by decide) rfl ?_
    refine pw_iconst (v := 0) dX8_seeds_14 rfl ?_
    refine pw_istore_n (ls2 := [(3, _), (2, _), (0, _), (1, _)]) dX8_seeds_15 rfl (by decide) rfl ?_
    have L_16 : ∀ (fu_16 : Nat) (i : Nat) (b mo : Int32), (i ≤ aN n) → (sdI V n i b) → aN n - i < fu_16 → PW l SM RX8 cX8_seeds 5 (some .int) 4 (QI fun x m => x = seedsF V n wh ∧ ∃ mo, m = mm (si μ 0 38 mo) V nm sk st sn) 16 [(0, .ref 0), (1, .int wh), (2, .int b), (3, .int (nI i))] [] (mm (si μ 0 38 mo) V nm sk st sn) := by
      intro fu_16
      induction fu_16 with
      | zero =>
        intro i b mo hi hx hm_16
        exact absurd hm_16 (Nat.not_lt_zero _)
      | succ fu_16 ih_16 =>
        intro i b mo hi hx hm_16
        refine pw_iload_n dX8_seeds_16 rfl rfl ?_
        refine pw_aload_n dX8_seeds_17 rfl rfl ?_
        refine pw_cVi dX8_seeds_18 mv_X8_85 ckModel (T_X8_everybody (V := V)) rfl rfl (Nat.le_of_ble_eq_true rfl) (by decide) (fun x_18 m_18 h_18 => ?_)
        obtain ⟨rfl, rfl⟩ := h_18
        refine pw_icmp_gt (tgt := 80) dX8_seeds_21 (by decide) (fun c_21 => ?_) (fun c_21 => ?_)
        · skip
          have hge : aN n ≤ i := by
            rw [hal] at c_21
            have := (nI_ltI (by omega) (by omega)).mp c_21
            omega
          obtain ⟨z, hz, ebz⟩ : ∃ z, z < aN n ∧ b = nI z := by
            rcases hx.2.2 with q | ⟨z, q, e⟩
            · exact absurd q.2 (by omega)
            · exact ⟨z, by omega, e⟩
          have hS := hx.2.1 (by omega)
          refine pw_iload_n dX8_seeds_80 rfl rfl ?_
          refine pw_if_ne (tgt := 88) dX8_seeds_81 (by decide) (fun c_81 => ?_) (fun c_81 => ?_)
          · skip
            refine pw_iload_n dX8_seeds_88 rfl rfl ?_
            rw [ebz]
            refine pw_cSi dX8_seeds_89 ms_X8_229 T_X8_ones rfl rfl (Nat.le_of_ble_eq_true rfl) (by decide) (fun x_89 m_89 h_89 => ?_)
            obtain ⟨rfl, rfl⟩ := h_89
            rw [onesF_bc z (by omega)]
            refine pw_iret dX8_seeds_92 rfl ?_
            exact ⟨by unfold seedsF; rw [hb_6, if_pos rfl, if_neg c_81, ← hS, ebz], _, rfl⟩
          · skip
            refine pw_iload_n dX8_seeds_84 rfl rfl ?_
            refine pw_goto (tgt := 92) dX8_seeds_85 (by decide) ?_
            refine pw_iret dX8_seeds_92 rfl ?_
            exact ⟨by unfold seedsF; rw [hb_6, if_pos rfl, if_pos c_81]; exact hS, _, rfl⟩
        · skip
          have hlt : i < aN n := by
            rw [hal] at c_21
            have := (nI_leI (by omega) (by omega)).mp (Int32.not_lt.mp c_21)
            have hq : 0 < aN n := Nat.pow_pos (by decide)
            omega
          refine pw_iload_n dX8_seeds_24 rfl rfl ?_
          refine pw_iconst (v := (-1)) dX8_seeds_25 rfl ?_
          refine pw_icmp_eq (tgt := 40) dX8_seeds_26 (by decide) (fun c_26 => ?_) (fun c_26 => ?_)
          · skip
            refine pw_iconst (v := 1) dX8_seeds_40 rfl ?_
            refine pw_goto (tgt := 45) dX8_seeds_41 (by decide) ?_
            refine pw_istore (ls2 := [(4, _), (0, _), (1, _), (2, _), (3, _)]) dX8_seeds_45 (by decide) rfl ?_
            refine pw_iload dX8_seeds_47 rfl ?_
            refine pw_if_eq (tgt := 72) dX8_seeds_49 (by decide) (fun c_49 => ?_) (fun c_49 => ?_)
            · skip
              exact absurd c_49 (by decide)
            · skip
              refine pw_aload_n dX8_seeds_52 rfl rfl ?_
              refine pw_iload_n dX8_seeds_53 rfl rfl ?_
              refine pw_aload_n dX8_seeds_54 rfl rfl ?_
              refine pw_cVi dX8_seeds_55 mv_X8_85 ckModel (T_X8_everybody (V := V)) rfl rfl (Nat.le_of_ble_eq_true rfl) (by decide) (fun x_55 m_55 h_55 => ?_)
              obtain ⟨rfl, rfl⟩ := h_55
              refine pw_cVi dX8_seeds_58 mv_X8_238 ckModel (T_X8_atLast (a := i) (th := allF V) hn hn6 (by omega)) rfl rfl (Nat.le_of_ble_eq_true rfl) (by decide) (fun x_58 m_58 h_58 => ?_)
              obtain ⟨rfl, rfl⟩ := h_58
              rw [si_si]
              refine pw_aload_n dX8_seeds_61 rfl rfl ?_
              refine pw_cVi dX8_seeds_62 mv_X8_85 ckModel (T_X8_everybody (V := V)) rfl rfl (Nat.le_of_ble_eq_true rfl) (by decide) (fun x_62 m_62 h_62 => ?_)
              obtain ⟨rfl, rfl⟩ := h_62
              refine pw_icmp_ne (tgt := 72) dX8_seeds_65 (by decide) (fun c_65 => ?_) (fun c_65 => ?_)
              · skip
                refine pw_iload_n dX8_seeds_72 rfl rfl ?_
                refine pw_istore_n (ls2 := [(2, _), (4, _), (0, _), (1, _), (3, _)]) dX8_seeds_73 rfl (by decide) rfl ?_
                refine pw_iinc (ls2 := [(3, _), (2, _), (4, _), (0, _), (1, _)]) (v := nI (i + 1)) dX8_seeds_74 rfl (inc1 i) (by decide) rfl ?_
                refine pw_goto (tgt := 16) dX8_seeds_77 (by decide) ?_
                refine pw_sub [3, 4, 1, 0] rfl ?_
                exact ih_16 (i + 1) _ _ (by omega) (sdI_s hal hlt hx (fun hl => by
                  unfold sdG
                  rw [if_neg c_65, ite_self]) (fun he => absurd (show atLastF (V 6) (V 8) n (nI i) (allF V) 6 = allF V by rw [hal, show i = aN n - 1 by omega]; exact atL_all hn6 6) c_65) (by
                  rcases hx.2.2 with q | ⟨z, q, e⟩
                  · exact Or.inl ⟨c_26, Nat.lt_of_le_of_ne hlt (fun he => absurd (show atLastF (V 6) (V 8) n (nI i) (allF V) 6 = allF V by rw [hal, show i = aN n - 1 by omega]; exact atL_all hn6 6) c_65)⟩
                  · exact Or.inr ⟨z, by omega, e⟩)) (by omega)
              · skip
                refine pw_iload_n dX8_seeds_68 rfl rfl ?_
                refine pw_goto (tgt := 73) dX8_seeds_69 (by decide) ?_
                refine pw_istore_n (ls2 := [(2, _), (4, _), (0, _), (1, _), (3, _)]) dX8_seeds_73 rfl (by decide) rfl ?_
                refine pw_iinc (ls2 := [(3, _), (2, _), (4, _), (0, _), (1, _)]) (v := nI (i + 1)) dX8_seeds_74 rfl (inc1 i) (by decide) rfl ?_
                refine pw_goto (tgt := 16) dX8_seeds_77 (by decide) ?_
                refine pw_sub [3, 4, 1, 0] rfl ?_
                have hnb : ¬ nI i = -1 := nI_nm (by omega)
                exact ih_16 (i + 1) _ _ (by omega) (sdI_s hal hlt hx (fun hl => by
                  rw [if_neg hnb, if_pos c_26]
                  unfold sdG
                  rw [if_neg (by rw [hal]; exact bc_all n (by omega) i (by omega) (show i < aN n - 1 by omega)), if_pos c_65]) (fun he => by rw [if_pos c_26, hal, show i = aN n - 1 by omega]) (Or.inr ⟨i, by omega, rfl⟩)) (by omega)
          · skip
            obtain ⟨z, hz, rfl⟩ : ∃ z, z < i ∧ b = nI z := by
              rcases hx.2.2 with q | q
              · exact absurd q.1 c_26
              · exact q
            refine pw_iload_n dX8_seeds_29 rfl rfl ?_
            refine pw_cSi dX8_seeds_30 ms_X8_229 T_X8_ones rfl rfl (Nat.le_of_ble_eq_true rfl) (by decide) (fun x_30 m_30 h_30 => ?_)
            obtain ⟨rfl, rfl⟩ := h_30
            rw [onesF_bc i (by omega)]
            refine pw_iload_n dX8_seeds_33 rfl rfl ?_
            refine pw_cSi dX8_seeds_34 ms_X8_229 T_X8_ones rfl rfl (Nat.le_of_ble_eq_true rfl) (by decide) (fun x_34 m_34 h_34 => ?_)
            obtain ⟨rfl, rfl⟩ := h_34
            rw [onesF_bc z (by omega)]
            refine pw_icmp_ge (tgt := 44) dX8_seeds_37 (by decide) (fun c_37 => ?_) (fun c_37 => ?_)
            · skip
              refine pw_iconst (v := 0) dX8_seeds_44 rfl ?_
              refine pw_istore (ls2 := [(4, _), (0, _), (1, _), (2, _), (3, _)]) dX8_seeds_45 (by decide) rfl ?_
              refine pw_iload dX8_seeds_47 rfl ?_
              refine pw_if_eq (tgt := 72) dX8_seeds_49 (by decide) (fun c_49 => ?_) (fun c_49 => ?_)
              · skip
                refine pw_iload_n dX8_seeds_72 rfl rfl ?_
                refine pw_istore_n (ls2 := [(2, _), (4, _), (0, _), (1, _), (3, _)]) dX8_seeds_73 rfl (by decide) rfl ?_
                refine pw_iinc (ls2 := [(3, _), (2, _), (4, _), (0, _), (1, _)]) (v := nI (i + 1)) dX8_seeds_74 rfl (inc1 i) (by decide) rfl ?_
                refine pw_goto (tgt := 16) dX8_seeds_77 (by decide) ?_
                refine pw_sub [3, 4, 1, 0] rfl ?_
                exact ih_16 (i + 1) _ _ (by omega) (sdI_s hal hlt hx (fun hl => by
                  rw [if_neg c_26]
                  unfold sdG
                  rw [if_pos c_37]) (fun he => by rw [if_neg c_26]) (Or.inr ⟨z, by omega, rfl⟩)) (by omega)
              · skip
                exact absurd rfl c_49
            · skip
              refine pw_iconst (v := 1) dX8_seeds_40 rfl ?_
              refine pw_goto (tgt := 45) dX8_seeds_41 (by decide) ?_
              refine pw_istore (ls2 := [(4, _), (0, _), (1, _), (2, _), (3, _)]) dX8_seeds_45 (by decide) rfl ?_
              refine pw_iload dX8_seeds_47 rfl ?_
              refine pw_if_eq (tgt := 72) dX8_seeds_49 (by decide) (fun c_49 => ?_) (fun c_49 => ?_)
              · skip
                exact absurd c_49 (by decide)
              · skip
                refine pw_aload_n dX8_seeds_52 rfl rfl ?_
                refine pw_iload_n dX8_seeds_53 rfl rfl ?_
                refine pw_aload_n dX8_seeds_54 rfl rfl ?_
                refine pw_cVi dX8_seeds_55 mv_X8_85 ckModel (T_X8_everybody (V := V)) rfl rfl (Nat.le_of_ble_eq_true rfl) (by decide) (fun x_55 m_55 h_55 => ?_)
                obtain ⟨rfl, rfl⟩ := h_55
                refine pw_cVi dX8_seeds_58 mv_X8_238 ckModel (T_X8_atLast (a := i) (th := allF V) hn hn6 (by omega)) rfl rfl (Nat.le_of_ble_eq_true rfl) (by decide) (fun x_58 m_58 h_58 => ?_)
                obtain ⟨rfl, rfl⟩ := h_58
                rw [si_si]
                refine pw_aload_n dX8_seeds_61 rfl rfl ?_
                refine pw_cVi dX8_seeds_62 mv_X8_85 ckModel (T_X8_everybody (V := V)) rfl rfl (Nat.le_of_ble_eq_true rfl) (by decide) (fun x_62 m_62 h_62 => ?_)
                obtain ⟨rfl, rfl⟩ := h_62
                refine pw_icmp_ne (tgt := 72) dX8_seeds_65 (by decide) (fun c_65 => ?_) (fun c_65 => ?_)
                · skip
                  refine pw_iload_n dX8_seeds_72 rfl rfl ?_
                  refine pw_istore_n (ls2 := [(2, _), (4, _), (0, _), (1, _), (3, _)]) dX8_seeds_73 rfl (by decide) rfl ?_
                  refine pw_iinc (ls2 := [(3, _), (2, _), (4, _), (0, _), (1, _)]) (v := nI (i + 1)) dX8_seeds_74 rfl (inc1 i) (by decide) rfl ?_
                  refine pw_goto (tgt := 16) dX8_seeds_77 (by decide) ?_
                  refine pw_sub [3, 4, 1, 0] rfl ?_
                  exact ih_16 (i + 1) _ _ (by omega) (sdI_s hal hlt hx (fun hl => by
                    unfold sdG
                    rw [if_neg c_65, ite_self]) (fun he => absurd (show atLastF (V 6) (V 8) n (nI i) (allF V) 6 = allF V by rw [hal, show i = aN n - 1 by omega]; exact atL_all hn6 6) c_65) (Or.inr ⟨z, by omega, rfl⟩)) (by omega)
                · skip
                  refine pw_iload_n dX8_seeds_68 rfl rfl ?_
                  refine pw_goto (tgt := 73) dX8_seeds_69 (by decide) ?_
                  refine pw_istore_n (ls2 := [(2, _), (4, _), (0, _), (1, _), (3, _)]) dX8_seeds_73 rfl (by decide) rfl ?_
                  refine pw_iinc (ls2 := [(3, _), (2, _), (4, _), (0, _), (1, _)]) (v := nI (i + 1)) dX8_seeds_74 rfl (inc1 i) (by decide) rfl ?_
                  refine pw_goto (tgt := 16) dX8_seeds_77 (by decide) ?_
                  refine pw_sub [3, 4, 1, 0] rfl ?_
                  have hnb : ¬ nI i = -1 := nI_nm (by omega)
                  exact ih_16 (i + 1) _ _ (by omega) (sdI_s hal hlt hx (fun hl => by
                    rw [if_neg hnb, if_neg c_26]
                    unfold sdG
                    rw [if_neg c_37, if_pos c_65]) (fun he => absurd (show bcF (nI z) ≤ bcF (nI i) by
                      rw [show i = 2 ^ n - 1 from (show i = aN n - 1 by omega)]
                      exact Int32.le_of_lt (Int32.not_le.mp (bc_all n (by omega) z (by omega) (show z < aN n - 1 by omega)))) c_37) (Or.inr ⟨i, by omega, rfl⟩)) (by omega)
    refine pw_sub [2, 3, 1, 0] rfl ?_
    have hL := L_16 (aN n + 1) 0 (-1) (μ.1 0 38) (Nat.zero_le _) sdI_0 (by omega)
    rw [si_id] at hL
    exact hL
  · skip
    have hb_6 := b2_0 c_6
    refine pw_bipush (v := (-2)) dX8_seeds_9 rfl ?_
    refine pw_iret dX8_seeds_11 rfl ?_
    exact ⟨by unfold seedsF; rw [hb_6]; rfl, μ.1 0 38, by rw [si_id]⟩

set_option maxHeartbeats 4000000 in
set_option maxRecDepth 100000 in
theorem T_X8_stop {l : Launch} {μ : PM} {V : VW} {nm sk st : Nat → Int32} {sn : Int32} {n : Nat} {fi many : Int32} (hn : V 0 5 = nI n) (hn6 : n ≤ 6) : CT l SM yX8_stop cX8_stop 6 (some .int) 4 [.ref 0, .int fi, .int many] (mm μ V nm sk st sn) (QI fun x m => x = stopF V n fi many ∧ ∃ mo, m = mm (si μ 0 38 mo) V nm sk st sn) := by
  refine CT.of rfl (Nat.le_of_ble_eq_true rfl) ?_
  show PW l SM RX8 cX8_stop 6 (some .int) 4 _ 0 [(0, .ref 0), (1, .int fi), (2, .int many)] [] (mm μ V nm sk st sn)
  have hal := allF_n hn hn6
  have hab := aN_b hn6
  refine pw_aload_n dX8_stop_0 rfl rfl ?_
  refine pw_iload_n dX8_stop_1 rfl rfl ?_
  refine pw_cVi dX8_stop_2 mv_X8_180 ckModel T_X8_areSome rfl rfl (Nat.le_of_ble_eq_true rfl) (by decide) (fun x_2 m_2 h_2 => ?_)
  obtain ⟨rfl, rfl⟩ := h_2
  refine pw_if_eq (tgt := 18) dX8_stop_5 (by decide) (fun c_5 => ?_) (fun c_5 => ?_)
  · skip
    have hb_5 := b2_0 c_5
    refine pw_bipush (v := (-2)) dX8_stop_18 rfl ?_
    refine pw_iret dX8_stop_20 rfl ?_
    exact ⟨by unfold stopF; rw [hb_5]; rfl, μ.1 0 38, by rw [si_id]⟩
  · skip
    have hb_5 := b2_n c_5
    refine pw_iload_n dX8_stop_8 rfl rfl ?_
    refine pw_iconst (v := 0) dX8_stop_9 rfl ?_
    refine pw_bipush (v := 6) dX8_stop_10 rfl ?_
    refine pw_cSi dX8_stop_12 ms_X8_78 T_X8_in rfl rfl (Nat.le_of_ble_eq_true rfl) (by decide) (fun x_12 m_12 h_12 => ?_)
    obtain ⟨rfl, rfl⟩ := h_12
    refine pw_if_ne (tgt := 21) dX8_stop_15 (by decide) (fun c_15 => ?_) (fun c_15 => ?_)
    · skip
      have hb_15 := b2_n c_15
      have hfi : inF fi 0 (nI (aN n - 1)) = true := by rw [← hal]; exact hb_5
      obtain ⟨a0, ha0, rfl⟩ := in_trueL hfi (by omega)
      refine pw_iconst (v := (-1)) dX8_stop_21 rfl ?_
      refine pw_istore_n (ls2 := [(3, _), (0, _), (1, _), (2, _)]) dX8_stop_22 rfl (by decide) rfl ?_
      refine pw_iconst (v := 0) dX8_stop_23 rfl ?_
      refine pw_istore (ls2 := [(4, _), (3, _), (0, _), (1, _), (2, _)]) dX8_stop_24 (by decide) rfl ?_
      have L_26 : ∀ (fu_26 : Nat) (i : Nat) (b mo : Int32), (i ≤ aN n) → (b = -1 ∨ ∃ z, z < 64 ∧ b = nI z) → (spL V n (nI a0) many (aN n - i) i b = spL V n (nI a0) many (aN n) 0 (-1)) → aN n - i < fu_26 → PW l SM RX8 cX8_stop 6 (some .int) 4 (QI fun x m => x = stopF V n (nI a0) many ∧ ∃ mo, m = mm (si μ 0 38 mo) V nm sk st sn) 26 [(0, .ref 0), (1, .int (nI a0)), (2, .int many), (3, .int b), (4, .int (nI i))] [] (mm (si μ 0 38 mo) V nm sk st sn) := by
        intro fu_26
        induction fu_26 with
        | zero =>
          intro i b mo hi hb hx hm_26
          exact absurd hm_26 (Nat.not_lt_zero _)
        | succ fu_26 ih_26 =>
          intro i b mo hi hb hx hm_26
          refine pw_iload dX8_stop_26 rfl ?_
          refine pw_aload_n dX8_stop_28 rfl rfl ?_
          refine pw_cVi dX8_stop_29 mv_X8_85 ckModel (T_X8_everybody (V := V)) rfl rfl (Nat.le_of_ble_eq_true rfl) (by decide) (fun x_29 m_29 h_29 => ?_)
          obtain ⟨rfl, rfl⟩ := h_29
          refine pw_icmp_gt (tgt := 105) dX8_stop_32 (by decide) (fun c_32 => ?_) (fun c_32 => ?_)
          · skip
            have hge : aN n ≤ i := by
              rw [hal] at c_32
              have := (nI_ltI (by omega) (by omega)).mp c_32
              omega
            refine pw_iload_n dX8_stop_105 rfl rfl ?_
            refine pw_iret dX8_stop_106 rfl ?_
            rw [show aN n - i = 0 by omega] at hx
            exact ⟨by unfold stopF; rw [show areF V (nI a0) = true from hb_5, hb_15, Bool.and_self, if_pos rfl]; exact hx, _, rfl⟩
          · skip
            have hlt : i < aN n := by
              rw [hal] at c_32
              have := (nI_leI (by omega) (by omega)).mp (Int32.not_lt.mp c_32)
              have hq : 0 < aN n := Nat.pow_pos (by decide)
              omega
            rw [show aN n - i = (aN n - (i + 1)) + 1 by omega] at hx
            change spL V n (nI a0) many _ (i + 1) (if spB b i then (if nI i &&& nI a0 = 0 then (if many < bcF (atLastF (V 6) (V 8) n (nI a0) (allF V &&& (nI i ^^^ -1)) 6) then b else nI i) else b) else b) = _ at hx
            refine pw_iload dX8_stop_35 rfl ?_
            refine pw_iload_n dX8_stop_37 rfl rfl ?_
            refine pw_iand dX8_stop_38 ?_
            refine pw_if_ne (tgt := 63) dX8_stop_39 (by decide) (fun c_39 => ?_) (fun c_39 => ?_)
            · skip
              refine pw_iconst (v := 0) dX8_stop_63 rfl ?_
              refine pw_istore (ls2 := [(5, _), (0, _), (1, _), (2, _), (3, _), (4, _)]) dX8_stop_64 (by decide) rfl ?_
              refine pw_iload dX8_stop_66 rfl ?_
              refine pw_if_eq (tgt := 97) dX8_stop_68 (by decide) (fun c_68 => ?_) (fun c_68 => ?_)
              · skip
                refine pw_iload_n dX8_stop_97 rfl rfl ?_
                refine pw_istore_n (ls2 := [(3, _), (5, _), (0, _), (1, _), (2, _), (4, _)]) dX8_stop_98 rfl (by decide) rfl ?_
                refine pw_iinc (ls2 := [(4, _), (3, _), (5, _), (0, _), (1, _), (2, _)]) (v := nI (i + 1)) dX8_stop_99 rfl (inc1 i) (by decide) rfl ?_
                refine pw_goto (tgt := 26) dX8_stop_102 (by decide) ?_
                refine pw_sub [3, 4, 5, 1, 0] rfl ?_
                rw [if_neg c_39, ite_self] at hx
                exact ih_26 (i + 1) b _ (by omega) hb hx (by omega)
              · skip
                exact absurd rfl c_68
            · skip
              refine pw_iload_n dX8_stop_42 rfl rfl ?_
              refine pw_iconst (v := (-1)) dX8_stop_43 rfl ?_
              refine pw_icmp_eq (tgt := 59) dX8_stop_44 (by decide) (fun c_44 => ?_) (fun c_44 => ?_)
              · skip
                have hsp : spB b i = true := by unfold spB; rw [if_pos c_44]
                refine pw_iconst (v := 1) dX8_stop_59 rfl ?_
                refine pw_goto (tgt := 64) dX8_stop_60 (by decide) ?_
                refine pw_istore (ls2 := [(5, _), (0, _), (1, _), (2, _), (3, _), (4, _)]) dX8_stop_64 (by decide) rfl ?_
                refine pw_iload dX8_stop_66 rfl ?_
                refine pw_if_eq (tgt := 97) dX8_stop_68 (by decide) (fun c_68 => ?_) (fun c_68 => ?_)
                · skip
                  exact absurd c_68 (by decide)
                · skip
                  refine pw_aload_n dX8_stop_71 rfl rfl ?_
                  refine pw_iload_n dX8_stop_72 rfl rfl ?_
                  refine pw_aload_n dX8_stop_73 rfl rfl ?_
                  refine pw_cVi dX8_stop_74 mv_X8_85 ckModel (T_X8_everybody (V := V)) rfl rfl (Nat.le_of_ble_eq_true rfl) (by decide) (fun x_74 m_74 h_74 => ?_)
                  obtain ⟨rfl, rfl⟩ := h_74
                  refine pw_iload dX8_stop_77 rfl ?_
                  refine pw_iconst (v := (-1)) dX8_stop_79 rfl ?_
                  refine pw_ixor dX8_stop_80 ?_
                  refine pw_iand dX8_stop_81 ?_
                  refine pw_cVi dX8_stop_82 mv_X8_238 ckModel (T_X8_atLast (a := a0) (th := allF V &&& (nI i ^^^ -1)) hn hn6 (by omega)) rfl rfl (Nat.le_of_ble_eq_true rfl) (by decide) (fun x_82 m_82 h_82 => ?_)
                  obtain ⟨rfl, rfl⟩ := h_82
                  rw [si_si]
                  obtain ⟨c, hc, ec⟩ := atL_sm (fr := V 6) (ca := V 8) (th := allF V &&& (nI i ^^^ -1)) hn6 (show a0 < 64 by omega) 6
                  rw [ec] at hx ⊢
                  refine pw_cSi dX8_stop_85 ms_X8_229 T_X8_ones rfl rfl (Nat.le_of_ble_eq_true rfl) (by decide) (fun x_85 m_85 h_85 => ?_)
                  obtain ⟨rfl, rfl⟩ := h_85
                  rw [onesF_bc c hc]
                  refine pw_iload_n dX8_stop_88 rfl rfl ?_
                  refine pw_icmp_gt (tgt := 97) dX8_stop_89 (by decide) (fun c_89 => ?_) (fun c_89 => ?_)
                  · skip
                    refine pw_iload_n dX8_stop_97 rfl rfl ?_
                    refine pw_istore_n (ls2 := [(3, _), (5, _), (0, _), (1, _), (2, _), (4, _)]) dX8_stop_98 rfl (by decide) rfl ?_
                    refine pw_iinc (ls2 := [(4, _), (3, _), (5, _), (0, _), (1, _), (2, _)]) (v := nI (i + 1)) dX8_stop_99 rfl (inc1 i) (by decide) rfl ?_
                    refine pw_goto (tgt := 26) dX8_stop_102 (by decide) ?_
                    refine pw_sub [3, 4, 5, 1, 0] rfl ?_
                    rw [hsp, if_pos rfl, if_pos c_39, if_pos c_89] at hx
                    exact ih_26 (i + 1) b _ (by omega) (hb) hx (by omega)
                  · skip
                    refine pw_iload dX8_stop_92 rfl ?_
                    refine pw_goto (tgt := 98) dX8_stop_94 (by decide) ?_
                    refine pw_istore_n (ls2 := [(3, _), (5, _), (0, _), (1, _), (2, _), (4, _)]) dX8_stop_98 rfl (by decide) rfl ?_
                    refine pw_iinc (ls2 := [(4, _), (3, _), (5, _), (0, _), (1, _), (2, _)]) (v := nI (i + 1)) dX8_stop_99 rfl (inc1 i) (by decide) rfl ?_
                    refine pw_goto (tgt := 26) dX8_stop_102 (by decide) ?_
                    refine pw_sub [3, 4, 5, 1, 0] rfl ?_
                    rw [hsp, if_pos rfl, if_pos c_39, if_neg c_89] at hx
                    exact ih_26 (i + 1) _ _ (by omega) (Or.inr ⟨i, by omega, rfl⟩) hx (by omega)
              · skip
                obtain ⟨z, hz, rfl⟩ := hb.resolve_left c_44
                refine pw_iload dX8_stop_47 rfl ?_
                refine pw_cSi dX8_stop_49 ms_X8_229 T_X8_ones rfl rfl (Nat.le_of_ble_eq_true rfl) (by decide) (fun x_49 m_49 h_49 => ?_)
                obtain ⟨rfl, rfl⟩ := h_49
                rw [onesF_bc i (by omega)]
                refine pw_iload_n dX8_stop_52 rfl rfl ?_
                refine pw_cSi dX8_stop_53 ms_X8_229 T_X8_ones rfl rfl (Nat.le_of_ble_eq_true rfl) (by decide) (fun x_53 m_53 h_53 => ?_)
                obtain ⟨rfl, rfl⟩ := h_53
                rw [onesF_bc z (by omega)]
                refine pw_icmp_ge (tgt := 63) dX8_stop_56 (by decide) (fun c_56 => ?_) (fun c_56 => ?_)
                · skip
                  have hsp : spB (nI z) i = false := by unfold spB; rw [if_neg c_44, decide_eq_true (show bcF (nI z) ≤ bcF (nI i) from c_56)]; rfl
                  refine pw_iconst (v := 0) dX8_stop_63 rfl ?_
                  refine pw_istore (ls2 := [(5, _), (0, _), (1, _), (2, _), (3, _), (4, _)]) dX8_stop_64 (by decide) rfl ?_
                  refine pw_iload dX8_stop_66 rfl ?_
                  refine pw_if_eq (tgt := 97) dX8_stop_68 (by decide) (fun c_68 => ?_) (fun c_68 => ?_)
                  · skip
                    refine pw_iload_n dX8_stop_97 rfl rfl ?_
                    refine pw_istore_n (ls2 := [(3, _), (5, _), (0, _), (1, _), (2, _), (4, _)]) dX8_stop_98 rfl (by decide) rfl ?_
                    refine pw_iinc (ls2 := [(4, _), (3, _), (5, _), (0, _), (1, _), (2, _)]) (v := nI (i + 1)) dX8_stop_99 rfl (inc1 i) (by decide) rfl ?_
                    refine pw_goto (tgt := 26) dX8_stop_102 (by decide) ?_
                    refine pw_sub [3, 4, 5, 1, 0] rfl ?_
                    rw [hsp, if_neg Bool.false_ne_true] at hx
                    exact ih_26 (i + 1) _ _ (by omega) (Or.inr ⟨z, hz, rfl⟩) hx (by omega)
                  · skip
                    exact absurd rfl c_68
                · skip
                  have hsp : spB (nI z) i = true := by unfold spB; rw [if_neg c_44, decide_eq_false (show ¬ bcF (nI z) ≤ bcF (nI i) from c_56)]; rfl
                  refine pw_iconst (v := 1) dX8_stop_59 rfl ?_
                  refine pw_goto (tgt := 64) dX8_stop_60 (by decide) ?_
                  refine pw_istore (ls2 := [(5, _), (0, _), (1, _), (2, _), (3, _), (4, _)]) dX8_stop_64 (by decide) rfl ?_
                  refine pw_iload dX8_stop_66 rfl ?_
                  refine pw_if_eq (tgt := 97) dX8_stop_68 (by decide) (fun c_68 => ?_) (fun c_68 => ?_)
                  · skip
                    exact absurd c_68 (by decide)
                  · skip
                    refine pw_aload_n dX8_stop_71 rfl rfl ?_
                    refine pw_iload_n dX8_stop_72 rfl rfl ?_
                    refine pw_aload_n dX8_stop_73 rfl rfl ?_
                    refine pw_cVi dX8_stop_74 mv_X8_85 ckModel (T_X8_everybody (V := V)) rfl rfl (Nat.le_of_ble_eq_true rfl) (by decide) (fun x_74 m_74 h_74 => ?_)
                    obtain ⟨rfl, rfl⟩ := h_74
                    refine pw_iload dX8_stop_77 rfl ?_
                    refine pw_iconst (v := (-1)) dX8_stop_79 rfl ?_
                    refine pw_ixor dX8_stop_80 ?_
                    refine pw_iand dX8_stop_81 ?_
                    refine pw_cVi dX8_stop_82 mv_X8_238 ckModel (T_X8_atLast (a := a0) (th := allF V &&& (nI i ^^^ -1)) hn hn6 (by omega)) rfl rfl (Nat.le_of_ble_eq_true rfl) (by decide) (fun x_82 m_82 h_82 => ?_)
                    obtain ⟨rfl, rfl⟩ := h_82
                    rw [si_si]
                    obtain ⟨c, hc, ec⟩ := atL_sm (fr := V 6) (ca := V 8) (th := allF V &&& (nI i ^^^ -1)) hn6 (show a0 < 64 by omega) 6
                    rw [ec] at hx ⊢
                    refine pw_cSi dX8_stop_85 ms_X8_229 T_X8_ones rfl rfl (Nat.le_of_ble_eq_true rfl) (by decide) (fun x_85 m_85 h_85 => ?_)
                    obtain ⟨rfl, rfl⟩ := h_85
                    rw [onesF_bc c hc]
                    refine pw_iload_n dX8_stop_88 rfl rfl ?_
                    refine pw_icmp_gt (tgt := 97) dX8_stop_89 (by decide) (fun c_89 => ?_) (fun c_89 => ?_)
                    · skip
                      refine pw_iload_n dX8_stop_97 rfl rfl ?_
                      refine pw_istore_n (ls2 := [(3, _), (5, _), (0, _), (1, _), (2, _), (4, _)]) dX8_stop_98 rfl (by decide) rfl ?_
                      refine pw_iinc (ls2 := [(4, _), (3, _), (5, _), (0, _), (1, _), (2, _)]) (v := nI (i + 1)) dX8_stop_99 rfl (inc1 i) (by decide) rfl ?_
                      refine pw_goto (tgt := 26) dX8_stop_102 (by decide) ?_
                      refine pw_sub [3, 4, 5, 1, 0] rfl ?_
                      rw [hsp, if_pos rfl, if_pos c_39, if_pos c_89] at hx
                      exact ih_26 (i + 1) _ _ (by omega) (Or.inr ⟨z, hz, rfl⟩) hx (by omega)
                    · skip
                      refine pw_iload dX8_stop_92 rfl ?_
                      refine pw_goto (tgt := 98) dX8_stop_94 (by decide) ?_
                      refine pw_istore_n (ls2 := [(3, _), (5, _), (0, _), (1, _), (2, _), (4, _)]) dX8_stop_98 rfl (by decide) rfl ?_
                      refine pw_iinc (ls2 := [(4, _), (3, _), (5, _), (0, _), (1, _), (2, _)]) (v := nI (i + 1)) dX8_stop_99 rfl (inc1 i) (by decide) rfl ?_
                      refine pw_goto (tgt := 26) dX8_stop_102 (by decide) ?_
                      refine pw_sub [3, 4, 5, 1, 0] rfl ?_
                      rw [hsp, if_pos rfl, if_pos c_39, if_neg c_89] at hx
                      exact ih_26 (i + 1) _ _ (by omega) (Or.inr ⟨i, by omega, rfl⟩) hx (by omega)
      refine pw_sub [2, 3, 4, 1, 0] rfl ?_
      have hL := L_26 (aN n + 1) 0 (-1) (μ.1 0 38) (Nat.zero_le _) (Or.inl rfl) rfl (by omega)
      rw [si_id] at hL
      exact hL
    · skip
      have hb_15 := b2_0 c_15
      refine pw_bipush (v := (-2)) dX8_stop_18 rfl ?_
      refine pw_iret dX8_stop_20 rfl ?_
      exact ⟨by unfold stopF; rw [hb_5, hb_15]; rfl, μ.1 0 38, by rw [si_id]⟩

