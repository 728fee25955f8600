theorem nI_ltD {i n : Nat} (hi : i < 2 ^ 31) (h : ¬ nI n ≤ nI i) : i < n := by
  rcases Nat.lt_or_ge i n with q | q
  · exact q
  · exact absurd (nI_le q hi) h
theorem nI_geD {i n : Nat} (hn : n < 2 ^ 31) (h : nI n ≤ nI i) : n ≤ i := by
  rcases Nat.lt_or_ge i n with q | q
  · exact absurd h (nI_ge q hn)
  · exact q
theorem in_false {v : Int32} {n : Nat} (h : inF v 0 (nI n - 1) = false) (hn : n < 2 ^ 30) : ∀ j, j < n → v ≠ nI j := by
  intro j hj e
  rw [e, in_t hj hn] at h
  cases h
theorem in_true {v : Int32} {n : Nat} (h : inF v 0 (nI n - 1) = true) (hn : n < 2 ^ 30) : ∃ j, j < n ∧ v = nI j := by
  unfold inF at h
  simp only [Bool.and_eq_true, decide_eq_true_eq] at h
  obtain ⟨h1, h2⟩ := h
  obtain ⟨j, hj, rfl⟩ := nI_of (Int32.not_lt.mpr h1)
  refine ⟨j, ?_, rfl⟩
  cases n with
  | zero => exact absurd (Int32.le_trans h1 h2) (by decide)
  | succ n =>
    rw [nI_sub1] at h2
    have := (nI_leI hj (by omega)).mp h2
    omega
theorem in_trueL {v : Int32} {n : Nat} (h : inF v 0 (nI n) = true) (hn : n < 2 ^ 30) : ∃ j, j ≤ n ∧ v = nI j := by
  unfold inF at h
  simp only [Bool.and_eq_true, decide_eq_true_eq] at h
  obtain ⟨h1, h2⟩ := h
  obtain ⟨j, hj, rfl⟩ := nI_of (Int32.not_lt.mpr h1)
  exact ⟨j, (nI_leI hj (by omega)).mp h2, rfl⟩
theorem in_le {j n : Nat} (h : j ≤ n) (hn : n < 2 ^ 30) : inF (nI j) 0 (nI n) = true := by
  unfold inF
  rw [decide_eq_true (nI_pos' (by omega)), decide_eq_true (nI_le h (by omega))]
  rfl
theorem in_nle {j n : Nat} (h : n < j) (hn : j < 2 ^ 30) : inF (nI j) 0 (nI n) = false := by
  unfold inF
  rw [decide_eq_false (nI_ge h (by omega))]
  cases decide (0 ≤ nI j) <;> rfl
def aJok (kind more : Int32) : Bool := inF kind 0 5 && inF more 0 9
def aJx (n : Nat) (kind more : Int32) : Int32 := if aJok kind more then (if n < 5 then nI n else -4) else -2
def addJV (V : VW) (n : Nat) (kind more : Int32) : VW := vu (vu (vu (vu V 1 n kind) 2 n more) 3 n 0) 0 1 (nI (n + 1))
def aJV (V : VW) (n : Nat) (kind more : Int32) : VW := if aJok kind more then (if n < 5 then addJV V n kind more else V) else V
def addHV (V : VW) (n : Nat) (fun0 from0 : Int32) : VW := vu (vu (vu (vu (vu (vu V 4 n fun0) 5 n 0) 6 n 0) 7 n 0) 8 n from0) 0 5 (nI (n + 1))
def cpR (s d : Nat → Int32) (n : Nat) : Nat → Int32 := fun j => if j < n then s j else d j
theorem cpR_0 (s d : Nat → Int32) : cpR s d 0 = d := funext fun j => if_neg (Nat.not_lt_zero j)
theorem cpR_s (s d : Nat → Int32) (i : Nat) : upd (cpR s d i) i (s i) = cpR s d (i + 1) := by
  funext j
  unfold cpR
  by_cases h : j = i
  · subst h
    rw [upd_s, if_pos (Nat.lt_succ_self _)]
  · rw [upd_o _ _ h]
    by_cases h2 : j < i
    · rw [if_pos h2, if_pos (by omega)]
    · rw [if_neg h2, if_neg (by omega)]
def cpX (V T : VW) (a b c : Nat) : VW := fun r => match r with
  | 0 => upd (upd (upd (upd (T 0) 1 (V 0 1)) 5 (V 0 5)) 12 (V 0 12)) 13 (V 0 13)
  | 1 => cpR (V 1) (T 1) a | 2 => cpR (V 2) (T 2) a | 3 => cpR (V 3) (T 3) a
  | 4 => cpR (V 4) (T 4) b | 5 => cpR (V 5) (T 5) b | 6 => cpR (V 6) (T 6) b | 7 => cpR (V 7) (T 7) b | 8 => cpR (V 8) (T 8) b
  | 9 => cpR (V 9) (T 9) c
  | r => T r
def cpV (V T : VW) : VW := cpX V T 5 6 16
theorem VW_ext {V W : VW} (h0 : V 0 = W 0) (h1 : V 1 = W 1) (h2 : V 2 = W 2) (h3 : V 3 = W 3) (h4 : V 4 = W 4) (h5 : V 5 = W 5) (h6 : V 6 = W 6) (h7 : V 7 = W 7) (h8 : V 8 = W 8) (h9 : V 9 = W 9) (h : ∀ r, V (r + 10) = W (r + 10)) : V = W := by
  funext r
  match r with
  | 0 => exact h0 | 1 => exact h1 | 2 => exact h2 | 3 => exact h3 | 4 => exact h4 | 5 => exact h5 | 6 => exact h6 | 7 => exact h7 | 8 => exact h8 | 9 => exact h9
  | r + 10 => exact h r
theorem cpX_0 (V T : VW) : vu (vu (vu (vu T 0 1 (V 0 1)) 0 5 (V 0 5)) 0 12 (V 0 12)) 0 13 (V 0 13) = cpX V T 0 0 0 :=
  VW_ext rfl (cpR_0 _ _).symm (cpR_0 _ _).symm (cpR_0 _ _).symm (cpR_0 _ _).symm (cpR_0 _ _).symm (cpR_0 _ _).symm (cpR_0 _ _).symm (cpR_0 _ _).symm (cpR_0 _ _).symm (fun _ => rfl)
theorem cpX_a (V T : VW) (i b c : Nat) : vu (vu (vu (cpX V T i b c) 1 i (V 1 i)) 2 i (V 2 i)) 3 i (V 3 i) = cpX V T (i + 1) b c :=
  VW_ext rfl (cpR_s (V 1) (T 1) i) (cpR_s (V 2) (T 2) i) (cpR_s (V 3) (T 3) i) rfl rfl rfl rfl rfl rfl (fun _ => rfl)
theorem cpX_b (V T : VW) (a i c : Nat) : vu (vu (vu (vu (vu (cpX V T a i c) 4 i (V 4 i)) 5 i (V 5 i)) 6 i (V 6 i)) 7 i (V 7 i)) 8 i (V 8 i) = cpX V T a (i + 1) c :=
  VW_ext rfl rfl rfl rfl (cpR_s (V 4) (T 4) i) (cpR_s (V 5) (T 5) i) (cpR_s (V 6) (T 6) i) (cpR_s (V 7) (T 7) i) (cpR_s (V 8) (T 8) i) rfl (fun _ => rfl)
theorem cpX_c (V T : VW) (a b i : Nat) : vu (cpX V T a b i) 9 i (V 9 i) = cpX V T a b (i + 1) :=
  VW_ext rfl rfl rfl rfl rfl rfl rfl rfl rfl (cpR_s (V 9) (T 9) i) (fun _ => rfl)
/-- two worlds apart -/
def apW (w w2 : Nat) : Prop := isW w ∧ isW w2 ∧ w ≠ w2
theorem rd2 {μ : PM} {w w2 : Nat} {V T : VW} {nm sk : Nat → Int32} {r : Nat} (h : apW w w2) (hr : r < 10) : (sc (wr (wr μ w2 V) w T) nm sk).1 (w2 + r) = V r := by
  have h1 := isW_ge h.1
  have h2 := isW_ge h.2.1
  have h3 : w2 + r < w ∨ w + 10 ≤ w2 + r := by
    obtain ⟨a, b, c⟩ := h
    rcases a with rfl | rfl | rfl <;> rcases b with rfl | rfl | rfl <;> omega
  rw [rd_sc (by omega) (by omega), rd_wrO h3, rd_wr hr]
theorem rd20 {μ : PM} {w w2 : Nat} {V T : VW} {nm sk : Nat → Int32} (h : apW w w2) : (sc (wr (wr μ w2 V) w T) nm sk).1 w2 = V 0 := rd2 (r := 0) h (by decide)
/-- the greatest of the first n, the first of like ones -/
def amx (f : Nat → Int32) : Nat → Int32 × Nat
  | 0 => (-1, 0)
  | n + 1 => if (amx f n).1 < f n then (f n, n) else amx f n
def cdF (nh i : Nat) : Nat := 10 * (i / nh) + i % nh
def yAt (B : BK) (V : VW) (nh i : Nat) : Int32 := yF B V (i / nh) (i % nh)
def mtlF (fr ca : Nat → Int32) (n : Nat) (th : Int32) : Nat → Int32 → Nat
  | 0, _ => 0
  | m + 1, la => if minuteF fr ca la th n = la then 0 else mtlF fr ca n th m (minuteF fr ca la th n) + 1
def chF (rt : Nat → Int32) (a b : Nat) (much : Int64) : Int64 := if a = b then much else much * (rt (4 * a + b)).toInt64 / 100
theorem divmod_at {nh j h : Nat} (hh : h < nh) : (j * nh + h) / nh = j ∧ (j * nh + h) % nh = h := by
  have hp : 0 < nh := by omega
  refine ⟨?_, ?_⟩
  · rw [Nat.mul_comm, Nat.mul_add_div hp, Nat.div_eq_of_lt hh, Nat.add_zero]
  · rw [Nat.mul_comm, Nat.mul_add_mod, Nat.mod_eq_of_lt hh]
set_option maxHeartbeats 4000000 in
set_option maxRecDepth 100000 in
theorem T_X6_hasJoke {l : Launch} {μ : PM} {w : Nat} {V : VW} {nm sk : Nat → Int32} {j : Int32} (hw : isW w) : CT l SC yX6_hasJoke cX6_hasJoke 2 (some .boolean) 2 [.ref w, .int j] (sc (wr μ w V) nm sk) (QI fun x m => x = b2 (inF j 0 (V 0 1 - 1)) ∧ m = sc (wr μ w V) nm sk) := by
  refine CT.of rfl (Nat.le_of_ble_eq_true rfl) ?_
  show PW l SC RX6 cX6_hasJoke 2 (some .boolean) 2 _ 0 [(0, .ref w), (1, .int j)] [] (sc (wr μ w V) nm sk)
  refine pw_iload_n dX6_hasJoke_0 rfl rfl ?_
  refine pw_iconst (v := 0) dX6_hasJoke_1 rfl ?_
  refine pw_aload_n dX6_hasJoke_2 rfl rfl ?_
  refine pw_getI dX6_hasJoke_3 fa_X6_9 (gkW hw rfl) ?_
  refine pw_top (y := V 0 1) (by rw [rdw0 hw] <;> rfl) ?_
  refine pw_iconst (v := 1) dX6_hasJoke_6 rfl ?_
  refine pw_isub dX6_hasJoke_7 ?_
  refine pw_cSi dX6_hasJoke_8 ms_X6_56 T_X7_within rfl rfl (Nat.le_of_ble_eq_true rfl) (by decide) (fun x_8 m_8 h_8 => ?_)
  obtain ⟨rfl, rfl⟩ := h_8
  refine pw_zret dX6_hasJoke_11 rfl (b2_01 _) ?_
  exact ⟨rfl, rfl⟩

set_option maxHeartbeats 4000000 in
set_option maxRecDepth 100000 in
theorem T_X6_hasHearer {l : Launch} {μ : PM} {w : Nat} {V : VW} {nm sk : Nat → Int32} {j : Int32} (hw : isW w) : CT l SC yX6_hasHearer cX6_hasHearer 2 (some .boolean) 2 [.ref w, .int j] (sc (wr μ w V) nm sk) (QI fun x m => x = b2 (inF j 0 (V 0 5 - 1)) ∧ m = sc (wr μ w V) nm sk) := by
  refine CT.of rfl (Nat.le_of_ble_eq_true rfl) ?_
  show PW l SC RX6 cX6_hasHearer 2 (some .boolean) 2 _ 0 [(0, .ref w), (1, .int j)] [] (sc (wr μ w V) nm sk)
  refine pw_iload_n dX6_hasHearer_0 rfl rfl ?_
  refine pw_iconst (v := 0) dX6_hasHearer_1 rfl ?_
  refine pw_aload_n dX6_hasHearer_2 rfl rfl ?_
  refine pw_getI dX6_hasHearer_3 fa_X6_25 (gkW hw rfl) ?_
  refine pw_top (y := V 0 5) (by rw [rdw0 hw] <;> rfl) ?_
  refine pw_iconst (v := 1) dX6_hasHearer_6 rfl ?_
  refine pw_isub dX6_hasHearer_7 ?_
  refine pw_cSi dX6_hasHearer_8 ms_X6_56 T_X7_within rfl rfl (Nat.le_of_ble_eq_true rfl) (by decide) (fun x_8 m_8 h_8 => ?_)
  obtain ⟨rfl, rfl⟩ := h_8
  refine pw_zret dX6_hasHearer_11 rfl (b2_01 _) ?_
  exact ⟨rfl, rfl⟩

set_option maxHeartbeats 4000000 in
set_option maxRecDepth 100000 in
theorem T_X6_canTell {l : Launch} {μ : PM} {w : Nat} {V : VW} {nm sk : Nat → Int32} {nj nh : Nat} (hw : isW w) (h1 : V 0 1 = nI nj) (h5 : V 0 5 = nI nh) (hj5 : nj ≤ 5) (hh6 : nh ≤ 6) : CT l SC yX6_canTell cX6_canTell 1 (some .boolean) 1 [.ref w] (sc (wr μ w V) nm sk) (QI fun x m => x = b2 (decide (0 < nj) && decide (0 < nh)) ∧ m = sc (wr μ w V) nm sk) := by
  refine CT.of rfl (Nat.le_of_ble_eq_true rfl) ?_
  show PW l SC RX6 cX6_canTell 1 (some .boolean) 1 _ 0 [(0, .ref w)] [] (sc (wr μ w V) nm sk)
  refine pw_aload_n dX6_canTell_0 rfl rfl ?_
  refine pw_getI dX6_canTell_1 fa_X6_9 (gkW hw rfl) ?_
  refine pw_top (y := nI nj) (by rw [rdw0 hw]; exact h1) ?_
  refine pw_if_le (tgt := 18) dX6_canTell_4 (by decide) (fun c_4 => ?_) (fun c_4 => ?_)
  · skip
    have e1 : ¬ 0 < nj := fun h => nI_nle h (by omega) c_4
    refine pw_iconst (v := 0) dX6_canTell_18 rfl ?_
    refine pw_zret dX6_canTell_19 rfl (by simp) ?_
    exact ⟨by rw [decide_eq_false e1]; rfl, rfl⟩
  · skip
    have e1 : 0 < nj := by
      rcases Nat.eq_zero_or_pos nj with h | h
      · exact absurd (by rw [h]; decide) c_4
      · exact h
    refine pw_aload_n dX6_canTell_7 rfl rfl ?_
    refine pw_getI dX6_canTell_8 fa_X6_25 (gkW hw rfl) ?_
    refine pw_top (y := nI nh) (by rw [rdw0 hw]; exact h5) ?_
    refine pw_if_le (tgt := 18) dX6_canTell_11 (by decide) (fun c_11 => ?_) (fun c_11 => ?_)
    · skip
      have e2 : ¬ 0 < nh := fun h => nI_nle h (by omega) c_11
      refine pw_iconst (v := 0) dX6_canTell_18 rfl ?_
      refine pw_zret dX6_canTell_19 rfl (by simp) ?_
      exact ⟨by rw [decide_eq_true e1, decide_eq_false e2]; rfl, rfl⟩
    · skip
      have e2 : 0 < nh := by
        rcases Nat.eq_zero_or_pos nh with h | h
        · exact absurd (by rw [h]; decide) c_11
        · exact h
      refine pw_iconst (v := 1) dX6_canTell_14 rfl ?_
      refine pw_goto (tgt := 19) dX6_canTell_15 (by decide) ?_
      refine pw_zret dX6_canTell_19 rfl (by simp) ?_
      exact ⟨by rw [decide_eq_true e1, decide_eq_true e2]; rfl, rfl⟩

set_option maxHeartbeats 4000000 in
set_option maxRecDepth 100000 in
theorem T_X6_allJokes {l : Launch} {μ : PM} {w : Nat} {V : VW} {nm sk : Nat → Int32}  (hw : isW w) : CT l SC yX6_allJokes cX6_allJokes 1 (some .int) 1 [.ref w] (sc (wr μ w V) nm sk) (QI fun x m => x = ((1 : Int32) <<< (V 0 1 &&& 31)) - 1 ∧ m = sc (wr μ w V) nm sk) := by
  refine CT.of rfl (Nat.le_of_ble_eq_true rfl) ?_
  show PW l SC RX6 cX6_allJokes 1 (some .int) 1 _ 0 [(0, .ref w)] [] (sc (wr μ w V) nm sk)
  refine pw_iconst (v := 1) dX6_allJokes_0 rfl ?_
  refine pw_aload_n dX6_allJokes_1 rfl rfl ?_
  refine pw_getI dX6_allJokes_2 fa_X6_9 (gkW hw rfl) ?_
  refine pw_top (y := V 0 1) (by rw [rdw0 hw] <;> rfl) ?_
  refine pw_ishl dX6_allJokes_5 ?_
  refine pw_iconst (v := 1) dX6_allJokes_6 rfl ?_
  refine pw_isub dX6_allJokes_7 ?_
  refine pw_iret dX6_allJokes_8 rfl ?_
  exact ⟨rfl, rfl⟩

set_option maxHeartbeats 4000000 in
set_option maxRecDepth 100000 in
theorem T_X6_allHearers {l : Launch} {μ : PM} {w : Nat} {V : VW} {nm sk : Nat → Int32}  (hw : isW w) : CT l SC yX6_allHearers cX6_allHearers 1 (some .int) 1 [.ref w] (sc (wr μ w V) nm sk) (QI fun x m => x = ((1 : Int32) <<< (V 0 5 &&& 31)) - 1 ∧ m = sc (wr μ w V) nm sk) := by
  refine CT.of rfl (Nat.le_of_ble_eq_true rfl) ?_
  show PW l SC RX6 cX6_allHearers 1 (some .int) 1 _ 0 [(0, .ref w)] [] (sc (wr μ w V) nm sk)
  refine pw_iconst (v := 1) dX6_allHearers_0 rfl ?_
  refine pw_aload_n dX6_allHearers_1 rfl rfl ?_
  refine pw_getI dX6_allHearers_2 fa_X6_25 (gkW hw rfl) ?_
  refine pw_top (y := V 0 5) (by rw [rdw0 hw] <;> rfl) ?_
  refine pw_ishl dX6_allHearers_5 ?_
  refine pw_iconst (v := 1) dX6_allHearers_6 rfl ?_
  refine pw_isub dX6_allHearers_7 ?_
  refine pw_iret dX6_allHearers_8 rfl ?_
  exact ⟨rfl, rfl⟩

set_option maxHeartbeats 4000000 in
set_option maxRecDepth 100000 in
theorem T_X6_areHearers {l : Launch} {μ : PM} {w : Nat} {V : VW} {nm sk : Nat → Int32} {b : Int32} (hw : isW w) : CT l SC yX6_areHearers cX6_areHearers 2 (some .boolean) 2 [.ref w, .int b] (sc (wr μ w V) nm sk) (QI fun x m => x = b2 (inF b 0 (((1 : Int32) <<< (V 0 5 &&& 31)) - 1)) ∧ m = sc (wr μ w V) nm sk) := by
  refine CT.of rfl (Nat.le_of_ble_eq_true rfl) ?_
  show PW l SC RX6 cX6_areHearers 2 (some .boolean) 2 _ 0 [(0, .ref w), (1, .int b)] [] (sc (wr μ w V) nm sk)
  refine pw_iload_n dX6_areHearers_0 rfl rfl ?_
  refine pw_iconst (v := 0) dX6_areHearers_1 rfl ?_
  refine pw_aload_n dX6_areHearers_2 rfl rfl ?_
  refine pw_cVi dX6_areHearers_3 mv_X6_60 (ckW hw) (T_X6_allHearers hw) rfl rfl (Nat.le_of_ble_eq_true rfl) (by decide) (fun x_3 m_3 h_3 => ?_)
  obtain ⟨rfl, rfl⟩ := h_3
  refine pw_cSi dX6_areHearers_6 ms_X6_56 T_X7_within rfl rfl (Nat.le_of_ble_eq_true rfl) (by decide) (fun x_6 m_6 h_6 => ?_)
  obtain ⟨rfl, rfl⟩ := h_6
  refine pw_zret dX6_areHearers_9 rfl (b2_01 _) ?_
  exact ⟨rfl, rfl⟩

set_option maxHeartbeats 4000000 in
set_option maxRecDepth 100000 in
theorem T_X6_addJoke {l : Launch} {μ : PM} {w : Nat} {V : VW} {nm sk : Nat → Int32} {n : Nat} {kind more : Int32} (hw : isW w) (hn : V 0 1 = nI n) (hn5 : n ≤ 5) : CT l SC yX6_addJoke cX6_addJoke 4 (some .int) 2 [.ref w, .int kind, .int more] (sc (wr μ w V) nm sk) (QI fun x m => x = aJx n kind more ∧ m = sc (wr μ w (aJV V n kind more)) nm sk) := by
  refine CT.of rfl (Nat.le_of_ble_eq_true rfl) ?_
  show PW l SC RX6 cX6_addJoke 4 (some .int) 2 _ 0 [(0, .ref w), (1, .int kind), (2, .int more)] [] (sc (wr μ w V) nm sk)
  refine pw_iload_n dX6_addJoke_0 rfl rfl ?_
  refine pw_iconst (v := 0) dX6_addJoke_1 rfl ?_
  refine pw_iconst (v := 5) dX6_addJoke_2 rfl ?_
  refine pw_cSi dX6_addJoke_3 ms_X6_56 T_X7_within rfl rfl (Nat.le_of_ble_eq_true rfl) (by decide) (fun x_3 m_3 h_3 => ?_)
  obtain ⟨rfl, rfl⟩ := h_3
  refine pw_if_eq (tgt := 19) dX6_addJoke_6 (by decide) (fun c_6 => ?_) (fun c_6 => ?_)
  · skip
    have e1 := b2_0 c_6
    refine pw_bipush (v := (-2)) dX6_addJoke_19 rfl ?_
    refine pw_iret dX6_addJoke_21 rfl ?_
    exact ⟨by unfold aJx aJok; rw [e1]; rfl, by unfold aJV aJok; rw [e1]; rfl⟩
  · skip
    have e1 := b2_n c_6
    refine pw_iload_n dX6_addJoke_9 rfl rfl ?_
    refine pw_iconst (v := 0) dX6_addJoke_10 rfl ?_
    refine pw_bipush (v := 9) dX6_addJoke_11 rfl ?_
    refine pw_cSi dX6_addJoke_13 ms_X6_56 T_X7_within rfl rfl (Nat.le_of_ble_eq_true rfl) (by decide) (fun x_13 m_13 h_13 => ?_)
    obtain ⟨rfl, rfl⟩ := h_13
    refine pw_if_ne (tgt := 22) dX6_addJoke_16 (by decide) (fun c_16 => ?_) (fun c_16 => ?_)
    · skip
      have e2 := b2_n c_16
      refine pw_aload_n dX6_addJoke_22 rfl rfl ?_
      refine pw_getI dX6_addJoke_23 fa_X6_9 (gkW hw rfl) ?_
      refine pw_top (y := nI n) (by rw [rdw0 hw]; exact hn) ?_
      refine pw_iconst (v := 5) dX6_addJoke_26 rfl ?_
      refine pw_icmp_lt (tgt := 33) dX6_addJoke_27 (by decide) (fun c_27 => ?_) (fun c_27 => ?_)
      · skip
        have hlt : n < 5 := (nI_ltI (by omega) (by decide)).mp c_27
        refine pw_aload_n dX6_addJoke_33 rfl rfl ?_
        refine pw_getI dX6_addJoke_34 fa_X6_9 (gkW hw rfl) ?_
        refine pw_top (y := nI n) (by rw [rdw0 hw]; exact hn) ?_
        refine pw_istore_n (ls2 := [(3, _), (0, _), (1, _), (2, _)]) dX6_addJoke_37 rfl (by decide) rfl ?_
        refine pw_aload_n dX6_addJoke_38 rfl rfl ?_
        refine pw_getR dX6_addJoke_39 fa_X6_15 (gkW hw rfl) ?_
        refine pw_iload_n dX6_addJoke_42 rfl rfl ?_
        refine pw_iload_n dX6_addJoke_43 rfl rfl ?_
        refine pw_iast (j := n) dX6_addJoke_44 (akW hw rfl) rfl hlt ?_
        refine pw_mem (siw hw (by decide)) ?_
        refine pw_aload_n dX6_addJoke_45 rfl rfl ?_
        refine pw_getR dX6_addJoke_46 fa_X6_19 (gkW hw rfl) ?_
        refine pw_iload_n dX6_addJoke_49 rfl rfl ?_
        refine pw_iload_n dX6_addJoke_50 rfl rfl ?_
        refine pw_iast (j := n) dX6_addJoke_51 (akW hw rfl) rfl hlt ?_
        refine pw_mem (siw hw (by decide)) ?_
        refine pw_aload_n dX6_addJoke_52 rfl rfl ?_
        refine pw_getR dX6_addJoke_53 fa_X6_22 (gkW hw rfl) ?_
        refine pw_iload_n dX6_addJoke_56 rfl rfl ?_
        refine pw_iconst (v := 0) dX6_addJoke_57 rfl ?_
        refine pw_iast (j := n) dX6_addJoke_58 (akW hw rfl) rfl hlt ?_
        refine pw_mem (siw hw (by decide)) ?_
        refine pw_aload_n dX6_addJoke_59 rfl rfl ?_
        refine pw_dup dX6_addJoke_60 rfl ?_
        refine pw_getI dX6_addJoke_61 fa_X6_9 (gkW hw rfl) ?_
        refine pw_top (y := nI n) (by rw [rdw0 hw]; exact hn) ?_
        refine pw_iconst (v := 1) dX6_addJoke_64 rfl ?_
        refine pw_iadd dX6_addJoke_65 ?_
        refine pw_top (y := nI (n + 1)) (nI_1 n) ?_
        refine pw_putI dX6_addJoke_66 fa_X6_9 (gkW hw rfl) ?_
        refine pw_mem (siw0 hw) ?_
        refine pw_iload_n dX6_addJoke_69 rfl rfl ?_
        refine pw_iret dX6_addJoke_70 rfl ?_
        exact ⟨by unfold aJx aJok; rw [e1, e2, Bool.and_self, if_pos rfl, if_pos hlt], by unfold aJV aJok; rw [e1, e2, Bool.and_self, if_pos rfl, if_pos hlt]; rfl⟩
      · skip
        have hge : ¬ n < 5 := fun h => c_27 (nI_lt h (by decide))
        refine pw_bipush (v := (-4)) dX6_addJoke_30 rfl ?_
        refine pw_iret dX6_addJoke_32 rfl ?_
        exact ⟨by unfold aJx aJok; rw [e1, e2, Bool.and_self, if_pos rfl, if_neg hge], by unfold aJV aJok; rw [e1, e2, Bool.and_self, if_pos rfl, if_neg hge]⟩
    · skip
      have e2 := b2_0 c_16
      refine pw_bipush (v := (-2)) dX6_addJoke_19 rfl ?_
      refine pw_iret dX6_addJoke_21 rfl ?_
      exact ⟨by unfold aJx aJok; rw [e1, e2]; rfl, by unfold aJV aJok; rw [e1, e2]; rfl⟩

set_option maxHeartbeats 4000000 in
set_option maxRecDepth 100000 in
theorem T_X6_addHearer {l : Launch} {μ : PM} {w : Nat} {V : VW} {nm sk : Nat → Int32} {n : Nat} {fu fr : Int32} (hw : isW w) (hn : V 0 5 = nI n) (hn6 : n < 6) : CT l SC yX6_addHearer cX6_addHearer 4 (some .int) 1 [.ref w, .int fu, .int fr] (sc (wr μ w V) nm sk) (QI fun x m => x = nI n ∧ m = sc (wr μ w (addHV V n fu fr)) nm sk) := by
  refine CT.of rfl (Nat.le_of_ble_eq_true rfl) ?_
  show PW l SC RX6 cX6_addHearer 4 (some .int) 1 _ 0 [(0, .ref w), (1, .int fu), (2, .int fr)] [] (sc (wr μ w V) nm sk)
  refine pw_aload_n dX6_addHearer_0 rfl rfl ?_
  refine pw_getI dX6_addHearer_1 fa_X6_25 (gkW hw rfl) ?_
  refine pw_top (y := nI n) (by rw [rdw0 hw]; exact hn) ?_
  refine pw_istore_n (ls2 := [(3, _), (0, _), (1, _), (2, _)]) dX6_addHearer_4 rfl (by decide) rfl ?_
  refine pw_aload_n dX6_addHearer_5 rfl rfl ?_
  refine pw_getR dX6_addHearer_6 fa_X6_28 (gkW hw rfl) ?_
  refine pw_iload_n dX6_addHearer_9 rfl rfl ?_
  refine pw_iload_n dX6_addHearer_10 rfl rfl ?_
  refine pw_iast (j := n) dX6_addHearer_11 (akW hw rfl) rfl hn6 ?_
  refine pw_mem (siw hw (by decide)) ?_
  refine pw_aload_n dX6_addHearer_12 rfl rfl ?_
  refine pw_getR dX6_addHearer_13 fa_X6_31 (gkW hw rfl) ?_
  refine pw_iload_n dX6_addHearer_16 rfl rfl ?_
  refine pw_iconst (v := 0) dX6_addHearer_17 rfl ?_
  refine pw_iast (j := n) dX6_addHearer_18 (akW hw rfl) rfl hn6 ?_
  refine pw_mem (siw hw (by decide)) ?_
  refine pw_aload_n dX6_addHearer_19 rfl rfl ?_
  refine pw_getR dX6_addHearer_20 fa_X6_34 (gkW hw rfl) ?_
  refine pw_iload_n dX6_addHearer_23 rfl rfl ?_
  refine pw_iconst (v := 0) dX6_addHearer_24 rfl ?_
  refine pw_iast (j := n) dX6_addHearer_25 (akW hw rfl) rfl hn6 ?_
  refine pw_mem (siw hw (by decide)) ?_
  refine pw_aload_n dX6_addHearer_26 rfl rfl ?_
  refine pw_getR dX6_addHearer_27 fa_X6_37 (gkW hw rfl) ?_
  refine pw_iload_n dX6_addHearer_30 rfl rfl ?_
  refine pw_iconst (v := 0) dX6_addHearer_31 rfl ?_
  refine pw_iast (j := n) dX6_addHearer_32 (akW hw rfl) rfl hn6 ?_
  refine pw_mem (siw hw (by decide)) ?_
  refine pw_aload_n dX6_addHearer_33 rfl rfl ?_
  refine pw_getR dX6_addHearer_34 fa_X6_40 (gkW hw rfl) ?_
  refine pw_iload_n dX6_addHearer_37 rfl rfl ?_
  refine pw_iload_n dX6_addHearer_38 rfl rfl ?_
  refine pw_iast (j := n) dX6_addHearer_39 (akW hw rfl) rfl hn6 ?_
  refine pw_mem (siw hw (by decide)) ?_
  refine pw_aload_n dX6_addHearer_40 rfl rfl ?_
  refine pw_dup dX6_addHearer_41 rfl ?_
  refine pw_getI dX6_addHearer_42 fa_X6_25 (gkW hw rfl) ?_
  refine pw_top (y := nI n) (by rw [rdw0 hw]; exact hn) ?_
  refine pw_iconst (v := 1) dX6_addHearer_45 rfl ?_
  refine pw_iadd dX6_addHearer_46 ?_
  refine pw_top (y := nI (n + 1)) (nI_1 n) ?_
  refine pw_putI dX6_addHearer_47 fa_X6_25 (gkW hw rfl) ?_
  refine pw_mem (siw0 hw) ?_
  refine pw_iload_n dX6_addHearer_50 rfl rfl ?_
  refine pw_iret dX6_addHearer_51 rfl ?_
  exact ⟨rfl, rfl⟩

set_option maxHeartbeats 4000000 in
set_option maxRecDepth 100000 in
theorem T_X6_trait {l : Launch} {μ : PM} {w : Nat} {V : VW} {nm sk : Nat → Int32} {h : Nat} {what : Int32} (hw : isW w) (hh : h < 6) : CT l SC yX6_trait cX6_trait 3 (some .int) 1 [.ref w, .int (nI h), .int what] (sc (wr μ w V) nm sk) (QI fun x m => x = (if what = 0 then V 4 h else if what = 1 then V 5 h else if what = 2 then V 6 h else if what = 3 then V 7 h else V 8 h) ∧ m = sc (wr μ w V) nm sk) := by
  refine CT.of rfl (Nat.le_of_ble_eq_true rfl) ?_
  show PW l SC RX6 cX6_trait 3 (some .int) 1 _ 0 [(0, .ref w), (1, .int (nI h)), (2, .int what)] [] (sc (wr μ w V) nm sk)
  refine pw_iload_n dX6_trait_0 rfl rfl ?_
  by_cases q_1_0 : what = 0
  · skip
    refine pw_tsIn (v := 0) (tgt := 32) dX6_trait_1 q_1_0 (by decide) (by decide) rfl (by decide) ?_
    refine pw_aload_n dX6_trait_32 rfl rfl ?_
    refine pw_getR dX6_trait_33 fa_X6_28 (gkW hw rfl) ?_
    refine pw_iload_n dX6_trait_36 rfl rfl ?_
    refine pw_iald (j := h) dX6_trait_37 (akW hw rfl) rfl hh ?_
    refine pw_top (y := V 4 h) (by rw [rdw hw (by decide)] <;> rfl) ?_
    refine pw_iret dX6_trait_38 rfl ?_
    simp_all
  by_cases q_1_1 : what = 1
  · skip
    refine pw_tsIn (v := 1) (tgt := 39) dX6_trait_1 q_1_1 (by decide) (by decide) rfl (by decide) ?_
    refine pw_aload_n dX6_trait_39 rfl rfl ?_
    refine pw_getR dX6_trait_40 fa_X6_31 (gkW hw rfl) ?_
    refine pw_iload_n dX6_trait_43 rfl rfl ?_
    refine pw_iald (j := h) dX6_trait_44 (akW hw rfl) rfl hh ?_
    refine pw_top (y := V 5 h) (by rw [rdw hw (by decide)] <;> rfl) ?_
    refine pw_iret dX6_trait_45 rfl ?_
    simp_all
  by_cases q_1_2 : what = 2
  · skip
    refine pw_tsIn (v := 2) (tgt := 46) dX6_trait_1 q_1_2 (by decide) (by decide) rfl (by decide) ?_
    refine pw_aload_n dX6_trait_46 rfl rfl ?_
    refine pw_getR dX6_trait_47 fa_X6_34 (gkW hw rfl) ?_
    refine pw_iload_n dX6_trait_50 rfl rfl ?_
    refine pw_iald (j := h) dX6_trait_51 (akW hw rfl) rfl hh ?_
    refine pw_top (y := V 6 h) (by rw [rdw hw (by decide)] <;> rfl) ?_
    refine pw_iret dX6_trait_52 rfl ?_
    simp_all
  by_cases q_1_3 : what = 3
  · skip
    refine pw_tsIn (v := 3) (tgt := 53) dX6_trait_1 q_1_3 (by decide) (by decide) rfl (by decide) ?_
    refine pw_aload_n dX6_trait_53 rfl rfl ?_
    refine pw_getR dX6_trait_54 fa_X6_37 (gkW hw rfl) ?_
    refine pw_iload_n dX6_trait_57 rfl rfl ?_
    refine pw_iald (j := h) dX6_trait_58 (akW hw rfl) rfl hh ?_
    refine pw_top (y := V 7 h) (by rw [rdw hw (by decide)] <;> rfl) ?_
    refine pw_iret dX6_trait_59 rfl ?_
    simp_all
  have zq_1_0 := lv_neT q_1_0 (a := 0) rfl
  have zq_1_1 := lv_neT q_1_1 (a := 1) rfl
  have zq_1_2 := lv_neT q_1_2 (a := 2) rfl
  have zq_1_3 := lv_neT q_1_3 (a := 3) rfl
  refine pw_tsOut (tgt := 60) dX6_trait_1 (by omega) (by decide) ?_
  refine pw_aload_n dX6_trait_60 rfl rfl ?_
  refine pw_getR dX6_trait_61 fa_X6_40 (gkW hw rfl) ?_
  refine pw_iload_n dX6_trait_64 rfl rfl ?_
  refine pw_iald (j := h) dX6_trait_65 (akW hw rfl) rfl hh ?_
  refine pw_top (y := V 8 h) (by rw [rdw hw (by decide)] <;> rfl) ?_
  refine pw_iret dX6_trait_66 rfl ?_
  simp_all

set_option maxHeartbeats 4000000 in
set_option maxRecDepth 100000 in
theorem T_X6_become {l : Launch} {μ : PM} {w : Nat} {V : VW} {nm sk : Nat → Int32} {h : Nat} {what v : Int32} (hw : isW w) (hh : h < 6) : CT l SC yX6_become cX6_become 4 none 1 [.ref w, .int (nI h), .int what, .int v] (sc (wr μ w V) nm sk) (QV fun m => m = sc (wr μ w (if what = 0 then vu V 4 h v else if what = 1 then vu V 5 h v else if what = 2 then vu V 6 h v else if what = 3 then vu V 7 h v else vu V 8 h v)) nm sk) := by
  refine CT.of rfl (Nat.le_of_ble_eq_true rfl) ?_
  show PW l SC RX6 cX6_become 4 none 1 _ 0 [(0, .ref w), (1, .int (nI h)), (2, .int what), (3, .int v)] [] (sc (wr μ w V) nm sk)
  refine pw_iload_n dX6_become_0 rfl rfl ?_
  by_cases q_1_0 : what = 0
  · skip
    refine pw_tsIn (v := 0) (tgt := 32) dX6_become_1 q_1_0 (by decide) (by decide) rfl (by decide) ?_
    refine pw_aload_n dX6_become_32 rfl rfl ?_
    refine pw_getR dX6_become_33 fa_X6_28 (gkW hw rfl) ?_
    refine pw_iload_n dX6_become_36 rfl rfl ?_
    refine pw_iload_n dX6_become_37 rfl rfl ?_
    refine pw_iast (j := h) dX6_become_38 (akW hw rfl) rfl hh ?_
    refine pw_goto (tgt := 79) dX6_become_39 (by decide) ?_
    refine pw_mem (siw hw (by decide)) ?_
    refine pw_vret dX6_become_79 rfl ?_
    simp_all
  by_cases q_1_1 : what = 1
  · skip
    refine pw_tsIn (v := 1) (tgt := 42) dX6_become_1 q_1_1 (by decide) (by decide) rfl (by decide) ?_
    refine pw_aload_n dX6_become_42 rfl rfl ?_
    refine pw_getR dX6_become_43 fa_X6_31 (gkW hw rfl) ?_
    refine pw_iload_n dX6_become_46 rfl rfl ?_
    refine pw_iload_n dX6_become_47 rfl rfl ?_
    refine pw_iast (j := h) dX6_become_48 (akW hw rfl) rfl hh ?_
    refine pw_goto (tgt := 79) dX6_become_49 (by decide) ?_
    refine pw_mem (siw hw (by decide)) ?_
    refine pw_vret dX6_become_79 rfl ?_
    simp_all
  by_cases q_1_2 : what = 2
  · skip
    refine pw_tsIn (v := 2) (tgt := 52) dX6_become_1 q_1_2 (by decide) (by decide) rfl (by decide) ?_
    refine pw_aload_n dX6_become_52 rfl rfl ?_
    refine pw_getR dX6_become_53 fa_X6_34 (gkW hw rfl) ?_
    refine pw_iload_n dX6_become_56 rfl rfl ?_
    refine pw_iload_n dX6_become_57 rfl rfl ?_
    refine pw_iast (j := h) dX6_become_58 (akW hw rfl) rfl hh ?_
    refine pw_goto (tgt := 79) dX6_become_59 (by decide) ?_
    refine pw_mem (siw hw (by decide)) ?_
    refine pw_vret dX6_become_79 rfl ?_
    simp_all
  by_cases q_1_3 : what = 3
  · skip
    refine pw_tsIn (v := 3) (tgt := 62) dX6_become_1 q_1_3 (by decide) (by decide) rfl (by decide) ?_
    refine pw_aload_n dX6_become_62 rfl rfl ?_
    refine pw_getR dX6_become_63 fa_X6_37 (gkW hw rfl) ?_
    refine pw_iload_n dX6_become_66 rfl rfl ?_
    refine pw_iload_n dX6_become_67 rfl rfl ?_
    refine pw_iast (j := h) dX6_become_68 (akW hw rfl) rfl hh ?_
    refine pw_goto (tgt := 79) dX6_become_69 (by decide) ?_
    refine pw_mem (siw hw (by decide)) ?_
    refine pw_vret dX6_become_79 rfl ?_
    simp_all
  have zq_1_0 := lv_neT q_1_0 (a := 0) rfl
  have zq_1_1 := lv_neT q_1_1 (a := 1) rfl
  have zq_1_2 := lv_neT q_1_2 (a := 2) rfl
  have zq_1_3 := lv_neT q_1_3 (a := 3) rfl
  refine pw_tsOut (tgt := 72) dX6_become_1 (by omega) (by decide) ?_
  refine pw_aload_n dX6_become_72 rfl rfl ?_
  refine pw_getR dX6_become_73 fa_X6_40 (gkW hw rfl) ?_
  refine pw_iload_n dX6_become_76 rfl rfl ?_
  refine pw_iload_n dX6_become_77 rfl rfl ?_
  refine pw_iast (j := h) dX6_become_78 (akW hw rfl) rfl hh ?_
  refine pw_mem (siw hw (by decide)) ?_
  refine pw_vret dX6_become_79 rfl ?_
  simp_all

set_option maxHeartbeats 4000000 in
set_option maxRecDepth 100000 in
theorem T_X6_toldOn {l : Launch} {μ : PM} {w : Nat} {V : VW} {nm sk : Nat → Int32} {n h : Nat} {ha on : Int32} (hw : isW w) (hn : V 0 5 = nI n) (hn6 : n ≤ 6) (hh : h < 6) : CT l SC yX6_toldOn cX6_toldOn 7 (some .int) 2 [.ref w, .int (nI h), .int ha, .int on] (sc (wr μ w V) nm sk) (QI fun x m => x = toldOnF (V 6 h) 0 n ha on ∧ m = sc (wr μ w V) nm sk) := by
  refine CT.of rfl (Nat.le_of_ble_eq_true rfl) ?_
  show PW l SC RX6 cX6_toldOn 7 (some .int) 2 _ 0 [(0, .ref w), (1, .int (nI h)), (2, .int ha), (3, .int on)] [] (sc (wr μ w V) nm sk)
  refine pw_iload_n dX6_toldOn_0 rfl rfl ?_
  refine pw_istore (ls2 := [(4, _), (0, _), (1, _), (2, _), (3, _)]) dX6_toldOn_1 (by decide) rfl ?_
  refine pw_iload_n dX6_toldOn_3 rfl rfl ?_
  refine pw_istore (ls2 := [(5, _), (4, _), (0, _), (1, _), (2, _), (3, _)]) dX6_toldOn_4 (by decide) rfl ?_
  refine pw_iconst (v := 0) dX6_toldOn_6 rfl ?_
  refine pw_istore (ls2 := [(6, _), (5, _), (4, _), (0, _), (1, _), (2, _), (3, _)]) dX6_toldOn_7 (by decide) rfl ?_
  have L_9 : ∀ (fu_9 : Nat) (i : Nat) (x y : Int32), (i ≤ n) → (toldOnF (V 6 h) i (n - i) x y = toldOnF (V 6 h) 0 n ha on) → n - i < fu_9 → PW l SC RX6 cX6_toldOn 7 (some .int) 2 (QI fun x m => x = toldOnF (V 6 h) 0 n ha on ∧ m = sc (wr μ w V) nm sk) 9 [(0, .ref w), (1, .int (nI h)), (4, .int x), (5, .int y), (6, .int (nI i))] [] (sc (wr μ w V) nm sk) := by
    intro fu_9
    induction fu_9 with
    | zero =>
      intro i x y hi hx hm_9
      exact absurd hm_9 (Nat.not_lt_zero _)
    | succ fu_9 ih_9 =>
      intro i x y hi hx hm_9
      refine pw_iload dX6_toldOn_9 rfl ?_
      refine pw_aload_n dX6_toldOn_11 rfl rfl ?_
      refine pw_getI dX6_toldOn_12 fa_X6_25 (gkW hw rfl) ?_
      refine pw_top (y := nI n) (by rw [rdw0 hw]; exact hn) ?_
      refine pw_icmp_ge (tgt := 60) dX6_toldOn_15 (by decide) (fun c_15 => ?_) (fun c_15 => ?_)
      · skip
        have hge := nI_geD (by omega) c_15
        refine pw_iload dX6_toldOn_60 rfl ?_
        refine pw_iret dX6_toldOn_62 rfl ?_
        exact ⟨by rw [← hx, show n - i = 0 by omega]; rfl, rfl⟩
      · skip
        have hlt := nI_ltD (by omega) c_15
        refine pw_iload dX6_toldOn_18 rfl ?_
        refine pw_if_le (tgt := 60) dX6_toldOn_20 (by decide) (fun c_20 => ?_) (fun c_20 => ?_)
        · skip
          have hl0 := Int32.not_lt.mpr c_20
          refine pw_iload dX6_toldOn_60 rfl ?_
          refine pw_iret dX6_toldOn_62 rfl ?_
          exact ⟨by rw [← hx, show n - i = (n - (i + 1)) + 1 by omega]; show _ = if _ then _ else _; rw [if_neg hl0], rfl⟩
        · skip
          have hl0 := Int32.not_le.mp c_20
          refine pw_aload_n dX6_toldOn_23 rfl rfl ?_
          refine pw_getR dX6_toldOn_24 fa_X6_34 (gkW hw rfl) ?_
          refine pw_iload_n dX6_toldOn_27 rfl rfl ?_
          refine pw_iald (j := h) dX6_toldOn_28 (akW hw rfl) rfl hh ?_
          refine pw_top (y := V 6 h) (by rw [rdw hw (by decide)] <;> rfl) ?_
          refine pw_iload dX6_toldOn_29 rfl ?_
          refine pw_iconst (v := (-1)) dX6_toldOn_31 rfl ?_
          refine pw_ixor dX6_toldOn_32 ?_
          refine pw_iand dX6_toldOn_33 ?_
          refine pw_iload dX6_toldOn_34 rfl ?_
          refine pw_cSi dX6_toldOn_36 ms_X6_80 T_X7_hasBit rfl rfl (Nat.le_of_ble_eq_true rfl) (by decide) (fun x_36 m_36 h_36 => ?_)
          obtain ⟨rfl, rfl⟩ := h_36
          refine pw_if_eq (tgt := 54) dX6_toldOn_39 (by decide) (fun c_39 => ?_) (fun c_39 => ?_)
          · skip
            have hb := b2_0 c_39
            refine pw_iinc (ls2 := [(6, _), (0, _), (1, _), (4, _), (5, _)]) (v := nI (i + 1)) dX6_toldOn_54 rfl (inc1 i) (by decide) rfl ?_
            refine pw_goto (tgt := 9) dX6_toldOn_57 (by decide) ?_
            refine pw_sub [1, 2, 3, 4, 0] rfl ?_
            exact ih_9 (i + 1) x y hlt (by rw [← hx, show n - i = (n - (i + 1)) + 1 by omega]; show _ = if _ then (if _ then _ else _) else _; rw [if_pos hl0, hb]; rfl) (by omega)
          · skip
            have hb := b2_n c_39
            refine pw_iload dX6_toldOn_42 rfl ?_
            refine pw_iconst (v := 1) dX6_toldOn_44 rfl ?_
            refine pw_iload dX6_toldOn_45 rfl ?_
            refine pw_ishl dX6_toldOn_47 ?_
            refine pw_ior dX6_toldOn_48 ?_
            refine pw_istore (ls2 := [(4, _), (0, _), (1, _), (5, _), (6, _)]) dX6_toldOn_49 (by decide) rfl ?_
            refine pw_iinc (ls2 := [(5, _), (4, _), (0, _), (1, _), (6, _)]) dX6_toldOn_51 rfl rfl (by decide) rfl ?_
            refine pw_iinc (ls2 := [(6, _), (5, _), (4, _), (0, _), (1, _)]) (v := nI (i + 1)) dX6_toldOn_54 rfl (inc1 i) (by decide) rfl ?_
            refine pw_goto (tgt := 9) dX6_toldOn_57 (by decide) ?_
            refine pw_sub [3, 4, 2, 1, 0] rfl ?_
            exact ih_9 (i + 1) _ _ hlt (by rw [← hx, show n - i = (n - (i + 1)) + 1 by omega]; show _ = if _ then (if _ then _ else _) else _; rw [if_pos hl0, hb]; rfl) (by omega)
  refine pw_sub [3, 4, 2, 1, 0] rfl ?_
  exact L_9 (n + 1) 0 ha on (Nat.zero_le _) rfl (by omega)

set_option maxHeartbeats 4000000 in
set_option maxRecDepth 100000 in
theorem T_X6_haveBehind {l : Launch} {μ : PM} {w : Nat} {V : VW} {nm sk : Nat → Int32} {n j d : Nat} {fi : Int32} (hw : isW w) (hn : V 0 5 = nI n) (hn6 : n ≤ 6) (hj : j < 5) (hd : d ≤ 100) : CT l SC yX6_haveBehind cX6_haveBehind 9 (some .int) 3 [.ref w, .int (nI j), .int fi, .int (nI d)] (sc (wr μ w V) nm sk) (QI fun x m => x = daysF (V 6) n (onF (V 1 j) (V 2 j)) fi d ∧ m = sc (wr μ w V) nm sk) := by
  refine CT.of rfl (Nat.le_of_ble_eq_true rfl) ?_
  show PW l SC RX6 cX6_haveBehind 9 (some .int) 3 _ 0 [(0, .ref w), (1, .int (nI j)), (2, .int fi), (3, .int (nI d))] [] (sc (wr μ w V) nm sk)
  refine pw_aload_n dX6_haveBehind_0 rfl rfl ?_
  refine pw_getR dX6_haveBehind_1 fa_X6_15 (gkW hw rfl) ?_
  refine pw_iload_n dX6_haveBehind_4 rfl rfl ?_
  refine pw_iald (j := j) dX6_haveBehind_5 (akW hw rfl) rfl hj ?_
  refine pw_top (y := V 1 j) (by rw [rdw hw (by decide)] <;> rfl) ?_
  refine pw_aload_n dX6_haveBehind_6 rfl rfl ?_
  refine pw_getR dX6_haveBehind_7 fa_X6_19 (gkW hw rfl) ?_
  refine pw_iload_n dX6_haveBehind_10 rfl rfl ?_
  refine pw_iald (j := j) dX6_haveBehind_11 (akW hw rfl) rfl hj ?_
  refine pw_top (y := V 2 j) (by rw [rdw hw (by decide)] <;> rfl) ?_
  refine pw_cSi dX6_haveBehind_12 ms_X6_113 T_X0_tellsOn rfl rfl (Nat.le_of_ble_eq_true rfl) (by decide) (fun x_12 m_12 h_12 => ?_)
  obtain ⟨rfl, rfl⟩ := h_12
  refine pw_istore (ls2 := [(4, _), (0, _), (1, _), (2, _), (3, _)]) dX6_haveBehind_15 (by decide) rfl ?_
  refine pw_iload_n dX6_haveBehind_17 rfl rfl ?_
  refine pw_istore (ls2 := [(5, _), (4, _), (0, _), (1, _), (2, _), (3, _)]) dX6_haveBehind_18 (by decide) rfl ?_
  refine pw_iconst (v := 0) dX6_haveBehind_20 rfl ?_
  refine pw_istore (ls2 := [(6, _), (5, _), (4, _), (0, _), (1, _), (2, _), (3, _)]) dX6_haveBehind_21 (by decide) rfl ?_
  have L_23 : ∀ (fu_23 : Nat) (q : Nat) (x : Int32), (q ≤ d) → (x = daysF (V 6) n (onF (V 1 j) (V 2 j)) fi q) → d - q < fu_23 → PW l SC RX6 cX6_haveBehind 9 (some .int) 3 (QI fun x m => x = daysF (V 6) n (onF (V 1 j) (V 2 j)) fi d ∧ m = sc (wr μ w V) nm sk) 23 [(0, .ref w), (3, .int (nI d)), (4, .int (onF (V 1 j) (V 2 j))), (5, .int x), (6, .int (nI q))] [] (sc (wr μ w V) nm sk) := by
    intro fu_23
    induction fu_23 with
    | zero =>
      intro q x hq hx hm_23
      exact absurd hm_23 (Nat.not_lt_zero _)
    | succ fu_23 ih_23 =>
      intro q x hq hx hm_23
      refine pw_iload dX6_haveBehind_23 rfl ?_
      refine pw_iload_n dX6_haveBehind_25 rfl rfl ?_
      refine pw_icmp_ge (tgt := 79) dX6_haveBehind_26 (by decide) (fun c_26 => ?_) (fun c_26 => ?_)
      · skip
        have hge := nI_geD (by omega) c_26
        refine pw_iload dX6_haveBehind_79 rfl ?_
        refine pw_iret dX6_haveBehind_81 rfl ?_
        exact ⟨by rw [hx, show q = d by omega], rfl⟩
      · skip
        have hlt := nI_ltD (by omega) c_26
        refine pw_iload dX6_haveBehind_29 rfl ?_
        refine pw_istore (ls2 := [(7, _), (0, _), (3, _), (4, _), (5, _), (6, _)]) dX6_haveBehind_31 (by decide) rfl ?_
        refine pw_iconst (v := 0) dX6_haveBehind_33 rfl ?_
        refine pw_istore (ls2 := [(8, _), (7, _), (0, _), (3, _), (4, _), (5, _), (6, _)]) dX6_haveBehind_34 (by decide) rfl ?_
        have L_36 : ∀ (fu_36 : Nat) (h : Nat) (y : Int32), (h ≤ n) → (y = dayF (V 6) n (onF (V 1 j) (V 2 j)) x h x) → n - h < fu_36 → PW l SC RX6 cX6_haveBehind 9 (some .int) 3 (QI fun x m => x = daysF (V 6) n (onF (V 1 j) (V 2 j)) fi d ∧ m = sc (wr μ w V) nm sk) 36 [(0, .ref w), (3, .int (nI d)), (4, .int (onF (V 1 j) (V 2 j))), (5, .int y), (6, .int (nI q)), (7, .int x), (8, .int (nI h))] [] (sc (wr μ w V) nm sk) := by
          intro fu_36
          induction fu_36 with
          | zero =>
            intro h y hh hy hm_36
            exact absurd hm_36 (Nat.not_lt_zero _)
          | succ fu_36 ih_36 =>
            intro h y hh hy hm_36
            refine pw_iload dX6_haveBehind_36 rfl ?_
            refine pw_aload_n dX6_haveBehind_38 rfl rfl ?_
            refine pw_getI dX6_haveBehind_39 fa_X6_25 (gkW hw rfl) ?_
            refine pw_top (y := nI n) (by rw [rdw0 hw]; exact hn) ?_
            refine pw_icmp_ge (tgt := 73) dX6_haveBehind_42 (by decide) (fun c_42 => ?_) (fun c_42 => ?_)
            · skip
              have hgh := nI_geD (by omega) c_42
              refine pw_iinc (ls2 := [(6, _), (0, _), (3, _), (4, _), (5, _), (7, _), (8, _)]) (v := nI (q + 1)) dX6_haveBehind_73 rfl (inc1 q) (by decide) rfl ?_
              refine pw_goto (tgt := 23) dX6_haveBehind_76 (by decide) ?_
              refine pw_sub [1, 2, 3, 4, 0] rfl ?_
              exact ih_23 (q + 1) y hlt (by rw [hy, show h = n by omega, hx]; rfl) (by omega)
            · skip
              have hlh := nI_ltD (by omega) c_42
              refine pw_iload dX6_haveBehind_45 rfl ?_
              refine pw_iload dX6_haveBehind_47 rfl ?_
              refine pw_cSi dX6_haveBehind_49 ms_X6_80 T_X7_hasBit rfl rfl (Nat.le_of_ble_eq_true rfl) (by decide) (fun x_49 m_49 h_49 => ?_)
              obtain ⟨rfl, rfl⟩ := h_49
              refine pw_if_eq (tgt := 67) dX6_haveBehind_52 (by decide) (fun c_52 => ?_) (fun c_52 => ?_)
              · skip
                have hb := b2_0 c_52
                refine pw_iinc (ls2 := [(8, _), (0, _), (3, _), (4, _), (5, _), (6, _), (7, _)]) (v := nI (h + 1)) dX6_haveBehind_67 rfl (inc1 h) (by decide) rfl ?_
                refine pw_goto (tgt := 36) dX6_haveBehind_70 (by decide) ?_
                refine pw_sub [1, 2, 3, 4, 5, 6, 0] rfl ?_
                exact ih_36 (h + 1) y hlh (by rw [hy]; show _ = if _ then _ else _; rw [hb]; rfl) (by omega)
              · skip
                have hb := b2_n c_52
                refine pw_aload_n dX6_haveBehind_55 rfl rfl ?_
                refine pw_iload dX6_haveBehind_56 rfl ?_
                refine pw_iload dX6_haveBehind_58 rfl ?_
                refine pw_iload dX6_haveBehind_60 rfl ?_
                refine pw_cVi dX6_haveBehind_62 mv_X6_116 (ckW hw) (T_X6_toldOn hw hn hn6 (by omega)) rfl rfl (Nat.le_of_ble_eq_true rfl) (by decide) (fun x_62 m_62 h_62 => ?_)
                obtain ⟨rfl, rfl⟩ := h_62
                refine pw_istore (ls2 := [(5, _), (0, _), (3, _), (4, _), (6, _), (7, _), (8, _)]) dX6_haveBehind_65 (by decide) rfl ?_
                refine pw_iinc (ls2 := [(8, _), (5, _), (0, _), (3, _), (4, _), (6, _), (7, _)]) (v := nI (h + 1)) dX6_haveBehind_67 rfl (inc1 h) (by decide) rfl ?_
                refine pw_goto (tgt := 36) dX6_haveBehind_70 (by decide) ?_
                refine pw_sub [2, 3, 4, 1, 5, 6, 0] rfl ?_
                exact ih_36 (h + 1) _ hlh (by rw [hy]; show _ = if _ then _ else _; rw [hb]; rfl) (by omega)
        refine pw_sub [2, 3, 4, 5, 6, 1, 0] rfl ?_
        exact L_36 (n + 1) 0 x (Nat.zero_le _) rfl (by omega)
  refine pw_sub [3, 6, 2, 1, 0] rfl ?_
  exact L_23 (d + 1) 0 fi (Nat.zero_le _) rfl (by omega)

set_option maxHeartbeats 4000000 in
set_option maxRecDepth 100000 in
theorem T_X6_minutesTillLast {l : Launch} {μ : PM} {w : Nat} {V : VW} {nm sk : Nat → Int32} {n : Nat} {fi th : Int32} (hw : isW w) (hn : V 0 5 = nI n) (hn6 : n ≤ 6) : CT l SC yX6_minutesTillLast cX6_minutesTillLast 6 (some .int) 3 [.ref w, .int fi, .int th] (sc (wr μ w V) nm sk) (QI fun x m => x = nI (mtlF (V 6) (V 8) n th 6 fi) ∧ m = sc (wr μ w V) nm sk) := by
  refine CT.of rfl (Nat.le_of_ble_eq_true rfl) ?_
  show PW l SC RX6 cX6_minutesTillLast 6 (some .int) 3 _ 0 [(0, .ref w), (1, .int fi), (2, .int th)] [] (sc (wr μ w V) nm sk)
  refine pw_iload_n dX6_minutesTillLast_0 rfl rfl ?_
  refine pw_istore_n (ls2 := [(3, _), (0, _), (1, _), (2, _)]) dX6_minutesTillLast_1 rfl (by decide) rfl ?_
  refine pw_iconst (v := 0) dX6_minutesTillLast_2 rfl ?_
  refine pw_istore (ls2 := [(4, _), (3, _), (0, _), (1, _), (2, _)]) dX6_minutesTillLast_3 (by decide) rfl ?_
  have L_5 : ∀ (fu_5 : Nat) (i : Nat) (x : Int32), (i ≤ 6) → (i + mtlF (V 6) (V 8) n th (6 - i) x = mtlF (V 6) (V 8) n th 6 fi) → 6 - i < fu_5 → PW l SC RX6 cX6_minutesTillLast 6 (some .int) 3 (QI fun x m => x = nI (mtlF (V 6) (V 8) n th 6 fi) ∧ m = sc (wr μ w V) nm sk) 5 [(0, .ref w), (2, .int th), (3, .int x), (4, .int (nI i))] [] (sc (wr μ w V) nm sk) := by
    intro fu_5
    induction fu_5 with
    | zero =>
      intro i x hi hx hm_5
      exact absurd hm_5 (Nat.not_lt_zero _)
    | succ fu_5 ih_5 =>
      intro i x hi hx hm_5
      refine pw_iload dX6_minutesTillLast_5 rfl ?_
      refine pw_bipush (v := 6) dX6_minutesTillLast_7 rfl ?_
      refine pw_icmp_ge (tgt := 38) dX6_minutesTillLast_9 (by decide) (fun c_9 => ?_) (fun c_9 => ?_)
      · skip
        have hge := nI_geD (n := 6) (by decide) c_9
        refine pw_bipush (v := 6) dX6_minutesTillLast_38 rfl ?_
        refine pw_iret dX6_minutesTillLast_40 rfl ?_
        exact ⟨by rw [← hx, show 6 - i = 0 by omega, show i = 6 by omega]; rfl, rfl⟩
      · skip
        have hlt := nI_ltD (n := 6) (by omega) c_9
        refine pw_aload_n dX6_minutesTillLast_12 rfl rfl ?_
        refine pw_iload_n dX6_minutesTillLast_13 rfl rfl ?_
        refine pw_iload_n dX6_minutesTillLast_14 rfl rfl ?_
        refine pw_cVi dX6_minutesTillLast_15 mv_X6_110 (ckW hw) (T_X6_minute hw hn hn6) rfl rfl (Nat.le_of_ble_eq_true rfl) (by decide) (fun x_15 m_15 h_15 => ?_)
        obtain ⟨rfl, rfl⟩ := h_15
        refine pw_istore (ls2 := [(5, _), (0, _), (2, _), (3, _), (4, _)]) dX6_minutesTillLast_18 (by decide) rfl ?_
        refine pw_iload dX6_minutesTillLast_20 rfl ?_
        refine pw_iload_n dX6_minutesTillLast_22 rfl rfl ?_
        refine pw_icmp_ne (tgt := 29) dX6_minutesTillLast_23 (by decide) (fun c_23 => ?_) (fun c_23 => ?_)
        · skip
          refine pw_iload dX6_minutesTillLast_29 rfl ?_
          refine pw_istore_n (ls2 := [(3, _), (5, _), (0, _), (2, _), (4, _)]) dX6_minutesTillLast_31 rfl (by decide) rfl ?_
          refine pw_iinc (ls2 := [(4, _), (3, _), (5, _), (0, _), (2, _)]) (v := nI (i + 1)) dX6_minutesTillLast_32 rfl (inc1 i) (by decide) rfl ?_
          refine pw_goto (tgt := 5) dX6_minutesTillLast_35 (by decide) ?_
          refine pw_sub [3, 4, 1, 0] rfl ?_
          exact ih_5 (i + 1) _ hlt (by rw [← hx, show 6 - i = (6 - (i + 1)) + 1 by omega]; show _ = i + if _ then _ else _; rw [if_neg c_23]; omega) (by omega)
        · skip
          refine pw_iload dX6_minutesTillLast_26 rfl ?_
          refine pw_iret dX6_minutesTillLast_28 rfl ?_
          exact ⟨by rw [← hx, show 6 - i = (6 - (i + 1)) + 1 by omega]; show _ = nI (i + if _ then _ else _); rw [if_pos c_23]; rfl, rfl⟩
  refine pw_sub [2, 4, 1, 0] rfl ?_
  exact L_5 7 0 fi (Nat.zero_le _) (Nat.zero_add _) (by omega)

set_option maxHeartbeats 4000000 in
set_option maxRecDepth 100000 in
theorem T_X6_changed {l : Launch} {μ : PM} {w : Nat} {V : VW} {nm sk : Nat → Int32} {a b : Nat} {much : Int64} (hw : isW w) (ha : a < 4) (hb : b < 4) : CT l SC yX6_changed cX6_changed 5 (some .long) 1 [.ref w, .int (nI a), .int (nI b), .long much] (sc (wr μ w V) nm sk) (QL fun x m => x = chF (V 9) a b much ∧ m = sc (wr μ w V) nm sk) := by
  refine CT.of rfl (Nat.le_of_ble_eq_true rfl) ?_
  show PW l SC RX6 cX6_changed 5 (some .long) 1 _ 0 [(0, .ref w), (1, .int (nI a)), (2, .int (nI b)), (3, .long much)] [] (sc (wr μ w V) nm sk)
  refine pw_iload_n dX6_changed_0 rfl rfl ?_
  refine pw_iload_n dX6_changed_1 rfl rfl ?_
  refine pw_icmp_ne (tgt := 9) dX6_changed_2 (by decide) (fun c_2 => ?_) (fun c_2 => ?_)
  · skip
    have hne : ¬ a = b := fun h => c_2 (by rw [h])
    refine pw_lload_n dX6_changed_9 rfl rfl ?_
    refine pw_aload_n dX6_changed_10 rfl rfl ?_
    refine pw_getR dX6_changed_11 fa_X6_43 (gkW hw rfl) ?_
    refine pw_iload_n dX6_changed_14 rfl rfl ?_
    refine pw_iconst (v := 4) dX6_changed_15 rfl ?_
    refine pw_imul dX6_changed_16 ?_
    refine pw_iload_n dX6_changed_17 rfl rfl ?_
    refine pw_iadd dX6_changed_18 ?_
    refine pw_iald (j := 4 * a + b) dX6_changed_19 (akW hw rfl) (by show nI a * nI 4 + nI b = _; rw [pk_mul, nI_add, Nat.mul_comm]) (by omega) ?_
    refine pw_top (y := V 9 (4 * a + b)) (by rw [rdw hw (by decide)] <;> rfl) ?_
    refine pw_i2l dX6_changed_20 ?_
    refine pw_lmul dX6_changed_21 ?_
    refine pw_ldc2 dX6_changed_22 k_X6_120 ?_
    refine pw_ldiv dX6_changed_25 (by decide) ?_
    refine pw_lret dX6_changed_26 rfl ?_
    exact ⟨by unfold chF; rw [if_neg hne], rfl⟩
  · skip
    have heq : a = b := (nI_eq (by omega) (by omega)).mp c_2
    refine pw_lload_n dX6_changed_5 rfl rfl ?_
    refine pw_goto (tgt := 26) dX6_changed_6 (by decide) ?_
    refine pw_lret dX6_changed_26 rfl ?_
    exact ⟨by unfold chF; rw [if_pos heq], rfl⟩

set_option maxHeartbeats 4000000 in
set_option maxRecDepth 100000 in
theorem T_X6_dearest {l : Launch} {μ : PM} {w : Nat} {V : VW} {nm sk : Nat → Int32} {nj nh : Nat} (hw : isW w) (hc : okC μ V) (h1 : V 0 1 = nI nj) (h5 : V 0 5 = nI nh) (hj5 : nj ≤ 5) (hh6 : nh ≤ 6) : CT l SC yX6_dearest cX6_dearest 6 (some .int) 6 [.ref w] (sc (wr μ w V) nm sk) (QI fun x m => x = nI (cdF nh (amx (yAt (bk μ) V nh) (nj * nh)).2) ∧ ∃ nm2 sk2, m = sc (wr μ w V) nm2 sk2) := by
  refine CT.of rfl (Nat.le_of_ble_eq_true rfl) ?_
  show PW l SC RX6 cX6_dearest 6 (some .int) 6 _ 0 [(0, .ref w)] [] (sc (wr μ w V) nm sk)
  refine pw_iconst (v := 0) dX6_dearest_0 rfl ?_
  refine pw_top (y := nI (cdF nh (amx (yAt (bk μ) V nh) (0 * nh)).2)) (by rw [Nat.zero_mul]; show (0 : Int32) = nI (10 * (0 / nh) + 0 % nh); rw [Nat.zero_div, Nat.zero_mod]; rfl) ?_
  refine pw_istore_n (ls2 := [(1, _), (0, _)]) dX6_dearest_1 rfl (by decide) rfl ?_
  refine pw_iconst (v := (-1)) dX6_dearest_2 rfl ?_
  refine pw_top (y := (amx (yAt (bk μ) V nh) (0 * nh)).1) (by rw [Nat.zero_mul]; rfl) ?_
  refine pw_istore_n (ls2 := [(2, _), (1, _), (0, _)]) dX6_dearest_3 rfl (by decide) rfl ?_
  refine pw_iconst (v := 0) dX6_dearest_4 rfl ?_
  refine pw_istore_n (ls2 := [(3, _), (2, _), (1, _), (0, _)]) dX6_dearest_5 rfl (by decide) rfl ?_
  have L_6 : ∀ (fu_6 : Nat) (j : Nat) (nm sk : Nat → Int32), (j ≤ nj) → nj - j < fu_6 → PW l SC RX6 cX6_dearest 6 (some .int) 6 (QI fun x m => x = nI (cdF nh (amx (yAt (bk μ) V nh) (nj * nh)).2) ∧ ∃ nm2 sk2, m = sc (wr μ w V) nm2 sk2) 6 [(0, .ref w), (1, .int (nI (cdF nh (amx (yAt (bk μ) V nh) (j * nh)).2))), (2, .int (amx (yAt (bk μ) V nh) (j * nh)).1), (3, .int (nI j))] [] (sc (wr μ w V) nm sk) := by
    intro fu_6
    induction fu_6 with
    | zero =>
      intro j nm sk hj hm_6
      exact absurd hm_6 (Nat.not_lt_zero _)
    | succ fu_6 ih_6 =>
      intro j nm sk hj hm_6
      refine pw_iload_n dX6_dearest_6 rfl rfl ?_
      refine pw_aload_n dX6_dearest_7 rfl rfl ?_
      refine pw_getI dX6_dearest_8 fa_X6_9 (gkW hw rfl) ?_
      refine pw_top (y := nI nj) (by rw [rdw0 hw]; exact h1) ?_
      refine pw_icmp_ge (tgt := 64) dX6_dearest_11 (by decide) (fun c_11 => ?_) (fun c_11 => ?_)
      · skip
        have hgj := nI_geD (by omega) c_11
        refine pw_iload_n dX6_dearest_64 rfl rfl ?_
        refine pw_iret dX6_dearest_65 rfl ?_
        exact ⟨by rw [show j = nj by omega], _, _, rfl⟩
      · skip
        have hlj := nI_ltD (by omega) c_11
        refine pw_iconst (v := 0) dX6_dearest_14 rfl ?_
        refine pw_istore (ls2 := [(4, _), (0, _), (1, _), (2, _), (3, _)]) dX6_dearest_15 (by decide) rfl ?_
        have L_17 : ∀ (fu_17 : Nat) (h : Nat) (nm sk : Nat → Int32), (h ≤ nh) → nh - h < fu_17 → PW l SC RX6 cX6_dearest 6 (some .int) 6 (QI fun x m => x = nI (cdF nh (amx (yAt (bk μ) V nh) (nj * nh)).2) ∧ ∃ nm2 sk2, m = sc (wr μ w V) nm2 sk2) 17 [(0, .ref w), (1, .int (nI (cdF nh (amx (yAt (bk μ) V nh) (j * nh + h)).2))), (2, .int (amx (yAt (bk μ) V nh) (j * nh + h)).1), (3, .int (nI j)), (4, .int (nI h))] [] (sc (wr μ w V) nm sk) := by
          intro fu_17
          induction fu_17 with
          | zero =>
            intro h nm sk hh hm_17
            exact absurd hm_17 (Nat.not_lt_zero _)
          | succ fu_17 ih_17 =>
            intro h nm sk hh hm_17
            refine pw_iload dX6_dearest_17 rfl ?_
            refine pw_aload_n dX6_dearest_19 rfl rfl ?_
            refine pw_getI dX6_dearest_20 fa_X6_25 (gkW hw rfl) ?_
            refine pw_top (y := nI nh) (by rw [rdw0 hw]; exact h5) ?_
            refine pw_icmp_ge (tgt := 58) dX6_dearest_23 (by decide) (fun c_23 => ?_) (fun c_23 => ?_)
            · skip
              have hgh := nI_geD (by omega) c_23
              refine pw_iinc (ls2 := [(3, _), (0, _), (1, _), (2, _), (4, _)]) (v := nI (j + 1)) dX6_dearest_58 rfl (inc1 j) (by decide) rfl ?_
              refine pw_goto (tgt := 6) dX6_dearest_61 (by decide) ?_
              refine pw_sub [1, 2, 3, 0] rfl ?_
              have e : h = nh := by omega
              subst e
              have h9 := ih_6 (j + 1) nm sk hlj (by omega)
              rw [Nat.succ_mul] at h9
              exact h9
            · skip
              have hlh := nI_ltD (by omega) c_23
              refine pw_aload_n dX6_dearest_26 rfl rfl ?_
              refine pw_iload_n dX6_dearest_27 rfl rfl ?_
              refine pw_iload dX6_dearest_28 rfl ?_
              refine pw_cVi dX6_dearest_30 mv_X6_90 (ckW hw) (T_X6_worth hw hc (by omega) (by omega)) rfl rfl (Nat.le_of_ble_eq_true rfl) (by decide) (fun x_30 m_30 h_30 => ?_)
              obtain ⟨rfl, nm1, sk1, rfl⟩ := h_30
              have hy : yF (bk μ) V j h = yAt (bk μ) V nh (j * nh + h) := by unfold yAt; rw [(divmod_at hlh).1, (divmod_at hlh).2]
              rw [hy]
              refine pw_istore (ls2 := [(5, _), (0, _), (1, _), (2, _), (3, _), (4, _)]) dX6_dearest_33 (by decide) rfl ?_
              refine pw_iload dX6_dearest_35 rfl ?_
              refine pw_iload_n dX6_dearest_37 rfl rfl ?_
              refine pw_icmp_le (tgt := 52) dX6_dearest_38 (by decide) (fun c_38 => ?_) (fun c_38 => ?_)
              · skip
                have hle := Int32.not_lt.mpr c_38
                refine pw_iinc (ls2 := [(4, _), (5, _), (0, _), (1, _), (2, _), (3, _)]) (v := nI (h + 1)) dX6_dearest_52 rfl (inc1 h) (by decide) rfl ?_
                refine pw_goto (tgt := 17) dX6_dearest_55 (by decide) ?_
                refine pw_sub [2, 3, 4, 5, 0] rfl ?_
                have e : amx (yAt (bk μ) V nh) (j * nh + (h + 1)) = amx (yAt (bk μ) V nh) (j * nh + h) := if_neg hle
                have h9 := ih_17 (h + 1) nm1 sk1 hlh (by omega)
                rw [e] at h9
                exact h9
              · skip
                have hgt := Int32.not_le.mp c_38
                refine pw_iload dX6_dearest_41 rfl ?_
                refine pw_istore_n (ls2 := [(2, _), (5, _), (0, _), (1, _), (3, _), (4, _)]) dX6_dearest_43 rfl (by decide) rfl ?_
                refine pw_bipush (v := 10) dX6_dearest_44 rfl ?_
                refine pw_iload_n dX6_dearest_46 rfl rfl ?_
                refine pw_imul dX6_dearest_47 ?_
                refine pw_iload dX6_dearest_48 rfl ?_
                refine pw_iadd dX6_dearest_50 ?_
                refine pw_top (y := nI (cdF nh (j * nh + h))) (by show nI 10 * nI j + nI h = _; rw [pk_mul, nI_add]; unfold cdF; rw [(divmod_at hlh).1, (divmod_at hlh).2]) ?_
                refine pw_istore_n (ls2 := [(1, _), (2, _), (5, _), (0, _), (3, _), (4, _)]) dX6_dearest_51 rfl (by decide) rfl ?_
                refine pw_iinc (ls2 := [(4, _), (1, _), (2, _), (5, _), (0, _), (3, _)]) (v := nI (h + 1)) dX6_dearest_52 rfl (inc1 h) (by decide) rfl ?_
                refine pw_goto (tgt := 17) dX6_dearest_55 (by decide) ?_
                refine pw_sub [4, 1, 2, 5, 0] rfl ?_
                have e : amx (yAt (bk μ) V nh) (j * nh + (h + 1)) = (yAt (bk μ) V nh (j * nh + h), j * nh + h) := if_pos hgt
                have h9 := ih_17 (h + 1) nm1 sk1 hlh (by omega)
                rw [e] at h9
                exact h9
        refine pw_sub [1, 2, 3, 4, 0] rfl ?_
        exact L_17 (nh + 1) 0 nm sk (Nat.zero_le _) (by omega)
  refine pw_sub [3, 2, 1, 0] rfl ?_
  exact L_6 (nj + 1) 0 nm sk (Nat.zero_le _) (by omega)

set_option maxHeartbeats 4000000 in
set_option maxRecDepth 100000 in
theorem T_X6_copyFrom {l : Launch} {μ : PM} {w w2 : Nat} {V T : VW} {nm sk : Nat → Int32} (hp : apW w w2) : CT l SC yX6_copyFrom cX6_copyFrom 3 none 1 [.ref w, .ref w2] (sc (wr (wr μ w2 V) w T) nm sk) (QV fun m => m = sc (wr (wr μ w2 V) w (cpV V T)) nm sk) := by
  refine CT.of rfl (Nat.le_of_ble_eq_true rfl) ?_
  show PW l SC RX6 cX6_copyFrom 3 none 1 _ 0 [(0, .ref w), (1, .ref w2)] [] (sc (wr (wr μ w2 V) w T) nm sk)
  have hw := hp.1
  have hw2 := hp.2.1
  refine pw_aload_n dX6_copyFrom_0 rfl rfl ?_
  refine pw_aload_n dX6_copyFrom_1 rfl rfl ?_
  refine pw_getI dX6_copyFrom_2 fa_X6_9 (gkW hw2 rfl) ?_
  refine pw_top (y := V 0 1) (by rw [rd20 hp]) ?_
  refine pw_putI dX6_copyFrom_5 fa_X6_9 (gkW hw rfl) ?_
  refine pw_mem (siw0 hw) ?_
  refine pw_aload_n dX6_copyFrom_8 rfl rfl ?_
  refine pw_aload_n dX6_copyFrom_9 rfl rfl ?_
  refine pw_getI dX6_copyFrom_10 fa_X6_25 (gkW hw2 rfl) ?_
  refine pw_top (y := V 0 5) (by rw [rd20 hp]) ?_
  refine pw_putI dX6_copyFrom_13 fa_X6_25 (gkW hw rfl) ?_
  refine pw_mem (siw0 hw) ?_
  refine pw_aload_n dX6_copyFrom_16 rfl rfl ?_
  refine pw_aload_n dX6_copyFrom_17 rfl rfl ?_
  refine pw_getI dX6_copyFrom_18 fa_X6_46 (gkW hw2 rfl) ?_
  refine pw_top (y := V 0 12) (by rw [rd20 hp]) ?_
  refine pw_putI dX6_copyFrom_21 fa_X6_46 (gkW hw rfl) ?_
  refine pw_mem (siw0 hw) ?_
  refine pw_aload_n dX6_copyFrom_24 rfl rfl ?_
  refine pw_aload_n dX6_copyFrom_25 rfl rfl ?_
  refine pw_getI dX6_copyFrom_26 fa_X6_49 (gkW hw2 rfl) ?_
  refine pw_top (y := V 0 13) (by rw [rd20 hp]) ?_
  refine pw_putI dX6_copyFrom_29 fa_X6_49 (gkW hw rfl) ?_
  refine pw_mem (siw0 hw) ?_
  rw [cpX_0 V T]
  refine pw_iconst (v := 0) dX6_copyFrom_32 rfl ?_
  refine pw_istore_n (ls2 := [(2, _), (0, _), (1, _)]) dX6_copyFrom_33 rfl (by decide) rfl ?_
  have L_34 : ∀ (fu_34 : Nat) (i : Nat), (i ≤ 5) → 5 - i < fu_34 → PW l SC RX6 cX6_copyFrom 3 none 1 (QV fun m => m = sc (wr (wr μ w2 V) w (cpV V T)) nm sk) 34 [(0, .ref w), (1, .ref w2), (2, .int (nI i))] [] (sc (wr (wr μ w2 V) w (cpX V T i 0 0)) nm sk) := by
    intro fu_34
    induction fu_34 with
    | zero =>
      intro i hi hm_34
      exact absurd hm_34 (Nat.not_lt_zero _)
    | succ fu_34 ih_34 =>
      intro i hi hm_34
      refine pw_iload_n dX6_copyFrom_34 rfl rfl ?_
      refine pw_iconst (v := 5) dX6_copyFrom_35 rfl ?_
      refine pw_icmp_ge (tgt := 81) dX6_copyFrom_36 (by decide) (fun c_36 => ?_) (fun c_36 => ?_)
      · skip
        have hge := nI_geD (n := 5) (by decide) c_36
        have hi5 : i = 5 := by omega
        subst hi5
        refine pw_iconst (v := 0) dX6_copyFrom_81 rfl ?_
        refine pw_istore_n (ls2 := [(2, _), (0, _), (1, _)]) dX6_copyFrom_82 rfl (by decide) rfl ?_
        have L_83 : ∀ (fu_83 : Nat) (i : Nat), (i ≤ 6) → 6 - i < fu_83 → PW l SC RX6 cX6_copyFrom 3 none 1 (QV fun m => m = sc (wr (wr μ w2 V) w (cpV V T)) nm sk) 83 [(0, .ref w), (1, .ref w2), (2, .int (nI i))] [] (sc (wr (wr μ w2 V) w (cpX V T 5 i 0)) nm sk) := by
          intro fu_83
          induction fu_83 with
          | zero =>
            intro i hi hm_83
            exact absurd hm_83 (Nat.not_lt_zero _)
          | succ fu_83 ih_83 =>
            intro i hi hm_83
            refine pw_iload_n dX6_copyFrom_83 rfl rfl ?_
            refine pw_bipush (v := 6) dX6_copyFrom_84 rfl ?_
            refine pw_icmp_ge (tgt := 155) dX6_copyFrom_86 (by decide) (fun c_86 => ?_) (fun c_86 => ?_)
            · skip
              have hge := nI_geD (n := 6) (by decide) c_86
              have hi6 : i = 6 := by omega
              subst hi6
              refine pw_iconst (v := 0) dX6_copyFrom_155 rfl ?_
              refine pw_istore_n (ls2 := [(2, _), (0, _), (1, _)]) dX6_copyFrom_156 rfl (by decide) rfl ?_
              have L_157 : ∀ (fu_157 : Nat) (i : Nat), (i ≤ 16) → 16 - i < fu_157 → PW l SC RX6 cX6_copyFrom 3 none 1 (QV fun m => m = sc (wr (wr μ w2 V) w (cpV V T)) nm sk) 157 [(0, .ref w), (1, .ref w2), (2, .int (nI i))] [] (sc (wr (wr μ w2 V) w (cpX V T 5 6 i)) nm sk) := by
                intro fu_157
                induction fu_157 with
                | zero =>
                  intro i hi hm_157
                  exact absurd hm_157 (Nat.not_lt_zero _)
                | succ fu_157 ih_157 =>
                  intro i hi hm_157
                  refine pw_iload_n dX6_copyFrom_157 rfl rfl ?_
                  refine pw_bipush (v := 16) dX6_copyFrom_158 rfl ?_
                  refine pw_icmp_ge (tgt := 181) dX6_copyFrom_160 (by decide) (fun c_160 => ?_) (fun c_160 => ?_)
                  · skip
                    have hge := nI_geD (n := 16) (by decide) c_160
                    refine pw_vret dX6_copyFrom_181 rfl ?_
                    have hi16 : i = 16 := by omega
                    subst hi16
                    rfl
                  · skip
                    have hlt := nI_ltD (n := 16) (by omega) c_160
                    refine pw_aload_n dX6_copyFrom_163 rfl rfl ?_
                    refine pw_getR dX6_copyFrom_164 fa_X6_43 (gkW hw rfl) ?_
                    refine pw_iload_n dX6_copyFrom_167 rfl rfl ?_
                    refine pw_aload_n dX6_copyFrom_168 rfl rfl ?_
                    refine pw_getR dX6_copyFrom_169 fa_X6_43 (gkW hw2 rfl) ?_
                    refine pw_iload_n dX6_copyFrom_172 rfl rfl ?_
                    refine pw_iald (j := i) dX6_copyFrom_173 (akW hw2 rfl) rfl (by omega) ?_
                    refine pw_top (y := V 9 i) (by rw [rd2 hp (by decide)]) ?_
                    refine pw_iast (j := i) dX6_copyFrom_174 (akW hw rfl) rfl (by omega) ?_
                    refine pw_mem (siw hw (by decide)) ?_
                    rw [cpX_c V T]
                    refine pw_iinc (ls2 := [(2, _), (0, _), (1, _)]) (v := nI (i + 1)) dX6_copyFrom_175 rfl (inc1 i) (by decide) rfl ?_
                    refine pw_goto (tgt := 157) dX6_copyFrom_178 (by decide) ?_
                    refine pw_sub [1, 2, 0] rfl ?_
                    exact ih_157 (i + 1) hlt (by omega)
              refine pw_sub [1, 2, 0] rfl ?_
              exact L_157 17 0 (Nat.zero_le _) (by omega)
            · skip
              have hlt := nI_ltD (n := 6) (by omega) c_86
              refine pw_aload_n dX6_copyFrom_89 rfl rfl ?_
              refine pw_getR dX6_copyFrom_90 fa_X6_28 (gkW hw rfl) ?_
              refine pw_iload_n dX6_copyFrom_93 rfl rfl ?_
              refine pw_aload_n dX6_copyFrom_94 rfl rfl ?_
              refine pw_getR dX6_copyFrom_95 fa_X6_28 (gkW hw2 rfl) ?_
              refine pw_iload_n dX6_copyFrom_98 rfl rfl ?_
              refine pw_iald (j := i) dX6_copyFrom_99 (akW hw2 rfl) rfl (by omega) ?_
              refine pw_top (y := V 4 i) (by rw [rd2 hp (by decide)]) ?_
              refine pw_iast (j := i) dX6_copyFrom_100 (akW hw rfl) rfl (by omega) ?_
              refine pw_mem (siw hw (by decide)) ?_
              refine pw_aload_n dX6_copyFrom_101 rfl rfl ?_
              refine pw_getR dX6_copyFrom_102 fa_X6_31 (gkW hw rfl) ?_
              refine pw_iload_n dX6_copyFrom_105 rfl rfl ?_
              refine pw_aload_n dX6_copyFrom_106 rfl rfl ?_
              refine pw_getR dX6_copyFrom_107 fa_X6_31 (gkW hw2 rfl) ?_
              refine pw_iload_n dX6_copyFrom_110 rfl rfl ?_
              refine pw_iald (j := i) dX6_copyFrom_111 (akW hw2 rfl) rfl (by omega) ?_
              refine pw_top (y := V 5 i) (by rw [rd2 hp (by decide)]) ?_
              refine pw_iast (j := i) dX6_copyFrom_112 (akW hw rfl) rfl (by omega) ?_
              refine pw_mem (siw hw (by decide)) ?_
              refine pw_aload_n dX6_copyFrom_113 rfl rfl ?_
              refine pw_getR dX6_copyFrom_114 fa_X6_34 (gkW hw rfl) ?_
              refine pw_iload_n dX6_copyFrom_117 rfl rfl ?_
              refine pw_aload_n dX6_copyFrom_118 rfl rfl ?_
              refine pw_getR dX6_copyFrom_119 fa_X6_34 (gkW hw2 rfl) ?_
              refine pw_iload_n dX6_copyFrom_122 rfl rfl ?_
              refine pw_iald (j := i) dX6_copyFrom_123 (akW hw2 rfl) rfl (by omega) ?_
              refine pw_top (y := V 6 i) (by rw [rd2 hp (by decide)]) ?_
              refine pw_iast (j := i) dX6_copyFrom_124 (akW hw rfl) rfl (by omega) ?_
              refine pw_mem (siw hw (by decide)) ?_
              refine pw_aload_n dX6_copyFrom_125 rfl rfl ?_
              refine pw_getR dX6_copyFrom_126 fa_X6_37 (gkW hw rfl) ?_
              refine pw_iload_n dX6_copyFrom_129 rfl rfl ?_
              refine pw_aload_n dX6_copyFrom_130 rfl rfl ?_
              refine pw_getR dX6_copyFrom_131 fa_X6_37 (gkW hw2 rfl) ?_
              refine pw_iload_n dX6_copyFrom_134 rfl rfl ?_
              refine pw_iald (j := i) dX6_copyFrom_135 (akW hw2 rfl) rfl (by omega) ?_
              refine pw_top (y := V 7 i) (by rw [rd2 hp (by decide)]) ?_
              refine pw_iast (j := i) dX6_copyFrom_136 (akW hw rfl) rfl (by omega) ?_
              refine pw_mem (siw hw (by decide)) ?_
              refine pw_aload_n dX6_copyFrom_137 rfl rfl ?_
              refine pw_getR dX6_copyFrom_138 fa_X6_40 (gkW hw rfl) ?_
              refine pw_iload_n dX6_copyFrom_141 rfl rfl ?_
              refine pw_aload_n dX6_copyFrom_142 rfl rfl ?_
              refine pw_getR dX6_copyFrom_143 fa_X6_40 (gkW hw2 rfl) ?_
              refine pw_iload_n dX6_copyFrom_146 rfl rfl ?_
              refine pw_iald (j := i) dX6_copyFrom_147 (akW hw2 rfl) rfl (by omega) ?_
              refine pw_top (y := V 8 i) (by rw [rd2 hp (by decide)]) ?_
              refine pw_iast (j := i) dX6_copyFrom_148 (akW hw rfl) rfl (by omega) ?_
              refine pw_mem (siw hw (by decide)) ?_
              rw [cpX_b V T]
              refine pw_iinc (ls2 := [(2, _), (0, _), (1, _)]) (v := nI (i + 1)) dX6_copyFrom_149 rfl (inc1 i) (by decide) rfl ?_
              refine pw_goto (tgt := 83) dX6_copyFrom_152 (by decide) ?_
              refine pw_sub [1, 2, 0] rfl ?_
              exact ih_83 (i + 1) hlt (by omega)
        refine pw_sub [1, 2, 0] rfl ?_
        exact L_83 7 0 (Nat.zero_le _) (by omega)
      · skip
        have hlt := nI_ltD (n := 5) (by omega) c_36
        refine pw_aload_n dX6_copyFrom_39 rfl rfl ?_
        refine pw_getR dX6_copyFrom_40 fa_X6_15 (gkW hw rfl) ?_
        refine pw_iload_n dX6_copyFrom_43 rfl rfl ?_
        refine pw_aload_n dX6_copyFrom_44 rfl rfl ?_
        refine pw_getR dX6_copyFrom_45 fa_X6_15 (gkW hw2 rfl) ?_
        refine pw_iload_n dX6_copyFrom_48 rfl rfl ?_
        refine pw_iald (j := i) dX6_copyFrom_49 (akW hw2 rfl) rfl (by omega) ?_
        refine pw_top (y := V 1 i) (by rw [rd2 hp (by decide)]) ?_
        refine pw_iast (j := i) dX6_copyFrom_50 (akW hw rfl) rfl (by omega) ?_
        refine pw_mem (siw hw (by decide)) ?_
        refine pw_aload_n dX6_copyFrom_51 rfl rfl ?_
        refine pw_getR dX6_copyFrom_52 fa_X6_19 (gkW hw rfl) ?_
        refine pw_iload_n dX6_copyFrom_55 rfl rfl ?_
        refine pw_aload_n dX6_copyFrom_56 rfl rfl ?_
        refine pw_getR dX6_copyFrom_57 fa_X6_19 (gkW hw2 rfl) ?_
        refine pw_iload_n dX6_copyFrom_60 rfl rfl ?_
        refine pw_iald (j := i) dX6_copyFrom_61 (akW hw2 rfl) rfl (by omega) ?_
        refine pw_top (y := V 2 i) (by rw [rd2 hp (by decide)]) ?_
        refine pw_iast (j := i) dX6_copyFrom_62 (akW hw rfl) rfl (by omega) ?_
        refine pw_mem (siw hw (by decide)) ?_
        refine pw_aload_n dX6_copyFrom_63 rfl rfl ?_
        refine pw_getR dX6_copyFrom_64 fa_X6_22 (gkW hw rfl) ?_
        refine pw_iload_n dX6_copyFrom_67 rfl rfl ?_
        refine pw_aload_n dX6_copyFrom_68 rfl rfl ?_
        refine pw_getR dX6_copyFrom_69 fa_X6_22 (gkW hw2 rfl) ?_
        refine pw_iload_n dX6_copyFrom_72 rfl rfl ?_
        refine pw_iald (j := i) dX6_copyFrom_73 (akW hw2 rfl) rfl (by omega) ?_
        refine pw_top (y := V 3 i) (by rw [rd2 hp (by decide)]) ?_
        refine pw_iast (j := i) dX6_copyFrom_74 (akW hw rfl) rfl (by omega) ?_
        refine pw_mem (siw hw (by decide)) ?_
        rw [cpX_a V T]
        refine pw_iinc (ls2 := [(2, _), (0, _), (1, _)]) (v := nI (i + 1)) dX6_copyFrom_75 rfl (inc1 i) (by decide) rfl ?_
        refine pw_goto (tgt := 34) dX6_copyFrom_78 (by decide) ?_
        refine pw_sub [1, 2, 0] rfl ?_
        exact ih_34 (i + 1) hlt (by omega)
  refine pw_sub [1, 2, 0] rfl ?_
  exact L_34 6 0 (Nat.zero_le _) (by omega)

