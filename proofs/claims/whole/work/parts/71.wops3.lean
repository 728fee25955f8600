theorem clr_z : ∀ n, n < 6 → ∀ z, z < 32 → z < 2 ^ n → nI z &&& (shF n ^^^ -1) = nI z := by decide +kernel
theorem clrV_r {n r : Nat} {V : VW} (h7 : r ≠ 7) : ∀ h, clrV n h V r = V r
  | 0 => rfl
  | h + 1 => by
    unfold clrV
    rw [vu_other _ _ _ _ h7, clrV_r h7 h]
theorem clrV_7 {n x : Nat} {V : VW} : ∀ h, clrV n h V 7 x = if x < h then V 7 x &&& (shF n ^^^ -1) else V 7 x
  | 0 => by
    rw [if_neg (by omega)]
    rfl
  | h + 1 => by
    unfold clrV
    rw [vu_at, if_pos rfl]
    by_cases q : x = h
    · subst q
      rw [if_pos rfl, if_pos (by omega), clrV_7, if_neg (by omega)]
    · rw [if_neg q, clrV_7]
      by_cases q2 : x < h
      · rw [if_pos q2, if_pos (by omega)]
      · rw [if_neg q2, if_neg (by omega)]
theorem jk_r {U : VW} {n r : Nat} {k m : Int32} (h0 : r ≠ 0) (h7 : r ≠ 7) : jkV U n k m r = vu (vu (vu U 1 n k) 2 n m) 3 n 0 r := by
  unfold jkV
  rw [vu_other _ _ _ _ h0, clrV_r h7]
theorem jk_0 {U : VW} {n : Nat} {k m : Int32} : jkV U n k m 0 = upd (U 0) 1 (nI (n + 1)) := by
  unfold jkV
  rw [vu_same, clrV_0]
  rfl
theorem jk_7 {U : VW} {n x : Nat} {k m : Int32} (h : x < 6) : jkV U n k m 7 x = U 7 x &&& (shF n ^^^ -1) := by
  unfold jkV
  rw [vu_other _ _ _ _ (by decide), clrV_7, if_pos h]
  rfl
theorem jk_1 {U : VW} {n : Nat} {k m : Int32} : jkV U n k m 1 = upd (U 1) n k := jk_r (by decide) (by decide)
theorem jk_2 {U : VW} {n : Nat} {k m : Int32} : jkV U n k m 2 = upd (U 2) n m := jk_r (by decide) (by decide)
theorem jk_3 {U : VW} {n : Nat} {k m : Int32} : jkV U n k m 3 = upd (U 3) n 0 := jk_r (by decide) (by decide)
theorem jk_4 {U : VW} {n r : Nat} {k m : Int32} (h : 4 ≤ r) (h7 : r ≠ 7) : jkV U n k m r = U r := by
  rw [jk_r (by omega) h7, vu_other _ _ _ _ (by omega), vu_other _ _ _ _ (by omega), vu_other _ _ _ _ (by omega)]
theorem IA_joke {nj nh : Nat} {V U : VW} {k m : Int32} (hA : IA nj nh V U) (h5 : nj < 5) (hk : aJok k m = true) : IA (nj + 1) nh (addJV V nj k m) (jkV U nj k m) := by
  obtain ⟨a1, a2, a3, a4, e, a6, a7, a8, a9, a10, a11⟩ := hA
  have hp : 2 ^ nj ≤ 2 ^ 5 := Nat.pow_le_pow_right (by decide) a2
  have h7 : ∀ h, h < nh → jkV U nj k m 7 h = U 7 h := by
    intro h hh
    obtain ⟨z, hz, ez⟩ := a9 h hh
    rw [jk_7 (by omega), ez]
    exact clr_z nj (by omega) z (by omega) hz
  refine ⟨rfl, by omega, a3, a4, ⟨⟨?_, ?_, ?_, ?_⟩, ?_, ?_⟩, ?_, ?_, ?_, ?_, ?_, ?_⟩
  · rw [jk_0, upd_s]
    rfl
  · rw [jk_0, upd_o _ _ (by decide)]
    exact e.1.2.1
  · rw [jk_0, upd_o _ _ (by decide)]
    exact e.1.2.2.1
  · rw [jk_0, upd_o _ _ (by decide)]
    exact e.1.2.2.2
  · intro j hj
    rw [jk_1, jk_2, jk_3]
    show upd (V 1) nj k j = _ ∧ upd (V 2) nj m j = _ ∧ upd (V 3) nj 0 j = _
    by_cases q : j = nj
    · subst q
      rw [upd_s, upd_s, upd_s, upd_s, upd_s, upd_s]
      exact ⟨rfl, rfl, rfl⟩
    · rw [upd_o _ _ q, upd_o _ _ q, upd_o _ _ q, upd_o _ _ q, upd_o _ _ q, upd_o _ _ q]
      exact e.2.1 j (by omega)
  · intro h hh
    rw [h7 h hh, jk_4 (by decide) (by decide), jk_4 (by decide) (by decide), jk_4 (by decide) (by decide), jk_4 (by decide) (by decide)]
    exact e.2.2 h hh
  · intro x hx
    rw [jk_4 (by decide) (by decide)]
    exact a6 x hx
  · intro h hh
    rw [jk_4 (by decide) (by decide)]
    exact a7 h hh
  · intro j hj
    rw [jk_3]
    by_cases q : j = nj
    · subst q
      rw [upd_s]
      exact ⟨0, by omega, rfl⟩
    · rw [upd_o _ _ q]
      exact a8 j (by omega)
  · intro h hh
    rw [h7 h hh]
    obtain ⟨z, hz, ez⟩ := a9 h hh
    exact ⟨z, by rw [Nat.pow_succ]; omega, ez⟩
  · intro j hj
    rw [jk_1]
    by_cases q : j = nj
    · subst q
      rw [upd_s]
      unfold aJok at hk
      simp only [Bool.and_eq_true] at hk
      exact in_trueL (n := 5) hk.1 (by decide)
    · rw [upd_o _ _ q]
      exact a10 j (by omega)
  · rw [jk_0, upd_o _ _ (by decide)]
    exact a11
theorem IA_jk1 {n nh : Nat} {V U : VW} {k m : Int32} (hA : IA n nh V U) : IA (jnN n k m) nh (aJV V n k m) (jokeV U n k m) ∧ n ≤ jnN n k m ∧ aJV V n k m 0 13 = V 0 13 ∧ ∀ j, j < n → jokeV U n k m 1 j = U 1 j ∧ jokeV U n k m 2 j = U 2 j := by
  unfold jnN aJV jokeV
  by_cases q : aJok k m = true
  · rw [if_pos q, if_pos q, if_pos q]
    by_cases q2 : n < 5
    · rw [if_pos q2, if_pos q2, if_pos q2]
      refine ⟨IA_joke hA q2 q, by omega, rfl, fun j hj => ⟨?_, ?_⟩⟩
      · rw [jk_1, upd_o _ _ (by omega)]
      · rw [jk_2, upd_o _ _ (by omega)]
    · rw [if_neg q2, if_neg q2, if_neg q2]
      exact ⟨hA, Nat.le_refl _, rfl, fun _ _ => ⟨rfl, rfl⟩⟩
  · rw [if_neg q, if_neg q, if_neg q]
    exact ⟨hA, Nat.le_refl _, rfl, fun _ _ => ⟨rfl, rfl⟩⟩
theorem OP_joke {l : Launch} {k0 mo : Int32} : OPI l yX7_joke cX7_joke 3 yX8_joke cX8_joke 4 [.int k0, .int mo] := by
  rintro μ ν ⟨μ0, V, nm, sk, ν0, U, nm2, sk2, st, rfl, rfl, r⟩
  obtain ⟨nj, nh, hA, hB, hT, hW, hS, hI⟩ := id r
  obtain ⟨g1, g2, g3, g4⟩ := IA_jk1 (k := k0) (m := mo) hA
  exact ⟨aJx nj k0 mo, 3, 2, PC μ0 (aJV V nj k0 mo), PN ν0 (jokeV U nj k0 mo), by decide, by decide, CT.mono (T_X7_joke hA.1 hA.2.1) (QI.mono fun x m g => ⟨g.1, pc_a g.2⟩), CT.mono (T_X8_joke hA.u1 hA.2.1) (QI.mono fun x m g => ⟨g.1, pn_a g.2⟩), fun a b => INV_of ⟨_, nh, g1, IB_w hB g3, hT, hW, hS, II_w hI g2 g4⟩⟩
theorem jb_eq {ce : Nat → Int32} {s z nh : Nat} : ∀ (m : Nat) (pl : Int32) (V U : VW) (n c : Nat), IA n nh V U → (jbL ce s z m pl V n c).1 = (jbLM ce s z m pl U n c).1 ∧ ∃ n2, n ≤ n2 ∧ IA n2 nh (jbL ce s z m pl V n c).2 (jbLM ce s z m pl U n c).2 ∧ (jbL ce s z m pl V n c).2 0 13 = V 0 13 ∧ ∀ j, j < n → (jbLM ce s z m pl U n c).2 1 j = U 1 j ∧ (jbLM ce s z m pl U n c).2 2 j = U 2 j
  | 0, _, V, U, n, c, hA => ⟨rfl, n, Nat.le_refl _, hA, rfl, fun _ _ => ⟨rfl, rfl⟩⟩
  | m + 1, pl, V, U, n, c, hA => by
    unfold jbL jbLM
    by_cases q : runF pl 2 (nI z) = true
    · rw [if_pos q, if_pos q]
      obtain ⟨g1, g2, g3, g4⟩ := IA_jk1 (k := numF ce s z pl) (m := numF ce s z (pl + 1)) hA
      obtain ⟨i1, n2, i2, i3, i4, i5⟩ := jb_eq m (pl + 2) _ _ _ (if aJx n (numF ce s z pl) (numF ce s z (pl + 1)) < 0 then c else c + 1) g1
      exact ⟨i1, n2, by omega, i3, i4.trans g3, fun j hj => ⟨(i5 j (by omega)).1.trans (g4 j hj).1, (i5 j (by omega)).2.trans (g4 j hj).2⟩⟩
    · rw [if_neg q, if_neg q]
      exact ⟨rfl, n, Nat.le_refl _, hA, rfl, fun _ _ => ⟨rfl, rfl⟩⟩
theorem jf_eq {so sz ce : Nat → Int32} {nj nh : Nat} {V U : VW} {s sort pl n : Int32} (hA : IA nj nh V U) : (jbF V so sz ce nj s sort pl n).1 = (jbFM U so sz ce nj s sort pl n).1 ∧ ∃ n2, nj ≤ n2 ∧ IA n2 nh (jbF V so sz ce nj s sort pl n).2 (jbFM U so sz ce nj s sort pl n).2 ∧ (jbF V so sz ce nj s sort pl n).2 0 13 = V 0 13 ∧ ∀ j, j < nj → (jbFM U so sz ce nj s sort pl n).2 1 j = U 1 j ∧ (jbFM U so sz ce nj s sort pl n).2 2 j = U 2 j := by
  unfold jbF jbFM
  split
  · split
    · exact ⟨rfl, nj, Nat.le_refl _, hA, rfl, fun _ _ => ⟨rfl, rfl⟩⟩
    · split
      · exact jb_eq _ _ _ _ _ _ hA
      · exact ⟨rfl, nj, Nat.le_refl _, hA, rfl, fun _ _ => ⟨rfl, rfl⟩⟩
  · exact ⟨rfl, nj, Nat.le_refl _, hA, rfl, fun _ _ => ⟨rfl, rfl⟩⟩
theorem IS.shM {μ ν : PM} (h : IS μ ν) : shOM ν := by
  obtain ⟨_, h2, _, h4⟩ := h
  intro s hs
  rw [← h2]
  exact h4 s hs
theorem OP_jokesBy {l : Launch} {s so pl n : Int32} : OPI l yX7_jokesBy cX7_jokesBy 8 yX8_jokesBy cX8_jokesBy 9 [.int s, .int so, .int pl, .int n] := by
  rintro μ ν ⟨μ0, V, nm, sk, ν0, U, nm2, sk2, st, rfl, rfl, r⟩
  obtain ⟨nj, nh, hA, hB, hT, hW, hS, hI⟩ := id r
  obtain ⟨g0, n2, g1, g2, g3, g4⟩ := jf_eq (so := ν0.1 10) (sz := ν0.1 11) (ce := ν0.1 12) (s := s) (sort := so) (pl := pl) (n := n) hA
  refine ⟨(jbF V (ν0.1 10) (ν0.1 11) (ν0.1 12) nj s so pl n).1, 4, 3, PC μ0 (jbF V (ν0.1 10) (ν0.1 11) (ν0.1 12) nj s so pl n).2, PN ν0 (jbFM U (ν0.1 10) (ν0.1 11) (ν0.1 12) nj s so pl n).2, by decide, by decide, CT.mono (T_X7_jokesBy hA.1 hA.2.1 hS.2.2.2) (QI.mono fun x m g => ?_), CT.mono (T_X8_jokesBy hA.u1 hA.2.1 hS.shM) (QI.mono fun x m g => ⟨g.1.trans g0.symm, pn_a g.2⟩), fun a b => INV_of ⟨_, nh, g2, IB_w hB g3, hT, hW, hS, II_w hI g1 g4⟩⟩
  rw [← hS.1, ← hS.2.1, ← hS.2.2.1]
  exact ⟨g.1, pc_a g.2⟩
theorem IA_hearer {nj nh : Nat} {V U : VW} {fu fr : Int32} (hA : IA nj nh V U) (h6 : nh < 6) : IA nj (nh + 1) (addHV V nh fu fr) (addHV U nh fu fr) := by
  obtain ⟨a1, a2, a3, a4, e, a6, a7, a8, a9, a10, a11⟩ := hA
  refine ⟨a1, a2, rfl, by omega, ⟨⟨e.1.1, rfl, e.1.2.2.1, e.1.2.2.2⟩, e.2.1, ?_⟩, a6, ?_, a8, ?_, a10, a11⟩
  · intro h hh
    show upd (V 4) nh fu h = upd (U 4) nh fu h ∧ upd (V 5) nh 0 h = upd (U 5) nh 0 h ∧ upd (V 6) nh 0 h = upd (U 6) nh 0 h ∧ upd (V 7) nh 0 h = upd (U 7) nh 0 h ∧ upd (V 8) nh fr h = upd (U 8) nh fr h
    by_cases q : h = nh
    · subst q
      simp only [upd_s, and_self]
    · rw [upd_o _ _ q, upd_o _ _ q, upd_o _ _ q, upd_o _ _ q, upd_o _ _ q, upd_o _ _ q, upd_o _ _ q, upd_o _ _ q, upd_o _ _ q, upd_o _ _ q]
      exact e.2.2 h (by omega)
  · intro h hh
    show ∃ a, a ≤ 9999 ∧ upd (U 5) nh 0 h = nI a
    by_cases q : h = nh
    · subst q
      rw [upd_s]
      exact ⟨0, by omega, rfl⟩
    · rw [upd_o _ _ q]
      exact a7 h (by omega)
  · intro h hh
    show ∃ a, a < 2 ^ nj ∧ upd (U 7) nh 0 h = nI a
    by_cases q : h = nh
    · subst q
      rw [upd_s]
      exact ⟨0, Nat.two_pow_pos nj, rfl⟩
    · rw [upd_o _ _ q]
      exact a9 h (by omega)
theorem OP_hearer {l : Launch} {fu fr : Int32} : OPI l yX7_hearer cX7_hearer 3 yX8_hearer cX8_hearer 3 [.int fu, .int fr] := by
  rintro μ ν ⟨μ0, V, nm, sk, ν0, U, nm2, sk2, st, rfl, rfl, r⟩
  obtain ⟨nj, nh, hA, hB, hT, hW, hS, hI⟩ := id r
  refine ⟨heX V nh fu fr, 2, 2, PC μ0 (heV V nh fu fr), PN ν0 (heV U nh fu fr), by decide, by decide, CT.mono (T_X7_hearer hA.2.2.1 hA.2.2.2.1) (QI.mono fun x m g => ⟨g.1, pc_a g.2⟩), CT.mono (T_X8_hearer hA.u5 hA.2.2.2.1) (QI.mono fun x m g => ⟨g.1, pn_a g.2⟩), fun a b => INV_of ?_⟩
  unfold heV
  split
  · split
    · exact ⟨nj, _, IA_hearer hA (by assumption), IB_w hB rfl, hT, hW, hS, II_w hI (Nat.le_refl _) (fun j _ => ⟨rfl, rfl⟩)⟩
    · exact r
  · exact r
