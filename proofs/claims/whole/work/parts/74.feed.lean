def FR (μ0 ν0 μ ν : PM) (q : Nat) : Prop := (∀ c, c ≠ 6 → c ≠ 7 → μ.1 c = μ0.1 c) ∧ (∀ c, c ≠ 0 → c ≠ 6 → ν.1 c = ν0.1 c) ∧ (∀ j, j ≠ 9 → ν.1 0 j = ν0.1 0 j) ∧ μ.1 6 0 = nI q ∧ ν.1 0 9 = nI q ∧ ∀ i, μ.1 7 i = ν.1 6 i ∧ (i < q → ∃ z, z < 256 ∧ ν.1 6 i = nI z)
theorem FR_step {μ0 ν0 μ ν : PM} {q : Nat} {b : Int32} (h : FR μ0 ν0 μ ν q) (hb : inF b 0 255 = true) : FR μ0 ν0 (putM μ q b) (si (si ν 6 q b) 0 9 (nI (q + 1))) (q + 1) := by
  obtain ⟨h1, h2, h3, h4, h5, h6⟩ := h
  refine ⟨fun c c6 c7 => ?_, fun c c0 c6 => ?_, fun j hj => ?_, ?_, ?_, fun i => ?_⟩
  · unfold putM
    rw [si_other _ _ _ _ c6, si_other _ _ _ _ c7]
    exact h1 c c6 c7
  · rw [si_other _ _ _ _ c0, si_other _ _ _ _ c6]
    exact h2 c c0 c6
  · rw [si_same, upd_o _ _ hj]
    exact h3 j hj
  · unfold putM
    rw [si_same, upd_s]
  · rw [si_same, upd_s]
  · have e7 : (putM μ q b).1 7 i = upd (μ.1 7) q b i := by
      unfold putM
      rw [si_other _ _ _ _ (by decide), si_same]
    have e6 : (si (si ν 6 q b) 0 9 (nI (q + 1))).1 6 i = upd (ν.1 6) q b i := by
      rw [si_other _ _ _ _ (by decide), si_same]
    rw [e7, e6]
    by_cases g : i = q
    · subst g
      rw [upd_s, upd_s]
      refine ⟨rfl, fun _ => ?_⟩
      obtain ⟨z, hz, ez⟩ := in_trueL (n := 255) hb (by decide)
      exact ⟨z, by omega, ez⟩
    · rw [upd_o _ _ g, upd_o _ _ g]
      exact ⟨(h6 i).1, fun hi => (h6 i).2 (by omega)⟩
theorem FR_rel {μ0 ν0 μ ν : PM} {V U : VW} {q : Nat} (r : REL μ0 V ν0 U) (hq : q ≤ 160) (h : FR μ0 ν0 μ ν q) : REL μ V ν U := by
  obtain ⟨nj, nh, a, b, _, w, ⟨s1, s2, s3, s4⟩, i⟩ := r
  obtain ⟨h1, h2, h3, h4, h5, h6⟩ := h
  have c (x : Nat) (h : x < 6 ∨ 7 < x) : μ.1 x = μ0.1 x := h1 x (by omega) (by omega)
  have d (x : Nat) (h : 0 < x ∧ x < 6 ∨ 6 < x) : ν.1 x = ν0.1 x := h2 x (by omega) (by omega)
  exact ⟨nj, nh, a, IB_c b (c 1 (by omega)) (c 2 (by omega)) (c 3 (by omega)) (h3 12 (by decide)) (d 7 (by omega)) (d 8 (by omega)), ⟨q, hq, h4, h5, h6⟩, fun j hj => by rw [d 14 (by omega)]; exact w j hj, ⟨by rw [c 19 (by omega), d 10 (by omega)]; exact s1, by rw [c 20 (by omega), d 11 (by omega)]; exact s2, by rw [c 21 (by omega), d 12 (by omega)]; exact s3, fun s hs => by rw [c 20 (by omega)]; exact s4 s hs⟩, II_c i (by rw [c 0 (by omega)]) (c 1 (by omega)) (funext fun r => c (42 + r) (by omega)) (h3 14 (by decide)) (bkV_c (h3 15 (by decide)) (h3 16 (by decide)) (h3 17 (by decide)) (h3 18 (by decide)) (d 9 (by omega)))⟩
theorem putM_cm {μ : PM} {V : VW} {nm sk : Nat → Int32} {n : Nat} {b : Int32} : putM (sc (wr μ 22 V) nm sk) n b = sc (wr (putM μ n b) 22 V) nm sk := by
  unfold putM
  rw [si_sc (by decide) (by decide), si_wrO (by omega), si_sc (by decide) (by decide), si_wrO (by omega)]
theorem putL_cm {V : VW} {nm sk : Nat → Int32} : ∀ (t : List Int32) (μ : PM) (n : Nat), putL (sc (wr μ 22 V) nm sk) n t = sc (wr (putL μ n t) 22 V) nm sk
  | [], _, _ => rfl
  | b :: t, μ, n => by
    unfold putL
    rw [putM_cm, putL_cm t]
theorem feedM_cm {μ : PM} {V : VW} {nm sk : Nat → Int32} {n : Nat} {k a b c d e : Int32} : feedM (sc (wr μ 22 V) nm sk) n k a b c d e = sc (wr (feedM μ n k a b c d e) 22 V) nm sk := by
  unfold feedM
  rw [putL_cm]
  split
  · split
    · rfl
    · rfl
  · rfl
theorem OP_feed {l : Launch} {k a b c d e : Int32} : OPI l yX7_feed cX7_feed 7 yX8_feed cX8_feed 8 [.int k, .int a, .int b, .int c, .int d, .int e] := by
  rintro μ ν ⟨μ0, V, nm, sk, ν0, U, nm2, sk2, st, rfl, rfl, r⟩
  obtain ⟨nj, nh, hA, hB, hT, hW, hS, hI⟩ := id r
  obtain ⟨q, t1, t2, t3, t4⟩ := hT
  refine ⟨feedX q k a b c d e, 4, 3, PC (feedM μ0 q k a b c d e) V, PN (feedN ν0 q k a b c d e) U, by decide, by decide, CT.mono (T_X7_feed (n := q) t2 t1) (QI.mono fun x m g => ⟨g.1, pc_a (nm := nm) (sk := sk) (g.2.trans feedM_cm)⟩), CT.mono (T_X8_feed t3 t1) (QI.mono fun x m g => ⟨g.1, pn_a g.2⟩), fun _ _ => INV_of ?_⟩
  unfold feedM feedN
  by_cases hb : (inF k 1 5 && bytesF a b c d e) = true
  · rw [if_pos hb, if_pos hb]
    by_cases hl : q + cl k ≤ 160
    · rw [if_pos hl, if_pos hl]
      simp only [bytesF, Bool.and_eq_true] at hb
      obtain ⟨hk, ha, hb2, hc, hd, he⟩ := hb
      have f0 : FR μ0 ν0 μ0 ν0 q := ⟨fun _ _ _ => rfl, fun _ _ _ => rfl, fun _ _ => rfl, t2, t3, t4⟩
      have f1 := FR_step f0 ha
      have f2 := FR_step f1 hb2
      have f3 := FR_step f2 hc
      have f4 := FR_step f3 hd
      have f5 := FR_step f4 he
      obtain ⟨i, hi, rfl⟩ := in_trueL (n := 5) (inF_up hk) (by decide)
      rw [cl_nI (by omega)] at hl ⊢
      have h0 : i ≠ 0 := by
        rintro rfl
        exact absurd hk (by decide)
      rcases (by omega : i = 1 ∨ i = 2 ∨ i = 3 ∨ i = 4 ∨ i = 5) with h | h | h | h | h
      · subst h
        exact FR_rel r hl f1
      · subst h
        exact FR_rel r hl f2
      · subst h
        exact FR_rel r hl f3
      · subst h
        exact FR_rel r hl f4
      · subst h
        exact FR_rel r hl f5
    · rw [if_neg hl, if_neg hl]
      exact r
  · rw [if_neg hb, if_neg hb]
    exact r
