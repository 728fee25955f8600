/-! WHAT THE TWO HOLD OF EACH OTHER AT THE START -/
theorem IA_0 : IA 0 0 (fun r => muC0.1 (22 + r)) U0 := by
  refine ⟨rfl, by decide, rfl, by decide, ⟨⟨rfl, rfl, rfl, rfl⟩, fun j h => absurd h (by omega), fun h g => absurd g (by omega)⟩, ?_, fun h g => absurd g (by omega), fun h g => absurd g (by omega), fun h g => absurd g (by omega), fun h g => absurd g (by omega), 0, by decide, rfl⟩
  show ∀ k, k < 16 → (fun k => if k < 16 then (100 : Int32) else 0) k = aL [100, 100, 100, 100, 100, 100, 100, 100, 100, 100, 100, 100, 100, 100, 100, 100] k
  decide
theorem IB_0 {μ0 ν0 m ν2 : PM} {V : VW} {X : TX} (hV : V 0 13 = nI 0) (h1 : TC μ0 V 0 true X m) (h2 : TN ν0 0 true X ν2) : IB m ν2 V := by
  obtain ⟨c1, c2, c3, c4, c5⟩ := h1
  obtain ⟨d1, d2, d3, d4, d5, d6, d7⟩ := h2
  obtain ⟨code, es, co, en, f1, f2, f3, f4, f5, f6, f7, f8, f9, f10⟩ := c5 rfl
  have d7' := d7 rfl
  rw [f6, List.length_map, f7] at d7'
  rw [f6] at d5
  have hes : ∀ (x v : Nat), es[x]? = some v → v ≤ 160 := fun x v hv => by
    obtain ⟨a, sg, b, g1, g2, g3, g4⟩ := f1 x v hv
    rw [g1] at f3
    simp only [List.length_append] at f3
    omega
  have hnew : ∀ p, p < 3 → relC ν2 (bk m) 0 p ∧ (bk m).2 (3 * 0 + p) = nI (lawE (bk m).2 0 p) ∧ lawE (bk m).2 0 p ≤ 160 := fun p hp => by
    have hv : es[p]? = some (es[p]'(by omega)) := List.getElem?_eq_getElem (by omega)
    obtain ⟨a, sg, b, g1, g2, g3, g4⟩ := f1 p _ hv
    exact relC_new hp f8 f9 f4 f5 f3 hes d5.1 d7' g1 g2 hv g3 g4
  refine ⟨1, by omega, by omega, f10, d4, ⟨by omega, fun x p hx hp => ?_⟩, ⟨0, by omega, hV⟩, fun x hx p hp => ?_⟩
  · obtain rfl : x = 0 := by omega
    exact (hnew p hp).2
  · obtain rfl : x = 0 := by omega
    exact (hnew p hp).1
theorem sh_0 : (upd (upd (upd (upd (fun _ => 0) 0 (-1)) 1 (-1)) 2 (-1)) 3 (-1) : Nat → Int32) = aL [-1, -1, -1, -1] := by
  have e1 : upd (fun _ => 0) 0 (-1) = aL [-1] := aL_s (xs := []) (x := -1)
  have e2 : upd (aL [-1]) 1 (-1) = aL [-1, -1] := aL_s (xs := [-1]) (x := -1)
  have e3 : upd (aL [-1, -1]) 2 (-1) = aL [-1, -1, -1] := aL_s (xs := [-1, -1]) (x := -1)
  have e4 : upd (aL [-1, -1, -1]) 3 (-1) = aL [-1, -1, -1, -1] := aL_s (xs := [-1, -1, -1]) (x := -1)
  rw [e1, e2, e3, e4]
theorem INV_0 {m ν : PM} (h1 : QC0 m) (h2 : QM0 ν) : INV m ν := by
  obtain ⟨ν2, nm, sk, st, rfl, h2⟩ := h2
  refine ⟨m, _, m.1 4, m.1 5, ν2, U0, nm, sk, st, form_of h1.1, rfl, ?_⟩
  have hB := IB_0 rfl h1 h2
  obtain ⟨c1, c2, c3, c4, c5⟩ := h1
  obtain ⟨d1, d2, d3, d4, d5, d6, d7⟩ := h2
  have d (x : Nat) (h : x = 6 ∨ x = 10 ∨ x = 11 ∨ x = 12 ∨ x = 14) : ν2.1 x = muM0.1 x := d1 x (by omega) (by omega) (by omega) (by omega)
  have t19 : m.1 19 = aL [-1, -1, -1, -1] := by
    rw [c2 19 (by omega), tp_o (by decide) (by decide)]
    exact sh_0
  have t20 : m.1 20 = fun _ => 0 := by
    rw [c2 20 (by omega), tp_o (by decide) (by decide)]
    rfl
  have t21 : m.1 21 = fun _ => 0 := by
    rw [c2 21 (by omega), tp_o (by decide) (by decide)]
    rfl
  refine ⟨0, 0, IA_0, hB, ⟨0, by omega, c3, d3, fun i => ⟨?_, fun h => absurd h (by omega)⟩⟩, fun j hj => by rw [d 14 (by omega)]; exact IW_0 j hj, ⟨by rw [t19, d 10 (by omega)]; rfl, by rw [t20, d 11 (by omega)]; rfl, by rw [t21, d 12 (by omega)]; rfl, fun s hs => ⟨0, by omega, by rw [t20]; rfl⟩⟩, Or.inl ⟨?_, ?_⟩⟩
  · rw [c2 7 (by omega), tp_7, d 6 (by omega), muM0_6]
  · rw [c2 0 (by omega), tp_o (by decide) (by decide)]
    rfl
  · rw [d2 14 (by omega) (by omega)]
    rfl
