theorem IB_c {μ ν μ2 ν2 : PM} {V : VW} (h : IB μ ν V) (e1 : μ2.1 1 = μ.1 1) (e2 : μ2.1 2 = μ.1 2) (e3 : μ2.1 3 = μ.1 3) (g12 : ν2.1 0 12 = ν.1 0 12) (g7 : ν2.1 7 = ν.1 7) (g8 : ν2.1 8 = ν.1 8) : IB μ2 ν2 V := by
  obtain ⟨n, b1, b2, b3, b4, b5, b6, b7⟩ := h
  refine ⟨n, b1, b2, by rw [e1]; exact b3, by rw [g12]; exact b4, by rw [e3]; exact b5, b6, fun t ht p hp => ?_⟩
  have r := b7 t ht p hp
  unfold relC bk at r ⊢
  rw [e2, e3, g7, g8]
  exact r
theorem bkV_c {ν ν2 : PM} {U : VW} (g15 : ν2.1 0 15 = ν.1 0 15) (g16 : ν2.1 0 16 = ν.1 0 16) (g17 : ν2.1 0 17 = ν.1 0 17) (g18 : ν2.1 0 18 = ν.1 0 18) (g9 : ν2.1 9 = ν.1 9) : bkV ν2 U = bkV ν U := by
  unfold bkV bkV0
  rw [g15, g16, g17, g18, g9]
theorem II_c {nj : Nat} {μ ν μ2 ν2 : PM} {U : VW} (h : II nj μ ν U) (e0 : μ2.1 0 5 = μ.1 0 5) (e1 : μ2.1 1 = μ.1 1) (eK : kpV μ2 = kpV μ) (g14 : ν2.1 0 14 = ν.1 0 14) (gb : bkV ν2 U = bkV ν U) : II nj μ2 ν2 U := by
  unfold II
  rw [e0, e1, eK, g14, gb]
  exact h
theorem REL_s {μ ν μ2 ν2 : PM} {V U : VW} (r : REL μ V ν U) (hC : ∀ c, c ≠ 19 → c ≠ 20 → c ≠ 21 → μ2.1 c = μ.1 c) (hN : ∀ c, c ≠ 10 → c ≠ 11 → c ≠ 12 → ν2.1 c = ν.1 c) (hS : IS μ2 ν2) : REL μ2 V ν2 U := by
  obtain ⟨nj, nh, a, b, ⟨q, t1, t2, t3, t4⟩, w, _, i⟩ := r
  have c (x : Nat) (h : x < 19 ∨ 21 < x) : μ2.1 x = μ.1 x := hC x (by omega) (by omega) (by omega)
  have d (x : Nat) (h : x < 10 ∨ 12 < x) : ν2.1 x = ν.1 x := hN x (by omega) (by omega) (by omega)
  have d0 := d 0 (by omega)
  refine ⟨nj, nh, a, IB_c b (c 1 (by omega)) (c 2 (by omega)) (c 3 (by omega)) (by rw [d0]) (d 7 (by omega)) (d 8 (by omega)), ⟨q, t1, by rw [c 6 (by omega)]; exact t2, by rw [d0]; exact t3, fun i => by rw [c 7 (by omega), d 6 (by omega)]; exact t4 i⟩, fun j hj => by rw [d 14 (by omega)]; exact w j hj, hS, II_c i (by rw [c 0 (by omega)]) (c 1 (by omega)) (funext fun r => c (42 + r) (by omega)) (by rw [d0]) (bkV_c (by rw [d0]) (by rw [d0]) (by rw [d0]) (by rw [d0]) (d 9 (by omega)))⟩
theorem rnM_o {μ : PM} {s : Nat} {so n : Int32} {c : Nat} (h1 : c ≠ 10) (h2 : c ≠ 11) (h3 : c ≠ 12) : (rnM μ s so n).1 c = μ.1 c := by
  unfold rnM
  rw [sr_other _ _ _ h3, si_other _ _ _ _ h2, si_other _ _ _ _ h1]
theorem IS_ren {μ ν : PM} {s : Nat} {so : Int32} {z : Nat} (h : IS μ ν) (hz : z ≤ 40) : IS (renM μ s so (nI z)) (rnM ν s so (nI z)) := by
  obtain ⟨h1, h2, h3, h4⟩ := h
  refine ⟨?_, ?_, ?_, ?_⟩
  · show upd (μ.1 19) s so = upd (ν.1 10) s so
    rw [h1]
  · show upd (μ.1 20) s (nI z) = upd (ν.1 11) s (nI z)
    rw [h2]
  · show zfF (μ.1 21) s 40 = zfF (ν.1 12) s 40
    rw [h3]
  · intro x hx
    show ∃ z2, z2 ≤ 40 ∧ upd (μ.1 20) s (nI z) x = nI z2
    by_cases q : x = s
    · subst q
      rw [upd_s]
      exact ⟨z, hz, rfl⟩
    · rw [upd_o _ _ q]
      exact h4 x hx
theorem sheetM_cm {μ : PM} {V : VW} {nm sk : Nat → Int32} {s so n : Int32} : sheetM (sc (wr μ 22 V) nm sk) s so n = sc (wr (sheetM μ s so n) 22 V) nm sk := by
  unfold sheetM
  rw [renM_cm, renM_cm]
  split
  · split
    · rfl
    · split
      · split
        · rfl
        · rfl
      · rfl
  · rfl
theorem OP_sheet {l : Launch} {s so n : Int32} : OPI l yX7_sheet cX7_sheet 4 yX8_sheet cX8_sheet 5 [.int s, .int so, .int n] := by
  rintro μ ν ⟨μ0, V, nm, sk, ν0, U, nm2, sk2, st, rfl, rfl, r⟩
  have hS := r.choose_spec.choose_spec.2.2.2.2.1
  refine ⟨sheetX s so n, 3, 3, PC (sheetM μ0 s so n) V, PN (shM ν0 s so n) U, by decide, by decide, CT.mono T_X7_sheet (QI.mono fun x m g => ⟨g.1, pc_a (nm := nm) (sk := sk) (g.2.trans sheetM_cm)⟩), CT.mono T_X8_sheet (QI.mono fun x m g => ⟨g.1, pn_a g.2⟩), fun a b => INV_of ?_⟩
  unfold sheetM shM
  split
  · split
    · exact REL_s r (fun c => renM_o) (fun c => rnM_o) (IS_ren (z := 0) hS (by decide))
    · split
      · rename_i q
        split
        · rename_i q2
          obtain ⟨z, hz, rfl⟩ := nI_of (Int32.not_lt.mpr q2)
          exact REL_s r (fun c => renM_o) (fun c => rnM_o) (IS_ren hS ((nI_leI (b := 40) hz (by decide)).1 q))
        · exact r
      · exact r
  · exact r
theorem cell_p {so sz : Nat → Int32} {s i : Int32} (h : cellX so sz s i = 1) : inF s 0 3 = true ∧ inF i 0 (sz (cl s) - 1) = true := by
  unfold cellX at h
  by_cases q : inF s 0 3 = true
  · rw [if_pos q] at h
    by_cases q2 : so (cl s) = -1
    · rw [if_pos q2] at h
      exact absurd h (by decide)
    · rw [if_neg q2] at h
      by_cases q3 : inF i 0 (sz (cl s) - 1) = true
      · exact ⟨q, q3⟩
      · rw [if_neg q3] at h
        exact absurd h (by decide)
  · rw [if_neg q] at h
    exact absurd h (by decide)
theorem IS_si {μ ν : PM} {i : Nat} {v : Int32} (h : IS μ ν) : IS (si μ 21 i v) (si ν 12 i v) := by
  obtain ⟨h1, h2, h3, h4⟩ := h
  refine ⟨h1, h2, ?_, h4⟩
  show upd (μ.1 21) i v = upd (ν.1 12) i v
  rw [h3]
theorem cellM_cm {μ : PM} {V : VW} {nm sk : Nat → Int32} {s i v : Int32} : cellM (sc (wr μ 22 V) nm sk) s i v = sc (wr (cellM μ s i v) 22 V) nm sk := by
  show (if cellX (μ.1 19) (μ.1 20) s i = 1 then wrM (sc (wr μ 22 V) nm sk) (cl s) (cl (μ.1 20 (cl s))) i v else _) = _
  unfold cellM
  rw [wrM_cm]
  split
  · rfl
  · rfl
theorem OP_cell {l : Launch} {s i v : Int32} : OPI l yX7_cell cX7_cell 4 yX8_cell cX8_cell 4 [.int s, .int i, .int v] := by
  rintro μ ν ⟨μ0, V, nm, sk, ν0, U, nm2, sk2, st, rfl, rfl, r⟩
  have hS := r.choose_spec.choose_spec.2.2.2.2.1
  refine ⟨cellX (ν0.1 10) (ν0.1 11) s i, 4, 3, PC (cellM μ0 s i v) V, PN (ceM ν0 s i v) U, by decide, by decide, CT.mono (T_X7_cell hS.2.2.2) (QI.mono fun x m g => ⟨?_, pc_a (nm := nm) (sk := sk) (g.2.trans cellM_cm)⟩), CT.mono (T_X8_cell hS.shM) (QI.mono fun x m g => ⟨g.1, pn_a g.2⟩), fun a b => INV_of ?_⟩
  · rw [← hS.1, ← hS.2.1]
    exact g.1
  · unfold cellM ceM
    rw [← hS.1, ← hS.2.1]
    by_cases q : cellX (μ0.1 19) (μ0.1 20) s i = 1
    · obtain ⟨q1, q2⟩ := cell_p q
      obtain ⟨z, hz, ez⟩ := hS.2.2.2 _ (tw_cl q1)
      rw [if_pos q, if_pos q]
      unfold wrM
      rw [ez] at q2 ⊢
      rw [cl_nI (by omega), if_pos q2]
      exact REL_s r (fun c _ _ h => si_other _ _ _ _ h) (fun c _ _ h => si_other _ _ _ _ h) (IS_si hS)
    · rw [if_neg q, if_neg q]
      exact r
theorem copyM_cm {μ : PM} {V : VW} {nm sk : Nat → Int32} {s i o j n : Int32} : copyM (sc (wr μ 22 V) nm sk) s i o j n = sc (wr (copyM μ s i o j n) 22 V) nm sk := by
  show (if copyX (μ.1 19) (μ.1 20) s i o j n < 0 then _ else sr (sc (wr μ 22 V) nm sk) 21 (va_cpy (μ.1 21) (μ.1 21) (40 * cl s + cl i) (40 * cl o + cl j) (cl n))) = _
  unfold copyM
  rw [sr_sc (by decide) (by decide), sr_wrO (by decide)]
  split
  · rfl
  · rfl
theorem OP_copy {l : Launch} {s i o j n : Int32} : OPI l yX7_copy cX7_copy 6 yX8_copy cX8_copy 10 [.int s, .int i, .int o, .int j, .int n] := by
  rintro μ ν ⟨μ0, V, nm, sk, ν0, U, nm2, sk2, st, rfl, rfl, r⟩
  have hS := r.choose_spec.choose_spec.2.2.2.2.1
  refine ⟨copyX (ν0.1 10) (ν0.1 11) s i o j n, 4, 3, PC (copyM μ0 s i o j n) V, PN (cpM ν0 s i o j n) U, by decide, by decide, CT.mono (T_X7_copy hS.2.2.2) (QI.mono fun x m g => ⟨?_, pc_a (nm := nm) (sk := sk) (g.2.trans copyM_cm)⟩), CT.mono (T_X8_copy hS.shM) (QI.mono fun x m g => ⟨g.1, pn_a g.2⟩), fun a b => INV_of ?_⟩
  · rw [← hS.1, ← hS.2.1]
    exact g.1
  · unfold copyM cpM
    rw [← hS.1, ← hS.2.1]
    by_cases q : copyX (μ0.1 19) (μ0.1 20) s i o j n < 0
    · rw [if_pos q, if_pos q]
      exact r
    · rw [if_neg q, if_neg q]
      refine REL_s r (fun c _ _ h => sr_other _ _ _ h) (fun c _ _ h => sr_other _ _ _ h) ⟨hS.1, hS.2.1, ?_, hS.2.2.2⟩
      show va_cpy (μ0.1 21) (μ0.1 21) _ _ _ = va_cpy (ν0.1 12) (ν0.1 12) _ _ _
      rw [hS.2.2.1]
