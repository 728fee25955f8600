theorem cap_b {a y M : Nat} (h : a + y < 2 ^ 30) (hM : M < 2 ^ 30) : ∃ z, z ≤ M ∧ (if nI a + nI y < nI M then nI a + nI y else nI M) = nI z := by
  rw [nI_add]
  rcases Nat.lt_or_ge (a + y) M with q | q
  · rw [if_pos (nI_lt q (by omega))]
    exact ⟨a + y, by omega, rfl⟩
  · rw [if_neg (nI_nlt q (by omega))]
    exact ⟨M, Nat.le_refl _, rfl⟩
/-- a telling keeps purses and wears within their bounds -/
theorem pw_tell {B : BK} {V : VW} {j h j2 h2 : Nat} (hp : pwOK V j h) (hp2 : pwOK V j2 h2) : pwOK (tellV B V j h) j2 h2 := by
  obtain ⟨⟨a, ha, ea⟩, ⟨b, hb, eb⟩⟩ := hp
  obtain ⟨y, hy, ey⟩ := yF_b B V j h
  obtain ⟨w, hw, ew⟩ := moreF_b (V 1 j)
  refine ⟨?_, ?_⟩
  · show ∃ a, a ≤ 9999 ∧ upd (V 5) h (if V 5 h + yF B V j h < 9999 then V 5 h + yF B V j h else 9999) h2 = nI a
    by_cases q : h2 = h
    · subst q
      rw [upd_s, ea, ey]
      exact cap_b (M := 9999) (by omega) (by decide)
    · rw [upd_o _ _ q]
      exact hp2.1
  · show ∃ b, b ≤ 99 ∧ upd (V 3) j (if V 3 j + moreF (V 1 j) < 99 then V 3 j + moreF (V 1 j) else 99) j2 = nI b
    by_cases q : j2 = j
    · subst q
      rw [upd_s, eb, ew]
      exact cap_b (M := 99) (by omega) (by decide)
    · rw [upd_o _ _ q]
      exact hp2.2
