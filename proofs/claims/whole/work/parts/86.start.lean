/-! the first TEXT is good -/
theorem muM0_14 : muM0.1 14 = aL mwds := rfl
theorem muM0_6 : muM0.1 6 = aL lawL := rfl
theorem IW_0 : IW muM0 := fun _ _ => rfl
set_option maxRecDepth 100000 in
theorem txG_0 : txG (aL mwds) (aL lawL) 45 (txA (aL mwds) (aL lawL) 45) = true := by decide +kernel
theorem sch_0 : ∀ k, k < 45 → sch 0 k = aL lawL k := by decide +kernel
theorem lawL_b : ∀ k, k < 45 → inF (aL lawL k) 0 255 = true := by decide +kernel
theorem bw_ldcS {p : Program} {l : Launch} {e : Env} {R : Room} {s : State} {m : MethodId} {args : Array Value} {below : List Frame} {meth : Method} {c : Code} {X : CX} {cA : ClassId} {A : Nat → Prop} {Z : State → Prop} {own : String} {cc : ByteArray} {maxL : Nat} {pc : Nat} {ls : PL} {st : List Value} {ws : va_W} {nc ns index i : Nat} (C : BC own cc maxL p s m args meth c X.1 cA A) (hE : EX X A s s.heap) (hd : decode cc pc = .ok (.ldc index, 2)) (hi : i < 3) (ho : sown i = own) (hx : sidx i = index) (kk : BW p l e R s m args below meth c X.1 A Z maxL (pc + 2) ls (.ref (X.2.2.1 (1000 + i)) :: st) ws nc ns) : BW p l e R s m args below meth c X.1 A Z maxL pc ls st ws nc ns := by
  intro H locs lz hP hD hS hl
  have h := hE.2.1 i hi
  rw [ho, hx] at h
  exact va_ldcS C.1 C.2.1 C.2.2.2.1 h hd (kk H locs lz hP hD hS hl)
theorem EX_ad {X : CX} {N : Nat} {L : List Nat} {A : Nat → Prop} {U : State} {H : Heap} (hN : N ≤ 1000) (h : EX X A U H) : EX (X.1, X.2.1, adX N L X.2.2.1, X.2.2.2) A U H := by
  have e : ∀ x, 1000 ≤ x → adX N L X.2.2.1 x = X.2.2.1 x := fun x hx => if_neg (by omega)
  have e1 : (fun i => adX N L X.2.2.1 (1000 + i)) = fun i => X.2.2.1 (1000 + i) := funext fun i => e _ (by omega)
  have e2 : (fun i => adX N L X.2.2.1 (1100 + i)) = fun i => X.2.2.1 (1100 + i) := funext fun i => e _ (by omega)
  obtain ⟨h1, h2, h3, h4, h5⟩ := h
  refine ⟨?_, fun i hi => ?_, h3, ?_, h5⟩
  · show vk_S 3 slen sbyt (fun i => adX N L X.2.2.1 (1000 + i)) (fun i => adX N L X.2.2.1 (1100 + i)) A U H
    rw [e1, e2]
    exact h1
  · show vk_R (sown i) (sidx i) (stx i) (adX N L X.2.2.1 (1000 + i)) U
    rw [e _ (by omega)]
    exact h2 i hi
  · rcases h4 with h | h
    · exact Or.inl h
    · refine Or.inr ?_
      show va_Z _ _ _ (.ref (adX N L X.2.2.1 2000)) A U H
      rw [e 2000 (by omega)]
      exact h
