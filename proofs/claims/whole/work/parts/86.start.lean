/-! the first TEXT is good -/
theorem muM0_14 : muM0.1 14 = aL mwds := rfl
theorem muM0_6 : muM0.1 6 = aL lawL := rfl
theorem IW_0 : IW muM0 := fun _ _ => rfl
set_option maxRecDepth 100000 in
theorem txG_0 : txG (aL mwds) (aL lawL) 45 (txA (aL mwds) (aL lawL) 45) = true := by decide +kernel
theorem sch_0 : ∀ k, k < 45 → sch 0 k = aL lawL k := by decide +kernel
theorem lawL_b : ∀ k, k < 45 → inF (aL lawL k) 0 255 = true := by decide +kernel
theorem bw_ldcS {p : Program} {l : Launch} {e : Env} {R : Room} {s : State} {m : MethodId} {args : Array Value} {below : List Frame} {meth : Method} {c : Code} {X : CX} {cA : ClassId} {A : Nat → Prop} {Z : State → Prop} {own : String} {cc : ByteArray} {maxL : Nat} {pc : Nat} {ls : PL} {st : List Value} {ws : va_W} {nc ns index i : Nat} (C : BC own cc maxL p s m args meth c X.1 cA A) (hE : EX X A s s.heap) (hd : decode cc pc = .ok (.ldc index, 2)) (hi : i < 3) (ho : sown i = own) (hx : sidx i = index) (kk : BW p l e R s m args below meth c X.1 A Z maxL (pc + 2) ls (.ref (X.2.2.1 (1000 + i)) :: st) ws nc ns) : BW p l e R s m args below meth c X.1 A Z maxL pc ls st ws nc ns := by
  intro H locs lz hP hD hS hl
  have h := hE.2.1 i hi
  rw [ho, hx] at h
  exact va_ldcS C.1 C.2.1 C.2.2.2.1 h hd (kk H locs lz hP hD hS hl)
