/-! LISTS OF PLACES; a builder's run over whole worlds -/
theorem va_nd_of : ∀ l : List Nat, l.Nodup → va_nd l = true
  | [], _ => rfl
  | a :: l, h => by
    have h1 := List.nodup_cons.mp h
    show (decide (a ∉ l) && va_nd l) = true
    rw [va_nd_of l h1.2, decide_eq_true h1.1]
    rfl
theorem pl_c (a b : va_W) : (List.range a.length).map (fun i => (a ++ b)[i]?) = a.map some := by
  apply List.ext_getElem?
  intro k
  rw [List.getElem?_map, List.getElem?_map]
  by_cases h : k < a.length
  · rw [List.getElem?_range h]
    show some ((a ++ b)[k]?) = _
    rw [List.getElem?_append_left h, List.getElem?_eq_getElem h]
    rfl
  · rw [List.getElem?_eq_none (by rw [List.length_range]; omega), List.getElem?_eq_none (by omega)]
    rfl
theorem pl_r (a b : va_W) : ((List.range b.length).map (fun i => a.length + i)).map (fun i => (a ++ b)[i]?) = b.map some := by
  apply List.ext_getElem?
  intro k
  rw [List.getElem?_map, List.getElem?_map, List.getElem?_map]
  by_cases h : k < b.length
  · rw [List.getElem?_range h]
    show some ((a ++ b)[a.length + k]?) = _
    rw [List.getElem?_append_right (by omega), show a.length + k - a.length = k by omega, List.getElem?_eq_getElem h]
    rfl
  · rw [List.getElem?_eq_none (by rw [List.length_range]; omega), List.getElem?_eq_none (by omega)]
    rfl
theorem pl_f {α : Type} {β : Type} (f : α → Option β) : ∀ (l : List α) (b : List β), l.map f = b.map some → l.filterMap f = b
  | [], [], _ => rfl
  | [], _ :: _, h => by simp at h
  | _ :: _, [], h => by simp at h
  | x :: l, y :: b, h => by
    rw [List.map_cons, List.map_cons] at h
    obtain ⟨h1, h2⟩ := List.cons.inj h
    rw [List.filterMap_cons_some h1, pl_f f l b h2]
theorem pl_nd (a n : Nat) : va_nd ((List.range n).map (fun i => a + i)) = true := by
  refine va_nd_of _ ?_
  refine List.pairwise_map.mpr (List.nodup_range.imp ?_)
  intro x y h e
  exact h (by omega)
theorem pl_n0 (n : Nat) : va_nd (List.range n) = true := va_nd_of _ List.nodup_range
theorem pl_dis (a n : Nat) : ∀ i ∈ (List.range n).map (fun i => a + i), i ∉ List.range a := by
  intro i hi h
  obtain ⟨x, _, rfl⟩ := List.mem_map.mp hi
  have := List.mem_range.mp h
  omega
theorem wsO_len {Ω : SH} {cA : ClassId} {ad : Nat → Nat} {μ : PM} : (wsO Ω cA ad μ).length = Ω.1 := by
  unfold wsO
  rw [List.length_map, List.length_range]
section BOX
variable {p : Program} {l : Launch} {e : Env} {R : Room} {s : State} {m : MethodId} {args : Array Value} {below : List Frame} {meth : Method} {c : Code} {A : Nat → Prop} {Z : State → Prop} {own : String} {cc : ByteArray} {maxL pc : Nat} {ls : PL} {nc ns : Nat}
theorem bw_perm {G : va_G} {st : List Value} {ws ws' : va_W} (is : List Nat) (hC : is.map (fun i => ws[i]?) = ws'.map some) (hnd : va_nd is = true) (kk : BW p l e R s m args below meth c G A Z maxL pc ls st ws' nc ns) : BW p l e R s m args below meth c G A Z maxL pc ls st ws nc ns := by
  intro H locs lz hP hD hS hl
  exact kk H locs lz (hP.sub is (pl_f _ _ _ hC)) (hD.sub is hnd hC) hS hl
theorem bw_c2 {X : CX} {wr : va_W} {Ω : SH} {μ : PM} {index n k' mL c0 : Nat} {y : MethodName} {bytes : ByteArray} {rt : Option FieldType} {as : List Value} {rest st0 : List Value} {Q1 : Option Value → PM → Prop} (C : BC own cc maxL p s m args meth c X.1 X.2.1 A) (hE : EX X A s s.heap)
    (hd : decode cc pc = .ok (.invokevirtual index, 3)) (hm : MV own index y bytes mL rt n) (hM : CT l Ω y bytes mL rt k' (.ref c0 :: as) μ Q1) (hc : CK Ω c0 y.cls)
    (hn : as.length = n) (hst : (as.map (tv X.2.2.1)).reverse ++ .ref (X.2.2.1 c0) :: rest = st0) (hr : wsum rest ≤ 8) (hR : k' + 1 ≤ R.frames ∧ 64 * k' + 60 ≤ R.locals) (hnR : nc ≤ R.cells ∧ ns ≤ R.slots)
    (kk : ∀ r μ', Q1 r μ' → BW p l e R s m args below meth c X.1 A Z maxL (pc + 3) ls (r.toList ++ rest) (wr ++ wsO Ω X.2.1 X.2.2.1 μ') nc ns) : BW p l e R s m args below meth c X.1 A Z maxL pc ls st0 (wsO Ω X.2.1 X.2.2.1 μ ++ wr) nc ns := by
  have h1 := pl_c (wsO Ω X.2.1 X.2.2.1 μ) wr
  have h2 := pl_r (wsO Ω X.2.1 X.2.2.1 μ) wr
  rw [wsO_len] at h1 h2
  exact bw_cV (wr := wr) C hE hd hm hM hc hn hst hr hR hnR (List.range Ω.1) ((List.range wr.length).map (fun i => Ω.1 + i)) (pl_f _ _ _ h1) h1 h2 (pl_nd _ _) (pl_n0 _) (pl_dis _ _) kk
theorem bw_c1 {X : CX} {Ω : SH} {μ : PM} {index n k' mL c0 : Nat} {y : MethodName} {bytes : ByteArray} {rt : Option FieldType} {as : List Value} {rest st0 : List Value} {Q1 : Option Value → PM → Prop} (C : BC own cc maxL p s m args meth c X.1 X.2.1 A) (hE : EX X A s s.heap)
    (hd : decode cc pc = .ok (.invokevirtual index, 3)) (hm : MV own index y bytes mL rt n) (hM : CT l Ω y bytes mL rt k' (.ref c0 :: as) μ Q1) (hc : CK Ω c0 y.cls)
    (hn : as.length = n) (hst : (as.map (tv X.2.2.1)).reverse ++ .ref (X.2.2.1 c0) :: rest = st0) (hr : wsum rest ≤ 8) (hR : k' + 1 ≤ R.frames ∧ 64 * k' + 60 ≤ R.locals) (hnR : nc ≤ R.cells ∧ ns ≤ R.slots)
    (kk : ∀ r μ', Q1 r μ' → BW p l e R s m args below meth c X.1 A Z maxL (pc + 3) ls (r.toList ++ rest) (wsO Ω X.2.1 X.2.2.1 μ') nc ns) : BW p l e R s m args below meth c X.1 A Z maxL pc ls st0 (wsO Ω X.2.1 X.2.2.1 μ) nc ns := by
  rw [← List.append_nil (wsO Ω X.2.1 X.2.2.1 μ)]
  exact bw_c2 (wr := []) C hE hd hm hM hc hn hst hr hR hnR kk
theorem bw_getR {X : CX} {st : List Value} {Ω : SH} {μ : PM} {index ci j c0 r : Nat} {ty : FieldType} {fin : Bool} (C : BC own cc maxL p s m args meth c X.1 X.2.1 A) (hd : decode cc pc = .ok (.getfield index, 3)) (hf : FA own index ci j ty fin) (hs : gk Ω c0 ci j = some (r + 2)) (kk : BW p l e R s m args below meth c X.1 A Z maxL (pc + 3) ls (.ref (X.2.2.1 r) :: st) (wsO Ω X.2.1 X.2.2.1 μ) nc ns) : BW p l e R s m args below meth c X.1 A Z maxL pc ls (.ref (X.2.2.1 c0) :: st) (wsO Ω X.2.1 X.2.2.1 μ) nc ns := by
  obtain ⟨h1, ks, h2, h3⟩ := gk_spec hs
  refine bw_get (q0 := c0) (ci := ci) (j := j) (fs := fvs X.2.2.1 μ c0 0 ks) (v := .ref (X.2.2.1 r)) C hd hf ?_ ?_ kk
  · rw [wsO_at h1, cEnt_o h2]
  · rw [fvs_at ks 0 j (r + 2) h3]
    rfl
end BOX
