section MEM
variable {l : Launch} {Ω : SH} {own : String} {cc : ByteArray} {maxL : Nat} {ret : Option FieldType} {k : Nat} {Q : Option Value → PM → Prop} {pc : Nat} {ls : PL} {st : List Value} {μ : PM}
/-- the kind of field j of the cell c, of the class number ci -/
def gk (Ω : SH) (c ci j : Nat) : Option Nat := if c < Ω.1 then (match Ω.2 c with | .inr o => if o.1 = ci then o.2[j]? else none | .inl _ => none) else none
/-- the length of the array c -/
def ak (Ω : SH) (c : Nat) : Option Nat := if c < Ω.1 then (match Ω.2 c with | .inl n => if n ≤ 100000 then some n else none | .inr _ => none) else none
theorem gk_spec {c ci j kd : Nat} (h : gk Ω c ci j = some kd) : c < Ω.1 ∧ ∃ ks, Ω.2 c = .inr (ci, ks) ∧ ks[j]? = some kd := by
  unfold gk at h
  split at h
  · rename_i h1
    refine ⟨h1, ?_⟩
    split at h
    · rename_i o ho
      split at h
      · rename_i e
        exact ⟨o.2, by rw [ho, ← e], h⟩
      · cases h
    · cases h
  · cases h
theorem ak_spec {c n : Nat} (h : ak Ω c = some n) : c < Ω.1 ∧ Ω.2 c = .inl n ∧ n ≤ 100000 := by
  unfold ak at h
  split at h
  · rename_i h1
    refine ⟨h1, ?_⟩
    split at h
    · rename_i m hm
      split at h
      · rename_i h2
        cases h
        exact ⟨hm, h2⟩
      · cases h
    · cases h
  · cases h
def FA (own : String) (index ci j : Nat) (ty : FieldType) (fin : Bool) : Prop :=
  ∃ (C : String) (T : u_T) (N : Nat) (tys : Nat → FieldType), vwCl[ci]? = some (C, T, N) ∧ (∀ w ∈ u_ws C T N, w ∈ TB) ∧ j < N ∧ (Cond.fieldLink own index (T j).1 (T j).2.1 (T j).2.2.1 ∈ TB ∨ ∃ host, Cond.fieldLinkNest own index (T j).1 (T j).2.1 (T j).2.2.1 host ∈ NB) ∧ (∀ i, i < N → parseFieldDescriptor (T i).2.2.1 = some (tys i)) ∧ (∀ a, a < N → ∀ b, b < N → a ≠ b → (T a).2.1 ≠ (T b).2.1) ∧ tys j = ty ∧ (T j).2.2.2 = fin
theorem NB_use {p : Program} {s : State} {X : CX} {A : Nat → Prop} {args : Array Value} (hE : EX X A s s.heap) {w : Cond} (hw : w ∈ NB) : w.before args s = true := by
  have h2 := (List.mem_filter.mp hw).2
  have ht : w.onTables = true := by
    cases w with
    | methodLinkNest a b c d => rfl
    | fieldLinkNest a b c d e f => rfl
    | _ => exact absurd h2 (by simp [isNest])
  exact va_Nw.use ht (hE.2.2.2.2 w hw)
theorem pw_get {index ci j c kd : Nat} {ty : FieldType} {fin : Bool} {v : Value} (hd : decode cc pc = .ok (.getfield index, 3)) (hf : FA own index ci j ty fin) (hs : gk Ω c ci j = some kd) (hv : ∀ ad, fvl ad μ c j kd = tv ad v) (kk : PW l Ω own cc maxL ret k Q (pc + 3) ls (v :: st) μ) : PW l Ω own cc maxL ret k Q pc ls (.ref c :: st) μ := by
  intro X p e s m args below meth c0 A C H locs lz hP hD hS hl
  obtain ⟨CC, T, N, tys, f1, f2, f3, f4, f5, f6, f7, f8⟩ := hf
  obtain ⟨h1, ks, h2, h3⟩ := gk_spec hs
  have he : (wsO Ω X.2.1 X.2.2.1 μ)[c]? = some (X.2.2.1 c, .inr (ci, fvs X.2.2.1 μ c 0 ks)) := by rw [wsO_at h1, cEnt_o h2]
  have hv2 : (fvs X.2.2.1 μ c 0 ks)[j]? = some (tv X.2.2.1 v) := by rw [fvs_at ks 0 j kd h3, Nat.zero_add, hv]
  rcases f4 with f4 | ⟨host, f4⟩
  · exact va_get (D := X.1) (C := CC) (T := T) (N := N) C.1 C.2.1 C.2.2.2.2.2.1 f2 C.2.2.2.2.1 C.2.2.2.2.2.2.2.1 hP c he f1 j f3 (C.2.2.2.2.2.1 _ f4) (fun _ h9 => h9) hv2 hd (kk X p e s m args below meth c0 A C H locs lz hP hD hS hl)
  · exact va_getN (D := X.1) (C := CC) (T := T) (N := N) C.1 C.2.1 C.2.2.2.2.2.1 f2 C.2.2.2.2.1 C.2.2.2.2.2.2.2.1 hP c he f1 j f3 (NB_use (p := p) C.2.2.2.2.2.2.2.2.1 f4) (fun _ h9 => h9) hv2 hd (kk X p e s m args below meth c0 A C H locs lz hP hD hS hl)
theorem pw_getI {index ci j c : Nat} {ty : FieldType} {fin : Bool} (hd : decode cc pc = .ok (.getfield index, 3)) (hf : FA own index ci j ty fin) (hs : gk Ω c ci j = some 0) (kk : PW l Ω own cc maxL ret k Q (pc + 3) ls (.int (μ.1 c j) :: st) μ) : PW l Ω own cc maxL ret k Q pc ls (.ref c :: st) μ :=
  pw_get hd hf hs (v := .int (μ.1 c j)) (fun _ => rfl) kk
theorem pw_getL {index ci j c : Nat} {ty : FieldType} {fin : Bool} (hd : decode cc pc = .ok (.getfield index, 3)) (hf : FA own index ci j ty fin) (hs : gk Ω c ci j = some 1) (kk : PW l Ω own cc maxL ret k Q (pc + 3) ls (.long (μ.2 c) :: st) μ) : PW l Ω own cc maxL ret k Q pc ls (.ref c :: st) μ :=
  pw_get hd hf hs (v := .long (μ.2 c)) (fun _ => rfl) kk
theorem pw_getR {index ci j c r : Nat} {ty : FieldType} {fin : Bool} (hd : decode cc pc = .ok (.getfield index, 3)) (hf : FA own index ci j ty fin) (hs : gk Ω c ci j = some (r + 2)) (kk : PW l Ω own cc maxL ret k Q (pc + 3) ls (.ref r :: st) μ) : PW l Ω own cc maxL ret k Q pc ls (.ref c :: st) μ :=
  pw_get hd hf hs (v := .ref r) (fun _ => rfl) kk
theorem pw_put {index ci j c kd : Nat} {ty : FieldType} {v : Value} {μ' : PM} (hd : decode cc pc = .ok (.putfield index, 3)) (hf : FA own index ci j ty false) (hs : gk Ω c ci j = some kd) (hn : ∀ ad, narrow ty (tv ad v) = tv ad v) (hfit : ∀ ad, fits ty (tv ad v) = true)
    (hv : ∀ ad ks, Ω.2 c = .inr (ci, ks) → ks[j]? = some kd → (fvs ad μ c 0 ks).set j (tv ad v) = fvs ad μ' c 0 ks) (ho : ∀ cA ad c', c' ≠ c → cEnt Ω cA ad μ' c' = cEnt Ω cA ad μ c')
    (kk : PW l Ω own cc maxL ret k Q (pc + 3) ls st μ') : PW l Ω own cc maxL ret k Q pc ls (v :: .ref c :: st) μ := by
  intro X p e s m args below meth c0 A C H locs lz hP hD hS hl
  obtain ⟨CC, T, N, tys, f1, f2, f3, f4, f5, f6, f7, f8⟩ := hf
  obtain ⟨h1, ks, h2, h3⟩ := gk_spec hs
  have he : (wsO Ω X.2.1 X.2.2.1 μ)[c]? = some (X.2.2.1 c, .inr (ci, fvs X.2.2.1 μ c 0 ks)) := by rw [wsO_at h1, cEnt_o h2]
  have hw : (wsO Ω X.2.1 X.2.2.1 μ).set c (X.2.2.1 c, .inr (ci, (fvs X.2.2.1 μ c 0 ks).set j (tv X.2.2.1 v))) = wsO Ω X.2.1 X.2.2.1 μ' := by
    rw [hv X.2.2.1 ks h2 h3, ← cEnt_o (cA := X.2.1) (μ := μ') h2]
    exact wsO_set (ho X.2.1 X.2.2.1)
  have hlen : j < (fvs X.2.2.1 μ c 0 ks).length := by rw [fvs_len]; exact (List.getElem?_eq_some_iff.mp h3).1
  rcases f4 with f4 | ⟨host, f4⟩
  · exact va_put (D := X.1) (C := CC) (T := T) (N := N) C.1 C.2.1 C.2.2.2.2.2.1 f2 tys f5 f6 C.2.2.2.2.1 C.2.2.2.2.2.2.2.1 hP hD hS c he f1 j f3 (C.2.2.2.2.2.1 _ f4) (fun _ h9 => h9) f8 (by rw [f5 j f3, f7]) (hn _) (hfit _) hlen hd (fun H1 locs1 hP1 hD1 hS1 => kk X p e s m args below meth c0 A C H1 locs1 lz (hw ▸ hP1) (hw ▸ hD1) hS1 hl)
  · exact va_putN (D := X.1) (C := CC) (T := T) (N := N) C.1 C.2.1 C.2.2.2.2.2.1 f2 tys f5 f6 C.2.2.2.2.1 C.2.2.2.2.2.2.2.1 hP hD hS c he f1 j f3 (NB_use (p := p) C.2.2.2.2.2.2.2.2.1 f4) (fun _ h9 => h9) f8 (by rw [f5 j f3, f7]) (hn _) (hfit _) hlen hd (fun H1 locs1 hP1 hD1 hS1 => kk X p e s m args below meth c0 A C H1 locs1 lz (hw ▸ hP1) (hw ▸ hD1) hS1 hl)
theorem cEnt_si {c j : Nat} {v : Int32} {cA : ClassId} {ad : Nat → Nat} {c' : Nat} (h : c' ≠ c) : cEnt Ω cA ad (si μ c j v) c' = cEnt Ω cA ad μ c' := cEnt_ext (si_other μ c j v h) rfl
theorem fvs_si {ad : Nat → Nat} {c j : Nat} {v : Int32} (ks : List Nat) (h : ks[j]? = some 0) : (fvs ad μ c 0 ks).set j (.int v) = fvs ad (si μ c j v) c 0 ks := by
  refine fvs_set ks (fun kd hk => ?_) (fun j' kd hj hk => ?_)
  · rw [h] at hk
    cases hk
    show Value.int _ = Value.int _
    rw [si_same, upd, if_pos rfl]
  · match kd with
    | 0 =>
      show Value.int _ = Value.int _
      rw [si_same, upd, if_neg hj]
    | 1 => rfl
    | kd + 2 => rfl
theorem pw_putI {index ci j c : Nat} {x : Int32} (hd : decode cc pc = .ok (.putfield index, 3)) (hf : FA own index ci j .int false) (hs : gk Ω c ci j = some 0) (kk : PW l Ω own cc maxL ret k Q (pc + 3) ls st (si μ c j x)) : PW l Ω own cc maxL ret k Q pc ls (.int x :: .ref c :: st) μ :=
  pw_put (μ' := si μ c j x) (v := .int x) hd hf hs (fun _ => rfl) (fun _ => rfl) (fun ad ks _ h => fvs_si ks h) (fun _ _ _ h => cEnt_si h) kk
theorem pw_putZ {index ci j c : Nat} {x : Int32} (hd : decode cc pc = .ok (.putfield index, 3)) (hf : FA own index ci j .boolean false) (h01 : x = 0 ∨ x = 1) (hs : gk Ω c ci j = some 0) (kk : PW l Ω own cc maxL ret k Q (pc + 3) ls st (si μ c j x)) : PW l Ω own cc maxL ret k Q pc ls (.int x :: .ref c :: st) μ :=
  pw_put (μ' := si μ c j x) (v := .int x) hd hf hs (fun _ => by rcases h01 with e | e <;> rw [e] <;> rfl) (fun _ => by rcases h01 with e | e <;> rw [e] <;> rfl) (fun ad ks _ h => fvs_si ks h) (fun _ _ _ h => cEnt_si h) kk
/-- a cell has one long at most -/
def one1 (Ω : SH) (c j : Nat) : Bool := match Ω.2 c with | .inr o => (List.range o.2.length).all (fun i => decide (i = j) || !(o.2[i]? == some 1)) | .inl _ => false
theorem pw_putL {index ci j c : Nat} {x : Int64} (hd : decode cc pc = .ok (.putfield index, 3)) (hf : FA own index ci j .long false) (hs : gk Ω c ci j = some 1) (h1 : one1 Ω c j = true) (kk : PW l Ω own cc maxL ret k Q (pc + 3) ls st (sl μ c x)) : PW l Ω own cc maxL ret k Q pc ls (.long x :: .ref c :: st) μ := by
  refine pw_put (μ' := sl μ c x) (v := .long x) hd hf hs (fun _ => rfl) (fun _ => rfl) (fun ad ks h2 h => ?_) (fun _ _ c' h => cEnt_ext rfl (sl_other μ c x h)) kk
  refine fvs_set ks (fun kd hk => ?_) (fun j' kd hj hk => ?_)
  · rw [h] at hk
    cases hk
    show Value.long _ = Value.long _
    rw [sl_same]
  · match kd, hk with
    | 0, _ => rfl
    | 1, hk =>
      exfalso
      unfold one1 at h1
      rw [h2] at h1
      have h3 := List.all_eq_true.mp h1 j' (List.mem_range.mpr (List.getElem?_eq_some_iff.mp hk).1)
      simp [hj, hk] at h3
    | kd + 2, _ => rfl
theorem pw_iald {c n j : Nat} {x : Int32} (hd : decode cc pc = .ok (.iaload, 1)) (hs : ak Ω c = some n) (hx : x = nI j) (hj : j < n) (kk : PW l Ω own cc maxL ret k Q (pc + 1) ls (.int (μ.1 c j) :: st) μ) : PW l Ω own cc maxL ret k Q pc ls (.int x :: .ref c :: st) μ := by
  intro X p e s m args below meth c0 A C H locs lz hP hD hS hl
  obtain ⟨h1, h2, h3⟩ := ak_spec hs
  subst hx
  have he : (wsO Ω X.2.1 X.2.2.1 μ)[c]? = some (X.2.2.1 c, .inl (X.2.1, n, .inl (μ.1 c))) := by rw [wsO_at h1, cEnt_a h2]
  refine va_iald (D := X.1) C.1 C.2.1 C.2.2.2.2.2.2.2.1 hP c 0 he rfl (vp_in_nI hj (by omega)) hd ?_
  rw [nI_clamp (by omega)]
  exact kk X p e s m args below meth c0 A C H locs lz hP hD hS hl
theorem pw_iast {c n j : Nat} {x v : Int32} (hd : decode cc pc = .ok (.iastore, 1)) (hs : ak Ω c = some n) (hx : x = nI j) (hj : j < n) (kk : PW l Ω own cc maxL ret k Q (pc + 1) ls st (si μ c j v)) : PW l Ω own cc maxL ret k Q pc ls (.int v :: .int x :: .ref c :: st) μ := by
  intro X p e s m args below meth c0 A C H locs lz hP hD hS hl
  obtain ⟨h1, h2, h3⟩ := ak_spec hs
  subst hx
  have he : (wsO Ω X.2.1 X.2.2.1 μ)[c]? = some (X.2.2.1 c, .inl (X.2.1, n, .inl (μ.1 c))) := by rw [wsO_at h1, cEnt_a h2]
  have hw : (wsO Ω X.2.1 X.2.2.1 μ).set c (X.2.2.1 c, .inl (X.2.1, n, .inl (upd (μ.1 c) (nI j).toNatClampNeg v))) = wsO Ω X.2.1 X.2.2.1 (si μ c j v) := by
    rw [nI_clamp (by omega), ← si_same μ c j v, ← cEnt_a (cA := X.2.1) (ad := X.2.2.1) (μ := si μ c j v) h2]
    exact wsO_set (fun c' h => cEnt_si h)
  refine va_iast (D := X.1) C.1 C.2.1 C.2.2.2.2.2.2.2.1 hP hD hS c 0 he rfl (vp_in_nI hj (by omega)) hd (fun H1 locs1 hP1 hD1 hS1 => ?_)
  exact kk X p e s m args below meth c0 A C H1 locs1 lz (hw ▸ hP1) (hw ▸ hD1) hS1 hl
theorem pw_alen {c n : Nat} (hd : decode cc pc = .ok (.arraylength, 1)) (hs : ak Ω c = some n) (kk : PW l Ω own cc maxL ret k Q (pc + 1) ls (.int (nI n) :: st) μ) : PW l Ω own cc maxL ret k Q pc ls (.ref c :: st) μ := by
  intro X p e s m args below meth c0 A C H locs lz hP hD hS hl
  obtain ⟨h1, h2, h3⟩ := ak_spec hs
  have he : (wsO Ω X.2.1 X.2.2.1 μ)[c]? = some (X.2.2.1 c, .inl (X.2.1, n, .inl (μ.1 c))) := by rw [wsO_at h1, cEnt_a h2]
  exact va_alen (D := X.1) C.1 C.2.1 C.2.2.2.2.2.2.2.1 hP c 0 he rfl rfl hd (kk X p e s m args below meth c0 A C H locs lz hP hD hS hl)
theorem pw_ldc {index : Nat} {v : Int32} (hd : decode cc pc = .ok (.ldc index, 2)) (hw : Cond.constant own index v ∈ TB) (kk : PW l Ω own cc maxL ret k Q (pc + 2) ls (.int v :: st) μ) : PW l Ω own cc maxL ret k Q pc ls st μ := by
  intro X p e s m args below meth c A C H locs lz hP hD hS hl
  exact lv_ldc C.1 C.2.1 C.2.2.2.2.1 (C.2.2.2.2.2.1 _ hw) hd (kk X p e s m args below meth c A C H locs lz hP hD hS hl)
theorem pw_ldcw {index : Nat} {v : Int32} (hd : decode cc pc = .ok (.ldc_w index, 3)) (hw : Cond.constant own index v ∈ TB) (kk : PW l Ω own cc maxL ret k Q (pc + 3) ls (.int v :: st) μ) : PW l Ω own cc maxL ret k Q pc ls st μ := by
  intro X p e s m args below meth c A C H locs lz hP hD hS hl
  exact lv_ldcw C.1 C.2.1 C.2.2.2.2.1 (C.2.2.2.2.2.1 _ hw) hd (kk X p e s m args below meth c A C H locs lz hP hD hS hl)
theorem pw_ldc2 {index : Nat} {v : Int64} (hd : decode cc pc = .ok (.ldc2_w index, 3)) (hw : Cond.constantLong own index v ∈ TB) (kk : PW l Ω own cc maxL ret k Q (pc + 3) ls (.long v :: st) μ) : PW l Ω own cc maxL ret k Q pc ls st μ := by
  intro X p e s m args below meth c A C H locs lz hP hD hS hl
  exact lv_ldc2 C.1 C.2.1 C.2.2.2.2.1 (C.2.2.2.2.2.1 _ hw) hd (kk X p e s m args below meth c A C H locs lz hP hD hS hl)
theorem pw_ldcS {index i : Nat} (hd : decode cc pc = .ok (.ldc index, 2)) (hi : i < 3) (ho : sown i = own) (hx : sidx i = index) (kk : PW l Ω own cc maxL ret k Q (pc + 2) ls (.ref (1000 + i) :: st) μ) : PW l Ω own cc maxL ret k Q pc ls st μ := by
  intro X p e s m args below meth c A C H locs lz hP hD hS hl
  have h := C.2.2.2.2.2.2.2.2.1.2.1 i hi
  rw [ho, hx] at h
  exact va_ldcS C.1 C.2.1 C.2.2.2.2.1 h hd (kk X p e s m args below meth c A C H locs lz hP hD hS hl)
end MEM
