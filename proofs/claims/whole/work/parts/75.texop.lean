/-! ONE CALL ON BOTH: text -/
theorem form_of {m : PM} {V : VW} (hV : ∀ r, r < 10 → m.1 (22 + r) = V r) : m = sc (wr m 22 V) (m.1 4) (m.1 5) := by
  refine PM_ext (fun c => ?_) rfl
  show m.1 c = if c = 4 then m.1 4 else if c = 5 then m.1 5 else if 22 ≤ c ∧ c < 22 + 10 then V (c - 22) else m.1 c
  by_cases h4 : c = 4
  · rw [if_pos h4, h4]
  · rw [if_neg h4]
    by_cases h5 : c = 5
    · rw [if_pos h5, h5]
    · rw [if_neg h5]
      by_cases hw : 22 ≤ c ∧ c < 22 + 10
      · rw [if_pos hw, ← hV (c - 22) (by omega), show 22 + (c - 22) = c by omega]
      · rw [if_neg hw]
theorem ro_o {M : PM} {nt i cs : Int32} {ki pl nu en co : Nat → Int32} {c : Nat} (h6 : c ≠ 6) (h8 : c < 8 ∨ 12 < c) : (si (pM (eM (tM M nt ki pl nu) en) i cs co) 6 0 0).1 c = M.1 c := by
  rw [si_other _ _ _ _ h6]
  show (if c = 6 then _ else if c = 11 then _ else if c = 12 then _ else if c = 6 then _ else if c = 8 then _ else if c = 9 then _ else if c = 10 then _ else M.1 c) = _
  rw [if_neg h6, if_neg (by omega), if_neg (by omega), if_neg h6, if_neg (by omega), if_neg (by omega), if_neg (by omega)]
theorem depF_c {st st2 : Nat → Int32} : ∀ (n i d : Nat), (∀ k, k < n → st (i + k) = st2 (i + k)) → depF st i n d → depF st2 i n d
  | 0, _, _, _, h => h
  | n + 1, i, d, e, h => by
    have h0 := e 0 (by omega)
    rw [Nat.add_zero] at h0
    have e1 : ∀ k, k < n → st (i + 1 + k) = st2 (i + 1 + k) := fun k hk => by
      have := e (k + 1) (by omega)
      rwa [show i + (k + 1) = i + 1 + k by omega] at this
    unfold depF at h ⊢
    rw [← h0]
    split
    · rename_i q
      rw [if_pos q] at h
      exact ⟨h.1, depF_c n _ _ e1 h.2⟩
    · rename_i q
      rw [if_neg q] at h
      split
      · rename_i q2
        rw [if_pos q2] at h
        exact ⟨h.1, depF_c n _ _ e1 h.2⟩
      · rename_i q2
        rw [if_neg q2] at h
        exact ⟨h.1, depF_c n _ _ e1 h.2⟩
theorem depF_of {st : Nat → Int32} : ∀ (seg : List Int32) (i d : Nat), (∀ (k : Nat) (v : Int32), seg[k]? = some v → st (i + k) = v) → dpR seg d = some 1 → depF st i seg.length d
  | [], _, d, _, h => by
    injection h
  | c :: cs, i, d, e, h => by
    have h0 := e 0 c rfl
    rw [Nat.add_zero] at h0
    have e1 : ∀ (k : Nat) (v : Int32), cs[k]? = some v → st (i + 1 + k) = v := fun k v hk => by
      have := e (k + 1) v hk
      rwa [show i + (k + 1) = i + 1 + k by omega] at this
    change (if -6 ≤ c then (if d < 64 then dpR cs (d + 1) else none) else if -11 ≤ c then (if 1 ≤ d then dpR cs d else none) else (if 2 ≤ d then dpR cs (d - 1) else none)) = some 1 at h
    show (if -6 ≤ st i then _ else if -11 ≤ st i then _ else _)
    rw [h0]
    by_cases q : -6 ≤ c
    · rw [if_pos q] at h ⊢
      by_cases g : d < 64
      · rw [if_pos g] at h
        exact ⟨g, depF_of cs _ _ e1 h⟩
      · rw [if_neg g] at h
        exact absurd h (by simp)
    · rw [if_neg q] at h ⊢
      by_cases q2 : -11 ≤ c
      · rw [if_pos q2] at h ⊢
        by_cases g : 1 ≤ d
        · rw [if_pos g] at h
          exact ⟨g, depF_of cs _ _ e1 h⟩
        · rw [if_neg g] at h
          exact absurd h (by simp)
      · rw [if_neg q2] at h ⊢
        by_cases g : 2 ≤ d
        · rw [if_pos g] at h
          exact ⟨g, depF_of cs _ _ e1 h⟩
        · rw [if_neg g] at h
          exact absurd h (by simp)
theorem relC_old {μ ν μ2 ν2 : PM} {n t p : Nat} (hb : bookOK n (μ.1 3)) (ht : t < n) (hp : p < 3) (h2 : ∀ i, i < 160 * n → μ2.1 2 i = μ.1 2 i) (h3 : ∀ i, i < 3 * n → μ2.1 3 i = μ.1 3 i) (h7 : ∀ i, i < 200 * n → ν2.1 7 i = ν.1 7 i) (h8 : ∀ i, i < 4 * n → ν2.1 8 i = ν.1 8 i) (r : relC ν (bk μ) t p) : relC ν2 (bk μ2) t p := by
  have eE : ∀ x, x < 3 → lawE (bk μ2).2 t x = lawE (bk μ).2 t x := fun x hx => by
    show (μ2.1 3 (3 * t + x)).toNatClampNeg = (μ.1 3 (3 * t + x)).toNatClampNeg
    rw [h3 _ (by omega)]
  have eB : lawB (bk μ2).2 t p = lawB (bk μ).2 t p := by
    unfold lawB
    rw [eE (p - 1) (by omega)]
  have eL : lenC (bk μ2) t p = lenC (bk μ) t p := by
    unfold lenC
    rw [eE p hp, eB]
  have hE : lawE (bk μ).2 t p ≤ 160 := (hb.2 t p ht hp).2
  have hl : ∀ i, i < lenC (bk μ) t p → lawB (bk μ).2 t p + i < 160 := fun i hi => by
    unfold lenC at hi
    omega
  obtain ⟨off, r1, r2, r3, r4, r5⟩ := r
  unfold relC
  rw [eB, eL]
  refine ⟨off, by rw [h8 _ (by omega)]; exact r1, by rw [h8 _ (by omega)]; exact r2, r3, fun i hi => ?_, ?_⟩
  · have := hl i hi
    show encF (μ2.1 2 _) _
    rw [h2 _ (by omega), h7 _ (by omega)]
    exact r4 i hi
  · refine depF_c _ _ _ (fun k hk => ?_) r5
    have := hl k hk
    exact (h2 _ (by omega)).symm
theorem relC_new {μ2 ν2 : PM} {n p e : Nat} {co en e0 c0' : Nat → Int32} {code a seg b : List Int32} {es : List Nat} (hp : p < 3) (h2 : μ2.1 2 = va_cpy co c0' 0 (160 * n) 160) (h3 : μ2.1 3 = va_cpy en e0 0 (3 * n) 3) (hco : rowL co code) (hen : rowE en es) (hlen : code.length ≤ 160) (hes : ∀ (x v : Nat), es[x]? = some v → v ≤ 160) (h7 : ∀ (k : Nat) (v : Int32), (code.map mcF)[k]? = some v → ν2.1 7 (200 * n + k) = v) (h8 : ∀ (j v : Nat), (0 :: es)[j]? = some v → ν2.1 8 (4 * n + j) = nI v) (hc : code = a ++ seg ++ b) (ha : (0 :: es)[p]? = some a.length) (he : es[p]? = some e) (hae : a.length + seg.length = e) (hs : SegK 36 seg) : relC ν2 (bk μ2) n p ∧ (bk μ2).2 (3 * n + p) = nI (lawE (bk μ2).2 n p) ∧ lawE (bk μ2).2 n p ≤ 160 := by
  have e3 : ∀ (x v : Nat), x < 3 → es[x]? = some v → (bk μ2).2 (3 * n + x) = nI v := fun x v hx hv => by
    show μ2.1 3 (3 * n + x) = nI v
    rw [h3]
    show (if 3 * n ≤ 3 * n + x ∧ 3 * n + x < 3 * n + 3 then en (0 + (3 * n + x - 3 * n)) else _) = _
    rw [if_pos (by omega), show 0 + (3 * n + x - 3 * n) = x by omega]
    exact hen x v hv
  have eE : ∀ (x v : Nat), x < 3 → es[x]? = some v → lawE (bk μ2).2 n x = v := fun x v hx hv => by
    unfold lawE
    rw [e3 x v hx hv]
    exact nI_clamp (by have := hes x v hv; omega)
  have hEp := eE p e hp he
  have hBp : lawB (bk μ2).2 n p = a.length := by
    unfold lawB
    by_cases q : p = 0
    · subst q
      rw [if_pos rfl]
      exact Option.some.inj ha
    · rw [if_neg q]
      refine eE (p - 1) _ (by omega) ?_
      have : p = p - 1 + 1 := by omega
      rw [this] at ha
      exact ha
  have hL : lenC (bk μ2) n p = seg.length := by
    unfold lenC
    rw [hEp, hBp]
    omega
  have hsum : a.length + seg.length ≤ 160 := by
    rw [hc] at hlen
    simp only [List.length_append] at hlen
    omega
  have hst : ∀ (k : Nat) (v : Int32), seg[k]? = some v → (bk μ2).1 (160 * n + a.length + k) = v := fun k v hk => by
    have hk2 := (List.getElem?_eq_some_iff.mp hk).1
    show μ2.1 2 (160 * n + a.length + k) = v
    rw [h2]
    show (if 160 * n ≤ 160 * n + a.length + k ∧ 160 * n + a.length + k < 160 * n + 160 then co (0 + (160 * n + a.length + k - 160 * n)) else _) = _
    rw [if_pos (by omega), show 0 + (160 * n + a.length + k - 160 * n) = a.length + k by omega]
    refine hco _ _ ?_
    rw [hc, List.append_assoc, List.getElem?_append_right (by omega), show a.length + k - a.length = k by omega, List.getElem?_append_left hk2]
    exact hk
  refine ⟨?_, by rw [hEp]; exact e3 p e hp he, by rw [hEp]; omega⟩
  unfold relC
  rw [hBp, hL]
  refine ⟨a.length, h8 p _ ha, ?_, by omega, fun i hi => ?_, ?_⟩
  · rw [hae, show 4 * n + p + 1 = 4 * n + (p + 1) by omega]
    exact h8 (p + 1) e he
  · have hv : seg[i]? = some seg[i] := List.getElem?_eq_getElem hi
    rw [hst i _ hv]
    have h7' := h7 (a.length + i) (mcF seg[i]) (by
      rw [List.getElem?_map, hc, List.append_assoc, List.getElem?_append_right (by omega), show a.length + i - a.length = i by omega, List.getElem?_append_left hi, hv]
      rfl)
    rw [h7']
    exact hs.1 _ (List.getElem_mem hi)
  · exact depF_of seg _ 0 hst (hs.2 0 (by decide))
