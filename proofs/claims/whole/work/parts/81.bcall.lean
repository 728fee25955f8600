/-! A CALL BY CONTRACT INSIDE A BUILDER'S RUN (or the law's): the callee's world is a part of the whole -/
theorem AX_A {Ω : SH} {X : CX} {μ : PM} {sz q : Nat} : va_A (wsO Ω X.2.1 X.2.2.1 μ) sz q ↔ AX Ω X sz q := by
  constructor
  · rintro (⟨k, e, h⟩ | h)
    · obtain ⟨h1, h2⟩ := wsO_inv h
      exact Or.inl ⟨k, h1, congrArg Prod.fst h2⟩
    · exact Or.inr h
  · rintro (⟨c, h1, h2⟩ | h)
    · exact Or.inl ⟨c, _, by rw [wsO_at h1, h2]⟩
    · exact Or.inr h
theorem bx_call {p : Program} {l : Launch} {e : Env} {R : Room} {s : State} {m : MethodId} {args : Array Value} {below : List Frame} {meth : Method} {c : Code} {H : Heap} {locs : List Loc} {Q : State → Prop} {Ω : SH} {X : CX} {Q1 : Option Value → PM → Prop} {A A1 : Nat → Prop} {a : Array Value} {rest st0 : List Value} {pc nc ns : Nat} {lz : Array Slot}
    (hr : va_Run p l e R s m args below meth c H locs nc ns 0 0 (F0 m pc lz st0) rest (QX Ω X Q1 A1 a) A1) (hS : va_S A s.heap H locs) (hA : ∀ q, A1 q → A q)
    (kk : ∀ (r : Option Value) (μ : PM) (H1 : Heap) (locs1 : List Loc), Q1 r μ → va_P X.1 vwCl (wsO Ω X.2.1 X.2.2.1 μ) H1 → va_D A1 (wsO Ω X.2.1 X.2.2.1 μ) → (∀ q : Nat, q < H.size → ¬ A1 q → H1[q]? = H[q]?) → va_S A s.heap H1 locs1 → W p l e R s m args below meth c H1 locs1 nc ns Q (F0 m (pc + 3) lz (r.toList ++ rest))) : W p l e R s m args below meth c H locs nc ns Q (F0 m pc lz st0) := by
  intro T hT X1
  obtain ⟨v, st₀, t, T', L, h0, X', hL, e1, e2, ⟨⟨r, μ, hv, hq, hP, hD⟩, hz, hk⟩, st⟩ := hr T hT X1
  cases hv
  rw [h0] at hz hk
  obtain ⟨t2, a1, b1⟩ := kk v μ T'.heap (locs ++ L) hq (by rw [e1]; exact hP) hD (fun q h1 h2 => by rw [e1]; exact hk q h1 h2)
    ⟨Nat.le_trans hS.1 (by rw [e1]; exact hz), fun q h1 h2 => by rw [e1, hk q (Nat.lt_of_lt_of_le h1 hS.1) (fun z => h2 (hA q z))]; exact hS.2.1 q h1 h2, fun q hq => by
      rcases List.mem_append.mp hq with h | h
      · exact hS.2.2 q h
      · exact hA _ (hL q h)⟩ T' rfl X'
  exact ⟨t2, st t2 a1, b1⟩
theorem bw_cV {p : Program} {l : Launch} {e : Env} {R : Room} {s : State} {m : MethodId} {args : Array Value} {below : List Frame} {meth : Method} {c : Code} {X : CX} {A : Nat → Prop} {Z : State → Prop} {own : String} {cc : ByteArray} {maxL pc : Nat} {ls : PL} {ws wr : va_W} {nc ns : Nat} {Ω : SH} {μ : PM} {index n k' mL c0 : Nat} {y : MethodName} {bytes : ByteArray} {rt : Option FieldType} {as : List Value} {rest st0 : List Value} {Q1 : Option Value → PM → Prop} (C : BC own cc maxL p s m args meth c X.1 X.2.1 A) (hE : EX X A s s.heap)
    (hd : decode cc pc = .ok (.invokevirtual index, 3)) (hm : MV own index y bytes mL rt n) (hM : CT l Ω y bytes mL rt k' (.ref c0 :: as) μ Q1) (hc : CK Ω c0 y.cls)
    (hn : as.length = n) (hst : (as.map (tv X.2.2.1)).reverse ++ .ref (X.2.2.1 c0) :: rest = st0) (hr : wsum rest ≤ 8) (hR : k' + 1 ≤ R.frames ∧ 64 * k' + 60 ≤ R.locals) (hnR : nc ≤ R.cells ∧ ns ≤ R.slots)
    (isC isR : List Nat) (hCf : isC.filterMap (fun i => ws[i]?) = wsO Ω X.2.1 X.2.2.1 μ) (hC : isC.map (fun i => ws[i]?) = (wsO Ω X.2.1 X.2.2.1 μ).map some) (hRr : isR.map (fun i => ws[i]?) = wr.map some) (hnd : va_nd isR = true) (hnc : va_nd isC = true) (hdis : ∀ i ∈ isR, i ∉ isC)
    (kk : ∀ r μ', Q1 r μ' → BW p l e R s m args below meth c X.1 A Z maxL (pc + 3) ls (r.toList ++ rest) (wr ++ wsO Ω X.2.1 X.2.2.1 μ') nc ns) : BW p l e R s m args below meth c X.1 A Z maxL pc ls st0 ws nc ns := by
  intro H locs lz hP hD hS hl
  obtain ⟨hx, hb, hml, hown, hts, hK, hA, hin, hN⟩ := C
  obtain ⟨⟨m1, m2, m3, m4, m5, m6⟩, m7, m8⟩ := hm
  have hPc := hP.sub (ws' := wsO Ω X.2.1 X.2.2.1 μ) isC hCf
  have hDc := hD.sub (ws' := wsO Ω X.2.1 X.2.2.1 μ) isC hnc hC
  have hF := va_free (wc := wsO Ω X.2.1 X.2.2.1 μ) hD hS hA isC hC
  have hF2 : ∀ q, AX Ω X H.size q → A q := fun q h => hF q (AX_A.2 h)
  have hMX := hM X H.size
  have hrecv : ∃ cellB : Cell, H[X.2.2.1 c0]? = some cellB ∧ cellB.vm.isStatics = false ∧ s.vm.findClass y.cls = some cellB.cls := by
    rcases hc with ⟨ci, ks, q, c1, c2, c3, c4⟩ | ⟨i, i1, rfl, i3⟩
    · have h := va_recv (q0 := c0) (ci := ci) (a := X.2.2.1 c0) (fs := fvs X.2.2.1 μ c0 0 ks) (q := q) hK hPc c3 (by rw [wsO_at c1, cEnt_o c2])
      rw [c4] at h
      exact h
    · rw [i3]
      exact vk_recv (i := i) (adK := fun i => X.2.2.1 (1000 + i)) hE.1 i1 hS
  have hpre : ∀ U : State, U.heap = H → s.WarmedH U.vm → va_Pc ((Value.ref c0 :: as).map (tv X.2.2.1)) (fun U => U.heap.size = H.size ∧ va_P X.1 vwCl (wsO Ω X.2.1 X.2.2.1 μ) U.heap ∧ va_K X.1 vwCl [(X.2.1, .int)] U ∧ va_D (fun _ => True) (wsO Ω X.2.1 X.2.2.1 μ) ∧ EX X (AX Ω X H.size) U U.heap) ((Value.ref c0 :: as).map (tv X.2.2.1)).toArray U := by
    intro U hU hW
    refine ⟨rfl, by rw [hU], by rw [hU]; exact hPc, va_K.moved hW.alike hK, hDc.weaken (fun _ _ _ _ => trivial), ?_⟩
    rw [hU]
    exact ((hE.kept hS.2.1).narrow hF2).warm hW
  have hfin : ∀ (r : Option Value) (μ' : PM) (H1 : Heap) (locs1 : List Loc), Q1 r μ' → va_P X.1 vwCl (wsO Ω X.2.1 X.2.2.1 μ') H1 → va_D (AX Ω X H.size) (wsO Ω X.2.1 X.2.2.1 μ') → (∀ q : Nat, q < H.size → ¬ AX Ω X H.size q → H1[q]? = H[q]?) → va_S A s.heap H1 locs1 → W p l e R s m args below meth c H1 locs1 nc ns Z (F0 m (pc + 3) lz (r.toList ++ rest)) := by
    intro r μ' H1 locs1 hq hP1 hD1 hk1 hS1
    obtain ⟨hPj, hDj⟩ := va_join (wc := wsO Ω X.2.1 X.2.2.1 μ) (wr := wr) (w1 := wsO Ω X.2.1 X.2.2.1 μ') hP hD isC isR hC hRr hnd hdis (fun q h1 h2 => hk1 q h1 (fun z => h2 (AX_A.2 z))) hF hP1 (hD1.weaken (fun k q _ h => AX_A.2 h))
    exact kk r μ' hq H1 locs1 lz hPj hDj hS1 hl
  have hRm : (rmk k').frames + 1 ≤ R.frames ∧ 8 + (mL + 11) + (rmk k').locals ≤ R.locals := ⟨hR.1, by show 8 + (mL + 11) + 64 * k' ≤ R.locals; omega⟩
  rcases m1 with m1 | ⟨host, m1⟩
  · refine bx_call (Q1 := Q1) (A1 := AX Ω X H.size) (rest := rest) (va_runV (bytes := bytes) (maxL := mL) (ret := rt) (n := n) (C := y.cls) (As := as.map (tv X.2.2.1)) (rest := rest) ⟨hx, hb, hml, hown, hts⟩ hMX ?_ ⟨xw_blind, hrecv, hpre⟩ rfl ((List.length_map _).trans hn) hl.1 hst.symm (lv_room hr) hd ⟨hnR.1, hnR.2⟩) hS hF2 hfin
    refine cwV n hts ?_ rfl rfl rfl ⟨rfl, m4.1, m4.2, m5⟩ hRm
    intro w hw
    rcases List.mem_append.mp hw with hw | hw
    · simp only [List.mem_cons, List.not_mem_nil, or_false] at hw
      rcases hw with rfl | rfl | rfl | rfl
      · exact TB_one m1
      · exact TB_one m7
      · exact TB_one m8
      · exact TB_one m3
    · exact TB_in m2 w hw
  · exact bx_call (Q1 := Q1) (A1 := AX Ω X H.size) (rest := rest) (va_runVN (bytes := bytes) (maxL := mL) (ret := rt) (n := n) (C := y.cls) (host := host) (As := as.map (tv X.2.2.1)) (rest := rest) ⟨hx, hb, hml, hown, hts⟩ hMX ⟨va_cnB (maxL := mL) (ret := rt) n hts (TB_in m2) rfl rfl rfl (hN _ m1) (hts _ m3) ⟨m4.1, m4.2, m5⟩ hRm, hts _ m7, hts _ m8⟩ ⟨xw_blind, hrecv, hpre⟩ rfl ((List.length_map _).trans hn) hl.1 hst.symm (lv_room hr) hd ⟨hnR.1, hnR.2⟩) hS hF2 hfin
