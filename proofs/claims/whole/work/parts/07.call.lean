section CALL
variable {l : Launch} {Ω : SH} {own : String} {cc : ByteArray} {maxL : Nat} {ret : Option FieldType} {k : Nat} {Q : Option Value → PM → Prop} {pc : Nat} {ls : PL} {st : List Value} {μ : PM}
def wsum (st : List Value) : Nat := (st.map fun v => v.category).sum
theorem wsum_tv (ad : Nat → Nat) (st : List Value) : ((st.map (tv ad)).map fun v => v.category).sum = wsum st := by
  unfold wsum
  rw [List.map_map]
  congr 2
  funext v
  exact tv_cat ad v
/-- what links a call from class own, entry index, to method y -/
def MA (own : String) (index : Nat) (y : MethodName) (bytes : ByteArray) (mL : Nat) (rt : Option FieldType) (n : Nat) : Prop :=
  (Cond.methodLink own index y ∈ TB ∨ ∃ host, Cond.methodLinkNest own index y host ∈ NB) ∧ Cond.code y bytes mL rt ∈ TB ∧ Cond.initialized y.cls ∈ TB ∧ (y.cls ≠ "java/lang/invoke/MethodHandle" ∧ y.cls ≠ "java/lang/invoke/VarHandle") ∧ (parseMethodDescriptor y.desc).map (fun d => d.parameters.length) = some n ∧ mL ≤ 40
def MV (own : String) (index : Nat) (y : MethodName) (bytes : ByteArray) (mL : Nat) (rt : Option FieldType) (n : Nat) : Prop :=
  MA own index y bytes mL rt n ∧ Cond.instanceMethod y ∈ TB ∧ Cond.selects y.cls y y ∈ TB
def MS (own : String) (index : Nat) (y : MethodName) (bytes : ByteArray) (mL : Nat) (rt : Option FieldType) (n : Nat) : Prop :=
  MA own index y bytes mL rt n ∧ Cond.static y ∈ TB
def CK (Ω : SH) (c : Nat) (C : String) : Prop := (∃ (ci : Nat) (ks : List Nat) (q : vw_C), c < Ω.1 ∧ Ω.2 c = .inr (ci, ks) ∧ vwCl[ci]? = some q ∧ q.1 = C) ∨ ∃ i, i < 3 ∧ c = 1000 + i ∧ C = "java/lang/String"
theorem TB_in {y : MethodName} {bytes : ByteArray} {mL : Nat} {rt : Option FieldType} (h : Cond.code y bytes mL rt ∈ TB) : GoodIn TB (.code y bytes mL rt :: TB) := by
  intro w hw
  rcases List.mem_cons.mp hw with rfl | hw
  · exact ⟨h, good_of_word (TB_good _ h)⟩
  · exact ⟨hw, good_of_word (TB_good _ hw)⟩
theorem TB_one {w : Cond} (h : w ∈ TB) : w ∈ TB ∧ ((w.onTables && w.keeps) = true ∨ ∃ ty, w = .arrayClass ty) := ⟨h, good_of_word (TB_good _ h)⟩
/-- behind a call -/
theorem xw_call {p : Program} {e : Env} {R : Room} {s : State} {m : MethodId} {args : Array Value} {below : List Frame} {meth : Method} {c : Code} {H : Heap} {locs : List Loc} {Q : State → Prop} {X : CX} {Q1 : Option Value → PM → Prop} {A A1 : Nat → Prop} {a : Array Value} {rest st0 : List Value} {pc : Nat} {lz : Array Slot}
    (hr : va_Run p l e R s m args below meth c H locs 0 0 0 0 (F0 m pc lz st0) rest (QX Ω X Q1 A1 a) A1) (hS : va_S A s.heap H locs) (hA : ∀ q, A1 q → A q)
    (kk : ∀ (r : Option Value) (μ : PM) (H1 : Heap) (locs1 : List Loc), Q1 r μ → va_P X.1 vwCl (wsO Ω X.2.1 X.2.2.1 μ) H1 → va_D A1 (wsO Ω X.2.1 X.2.2.1 μ) → va_S A s.heap H1 locs1 → W p l e R s m args below meth c H1 locs1 0 0 Q (F0 m (pc + 3) lz (r.toList ++ rest))) : W p l e R s m args below meth c H locs 0 0 Q (F0 m pc lz st0) := by
  intro T hT X1
  obtain ⟨v, st₀, t, T', L, h0, X', hL, e1, e2, ⟨⟨r, μ, hv, hq, hP, hD⟩, hz, hk⟩, st⟩ := hr T hT X1
  cases hv
  rw [h0] at hz hk
  obtain ⟨t2, a1, b1⟩ := kk v μ T'.heap (locs ++ L) hq (by rw [e1]; exact hP) hD
    ⟨Nat.le_trans hS.1 (by rw [e1]; exact hz), fun q h1 h2 => by rw [e1, hk q (Nat.lt_of_lt_of_le h1 hS.1) (fun z => h2 (hA q z))]; exact hS.2.1 q h1 h2, fun q hq => by
      rcases List.mem_append.mp hq with h | h
      · exact hS.2.2 q h
      · exact hA _ (hL q h)⟩ T' rfl X'
  exact ⟨t2, st t2 a1, b1⟩
theorem xw_pre {X : CX} {s U : State} {A : Nat → Prop} {H : Heap} {locs : List Loc} {as : List Value} (hA : A = AX Ω X s.heap.size) (hK : va_K X.1 vwCl [(X.2.1, .int)] s) (hE : EX X A s s.heap) (hP : va_P X.1 vwCl (wsO Ω X.2.1 X.2.2.1 μ) H) (hD : va_D A (wsO Ω X.2.1 X.2.2.1 μ)) (hS : va_S A s.heap H locs) (hU : U.heap = H) (hW : s.WarmedH U.vm) :
    va_Pc (as.map (tv X.2.2.1)) (fun U => U.heap.size = H.size ∧ va_P X.1 vwCl (wsO Ω X.2.1 X.2.2.1 μ) U.heap ∧ va_K X.1 vwCl [(X.2.1, .int)] U ∧ va_D (fun _ => True) (wsO Ω X.2.1 X.2.2.1 μ) ∧ EX X (AX Ω X H.size) U U.heap) (as.map (tv X.2.2.1)).toArray U := by
  refine ⟨rfl, by rw [hU], by rw [hU]; exact hP, va_K.moved hW.alike hK, hD.weaken (fun _ _ _ _ => trivial), ?_⟩
  rw [hU]
  refine ((hE.kept hS.2.1).narrow (fun q hq => ?_)).warm hW
  rw [hA]
  rcases hq with h | h
  · exact Or.inl h
  · exact Or.inr (Nat.le_trans hS.1 h)
theorem xw_blind {X : CX} {as : List Value} {sz : Nat} : FrameBlind (va_Pc (as.map (tv X.2.2.1)) (fun U => U.heap.size = sz ∧ va_P X.1 vwCl (wsO Ω X.2.1 X.2.2.1 μ) U.heap ∧ va_K X.1 vwCl [(X.2.1, .int)] U ∧ va_D (fun _ => True) (wsO Ω X.2.1 X.2.2.1 μ) ∧ EX X (AX Ω X sz) U U.heap)) := by
  intro a U g mk q
  obtain ⟨q0, q1, qP, qK, qD, qE⟩ := q
  exact ⟨q0, q1, qP, va_K.moved (u := U) (U := U.calling g mk a) (Vm.Alike.refl U.vm) qK, qD, EX.same (s := U) (U := U.calling g mk a) rfl qE⟩
theorem xw_A {X : CX} {s : State} {A : Nat → Prop} {H : Heap} {locs : List Loc} (hA : A = AX Ω X s.heap.size) (hS : va_S A s.heap H locs) : ∀ q, AX Ω X H.size q → A q := by
  intro q hq
  rw [hA]
  rcases hq with h | h
  · exact Or.inl h
  · exact Or.inr (Nat.le_trans hS.1 h)
theorem pw_callV {index n k' mL c0 : Nat} {y : MethodName} {bytes : ByteArray} {rt : Option FieldType} {as rest st0 : List Value} {Q1 : Option Value → PM → Prop} (hd : decode cc pc = .ok (.invokevirtual index, 3)) (hm : MV own index y bytes mL rt n) (hM : CT l Ω y bytes mL rt k' (.ref c0 :: as) μ Q1) (hc : CK Ω c0 y.cls)
    (hn : as.length = n) (hst : as.reverse ++ .ref c0 :: rest = st0) (hr : wsum rest ≤ 8) (hk : k' + 1 ≤ k) (kk : ∀ r μ', Q1 r μ' → PW l Ω own cc maxL ret k Q (pc + 3) ls (r.toList ++ rest) μ') (hv : ∀ r μ', Q1 r μ' → ∀ ad, r.toList.map (tv ad) = r.toList) : PW l Ω own cc maxL ret k Q pc ls st0 μ := by
  intro X p e s m args below meth c A C H locs lz hP hD hS hl
  obtain ⟨hx, hb, -, hml, hown, hts, hlocks, hK, hE, hA⟩ := id C
  obtain ⟨⟨m1, m2, m3, m4, m5, m6⟩, m7, m8⟩ := hm
  have hMX := hM X H.size
  have hrecv : ∃ cellB : Cell, H[X.2.2.1 c0]? = some cellB ∧ cellB.vm.isStatics = false ∧ s.vm.findClass y.cls = some cellB.cls := by
    rcases hc with ⟨ci, ks, q, c1, c2, c3, c4⟩ | ⟨i, i1, rfl, i3⟩
    · have h := va_recv (q0 := c0) (ci := ci) (a := X.2.2.1 c0) (fs := fvs X.2.2.1 μ c0 0 ks) (q := q) hK hP c3 (by rw [wsO_at c1, cEnt_o c2])
      rw [c4] at h
      exact h
    · rw [i3]
      exact vk_recv (i := i) (adK := fun i => X.2.2.1 (1000 + i)) hE.1 i1 hS
  have hstk : st0.map (tv X.2.2.1) = (as.map (tv X.2.2.1)).reverse ++ .ref (X.2.2.1 c0) :: rest.map (tv X.2.2.1) := by
    rw [← hst, List.map_append, List.map_reverse]
    rfl
  have hfin : ∀ (r : Option Value) (μ' : PM) (H1 : Heap) (locs1 : List Loc), Q1 r μ' → va_P X.1 vwCl (wsO Ω X.2.1 X.2.2.1 μ') H1 → va_D (AX Ω X H.size) (wsO Ω X.2.1 X.2.2.1 μ') → va_S A s.heap H1 locs1 → W p l e (rmk k) s m args below meth c H1 locs1 0 0 (MQ below (QX Ω X Q A) args s 0 0 A) (F0 m (pc + 3) lz (r.toList ++ rest.map (tv X.2.2.1))) := by
    intro r μ' H1 locs1 hq hP1 hD1 hS1
    have h := kk r μ' hq X p e s m args below meth c A C H1 locs1 lz hP1 (hD1.weaken (fun k q _ h => xw_A hA hS q.1 h)) hS1 hl
    rw [List.map_append, hv r μ' hq] at h
    exact h
  have hR : (rmk k').frames + 1 ≤ (rmk k).frames ∧ 8 + (mL + 11) + (rmk k').locals ≤ (rmk k).locals := ⟨hk, by show 8 + (mL + 11) + 64 * k' ≤ 64 * k; omega⟩
  have hroom : 2 * (F0 m pc lz (st0.map (tv X.2.2.1))).monitorRoom + ((rest.map (tv X.2.2.1)).map fun v => v.category).sum ≤ 8 := lv_room (by rw [wsum_tv]; exact hr)
  rcases m1 with m1 | ⟨host, m1⟩
  · refine xw_call (Q1 := Q1) (A1 := AX Ω X H.size) (rest := rest.map (tv X.2.2.1)) (va_runV (bytes := bytes) (maxL := mL) (ret := rt) (n := n) (C := y.cls) (As := as.map (tv X.2.2.1)) (rest := rest.map (tv X.2.2.1)) ⟨hx, hb, hml, hown, hts⟩ hMX ?_ ⟨xw_blind, hrecv, fun U hU hW => xw_pre (as := .ref c0 :: as) hA hK hE hP hD hS hU hW⟩ rfl ((List.length_map _).trans hn) hl.1 hstk hroom hd ⟨Nat.zero_le _, Nat.zero_le _⟩) hS (xw_A hA hS) hfin
    refine cwV n hts ?_ rfl rfl rfl ⟨rfl, m4.1, m4.2, m5⟩ hR
    intro w hw
    rcases List.mem_append.mp hw with hw | hw
    · simp only [List.mem_cons, List.not_mem_nil, or_false] at hw
      rcases hw with rfl | rfl | rfl | rfl
      · exact TB_one m1
      · exact TB_one m7
      · exact TB_one m8
      · exact TB_one m3
    · exact TB_in m2 w hw
  · refine xw_call (Q1 := Q1) (A1 := AX Ω X H.size) (rest := rest.map (tv X.2.2.1)) (va_runVN (bytes := bytes) (maxL := mL) (ret := rt) (n := n) (C := y.cls) (host := host) (As := as.map (tv X.2.2.1)) (rest := rest.map (tv X.2.2.1)) ⟨hx, hb, hml, hown, hts⟩ hMX ⟨va_cnB (maxL := mL) (ret := rt) n hts (TB_in m2) rfl rfl rfl (hE.2.2.2.2 _ m1) (hts _ m3) ⟨m4.1, m4.2, m5⟩ hR, hts _ m7, hts _ m8⟩ ⟨xw_blind, hrecv, fun U hU hW => xw_pre (as := .ref c0 :: as) hA hK hE hP hD hS hU hW⟩ rfl ((List.length_map _).trans hn) hl.1 hstk hroom hd ⟨Nat.zero_le _, Nat.zero_le _⟩) hS (xw_A hA hS) hfin
theorem pw_callS {index n k' mL : Nat} {y : MethodName} {bytes : ByteArray} {rt : Option FieldType} {as rest st0 : List Value} {Q1 : Option Value → PM → Prop} (hd : decode cc pc = .ok (.invokestatic index, 3)) (hm : MS own index y bytes mL rt n) (hM : CT l Ω y bytes mL rt k' as μ Q1)
    (hn : as.length = n) (hst : as.reverse ++ rest = st0) (hr : wsum rest ≤ 8) (hk : k' + 1 ≤ k) (kk : ∀ r μ', Q1 r μ' → PW l Ω own cc maxL ret k Q (pc + 3) ls (r.toList ++ rest) μ') (hv : ∀ r μ', Q1 r μ' → ∀ ad, r.toList.map (tv ad) = r.toList) : PW l Ω own cc maxL ret k Q pc ls st0 μ := by
  intro X p e s m args below meth c A C H locs lz hP hD hS hl
  obtain ⟨hx, hb, -, hml, hown, hts, hlocks, hK, hE, hA⟩ := id C
  obtain ⟨⟨m1, m2, m3, m4, m5, m6⟩, m7⟩ := hm
  have hMX := hM X H.size
  have hstk : st0.map (tv X.2.2.1) = (as.map (tv X.2.2.1)).reverse ++ rest.map (tv X.2.2.1) := by
    rw [← hst, List.map_append, List.map_reverse]
  have hfin : ∀ (r : Option Value) (μ' : PM) (H1 : Heap) (locs1 : List Loc), Q1 r μ' → va_P X.1 vwCl (wsO Ω X.2.1 X.2.2.1 μ') H1 → va_D (AX Ω X H.size) (wsO Ω X.2.1 X.2.2.1 μ') → va_S A s.heap H1 locs1 → W p l e (rmk k) s m args below meth c H1 locs1 0 0 (MQ below (QX Ω X Q A) args s 0 0 A) (F0 m (pc + 3) lz (r.toList ++ rest.map (tv X.2.2.1))) := by
    intro r μ' H1 locs1 hq hP1 hD1 hS1
    have h := kk r μ' hq X p e s m args below meth c A C H1 locs1 lz hP1 (hD1.weaken (fun k q _ h => xw_A hA hS q.1 h)) hS1 hl
    rw [List.map_append, hv r μ' hq] at h
    exact h
  have hR : (rmk k').frames + 1 ≤ (rmk k).frames ∧ 8 + (mL + 11) + (rmk k').locals ≤ (rmk k).locals := ⟨hk, by show 8 + (mL + 11) + 64 * k' ≤ 64 * k; omega⟩
  have hroom : 2 * (F0 m pc lz (st0.map (tv X.2.2.1))).monitorRoom + ((rest.map (tv X.2.2.1)).map fun v => v.category).sum ≤ 8 := lv_room (by rw [wsum_tv]; exact hr)
  rcases m1 with m1 | ⟨host, m1⟩
  · refine xw_call (Q1 := Q1) (A1 := AX Ω X H.size) (rest := rest.map (tv X.2.2.1)) (va_runS (bytes := bytes) (maxL := mL) (ret := rt) (n := n) (As := as.map (tv X.2.2.1)) (rest := rest.map (tv X.2.2.1)) ⟨hx, hb, hml, hown, hts⟩ hMX ?_ ⟨xw_blind, fun U hU hW => xw_pre (as := as) hA hK hE hP hD hS hU hW⟩ rfl ((List.length_map _).trans hn) hl.1 hstk hroom hd ⟨Nat.zero_le _, Nat.zero_le _⟩) hS (xw_A hA hS) hfin
    refine va_cwS n hts ?_ rfl rfl rfl ⟨m4.1, m4.2, m5⟩ hR
    intro w hw
    rcases List.mem_append.mp hw with hw | hw
    · simp only [List.mem_cons, List.not_mem_nil, or_false] at hw
      rcases hw with rfl | rfl | rfl
      · exact TB_one m1
      · exact TB_one m7
      · exact TB_one m3
    · exact TB_in m2 w hw
  · exact xw_call (Q1 := Q1) (A1 := AX Ω X H.size) (rest := rest.map (tv X.2.2.1)) (va_runSN (bytes := bytes) (maxL := mL) (ret := rt) (n := n) (host := host) (As := as.map (tv X.2.2.1)) (rest := rest.map (tv X.2.2.1)) ⟨hx, hb, hml, hown, hts⟩ hMX ⟨va_cnB (maxL := mL) (ret := rt) n hts (TB_in m2) rfl rfl rfl (hE.2.2.2.2 _ m1) (hts _ m3) ⟨m4.1, m4.2, m5⟩ hR, hts _ m7, trivial⟩ ⟨xw_blind, fun U hU hW => xw_pre (as := as) hA hK hE hP hD hS hU hW⟩ rfl ((List.length_map _).trans hn) hl.1 hstk hroom hd ⟨Nat.zero_le _, Nat.zero_le _⟩) hS (xw_A hA hS) hfin
-- the four kinds of answer
theorem hv_I {R : Int32 → PM → Prop} : ∀ r μ', QI R r μ' → ∀ ad, r.toList.map (tv ad) = r.toList := by
  rintro r μ' ⟨x, rfl, -⟩ ad
  rfl
theorem hv_L {R : Int64 → PM → Prop} : ∀ r μ', QL R r μ' → ∀ ad, r.toList.map (tv ad) = r.toList := by
  rintro r μ' ⟨x, rfl, -⟩ ad
  rfl
theorem hv_V {R : PM → Prop} : ∀ r μ', QV R r μ' → ∀ ad, r.toList.map (tv ad) = r.toList := by
  rintro r μ' ⟨rfl, -⟩ ad
  rfl
theorem pw_cVi {index n k' mL c0 : Nat} {y : MethodName} {bytes : ByteArray} {rt : Option FieldType} {as rest st0 : List Value} {R : Int32 → PM → Prop} (hd : decode cc pc = .ok (.invokevirtual index, 3)) (hm : MV own index y bytes mL rt n) (hc : CK Ω c0 y.cls) (hM : CT l Ω y bytes mL rt k' (.ref c0 :: as) μ (QI R))
    (hn : as.length = n) (hst : as.reverse ++ .ref c0 :: rest = st0) (hr : wsum rest ≤ 8) (hk : k' + 1 ≤ k) (kk : ∀ x μ', R x μ' → PW l Ω own cc maxL ret k Q (pc + 3) ls (.int x :: rest) μ') : PW l Ω own cc maxL ret k Q pc ls st0 μ :=
  pw_callV hd hm hM hc hn hst hr hk (by rintro r μ' ⟨x, rfl, h⟩; exact kk x μ' h) hv_I
theorem pw_cVl {index n k' mL c0 : Nat} {y : MethodName} {bytes : ByteArray} {rt : Option FieldType} {as rest st0 : List Value} {R : Int64 → PM → Prop} (hd : decode cc pc = .ok (.invokevirtual index, 3)) (hm : MV own index y bytes mL rt n) (hc : CK Ω c0 y.cls) (hM : CT l Ω y bytes mL rt k' (.ref c0 :: as) μ (QL R))
    (hn : as.length = n) (hst : as.reverse ++ .ref c0 :: rest = st0) (hr : wsum rest ≤ 8) (hk : k' + 1 ≤ k) (kk : ∀ x μ', R x μ' → PW l Ω own cc maxL ret k Q (pc + 3) ls (.long x :: rest) μ') : PW l Ω own cc maxL ret k Q pc ls st0 μ :=
  pw_callV hd hm hM hc hn hst hr hk (by rintro r μ' ⟨x, rfl, h⟩; exact kk x μ' h) hv_L
theorem pw_cVv {index n k' mL c0 : Nat} {y : MethodName} {bytes : ByteArray} {rt : Option FieldType} {as rest st0 : List Value} {R : PM → Prop} (hd : decode cc pc = .ok (.invokevirtual index, 3)) (hm : MV own index y bytes mL rt n) (hc : CK Ω c0 y.cls) (hM : CT l Ω y bytes mL rt k' (.ref c0 :: as) μ (QV R))
    (hn : as.length = n) (hst : as.reverse ++ .ref c0 :: rest = st0) (hr : wsum rest ≤ 8) (hk : k' + 1 ≤ k) (kk : ∀ μ', R μ' → PW l Ω own cc maxL ret k Q (pc + 3) ls rest μ') : PW l Ω own cc maxL ret k Q pc ls st0 μ :=
  pw_callV hd hm hM hc hn hst hr hk (by rintro r μ' ⟨rfl, h⟩; exact kk μ' h) hv_V
theorem pw_cSi {index n k' mL : Nat} {y : MethodName} {bytes : ByteArray} {rt : Option FieldType} {as rest st0 : List Value} {R : Int32 → PM → Prop} (hd : decode cc pc = .ok (.invokestatic index, 3)) (hm : MS own index y bytes mL rt n) (hM : CT l Ω y bytes mL rt k' as μ (QI R))
    (hn : as.length = n) (hst : as.reverse ++ rest = st0) (hr : wsum rest ≤ 8) (hk : k' + 1 ≤ k) (kk : ∀ x μ', R x μ' → PW l Ω own cc maxL ret k Q (pc + 3) ls (.int x :: rest) μ') : PW l Ω own cc maxL ret k Q pc ls st0 μ :=
  pw_callS hd hm hM hn hst hr hk (by rintro r μ' ⟨x, rfl, h⟩; exact kk x μ' h) hv_I
theorem pw_cSl {index n k' mL : Nat} {y : MethodName} {bytes : ByteArray} {rt : Option FieldType} {as rest st0 : List Value} {R : Int64 → PM → Prop} (hd : decode cc pc = .ok (.invokestatic index, 3)) (hm : MS own index y bytes mL rt n) (hM : CT l Ω y bytes mL rt k' as μ (QL R))
    (hn : as.length = n) (hst : as.reverse ++ rest = st0) (hr : wsum rest ≤ 8) (hk : k' + 1 ≤ k) (kk : ∀ x μ', R x μ' → PW l Ω own cc maxL ret k Q (pc + 3) ls (.long x :: rest) μ') : PW l Ω own cc maxL ret k Q pc ls st0 μ :=
  pw_callS hd hm hM hn hst hr hk (by rintro r μ' ⟨x, rfl, h⟩; exact kk x μ' h) hv_L
theorem pw_cSv {index n k' mL : Nat} {y : MethodName} {bytes : ByteArray} {rt : Option FieldType} {as rest st0 : List Value} {R : PM → Prop} (hd : decode cc pc = .ok (.invokestatic index, 3)) (hm : MS own index y bytes mL rt n) (hM : CT l Ω y bytes mL rt k' as μ (QV R))
    (hn : as.length = n) (hst : as.reverse ++ rest = st0) (hr : wsum rest ≤ 8) (hk : k' + 1 ≤ k) (kk : ∀ μ', R μ' → PW l Ω own cc maxL ret k Q (pc + 3) ls rest μ') : PW l Ω own cc maxL ret k Q pc ls st0 μ :=
  pw_callS hd hm hM hn hst hr hk (by rintro r μ' ⟨rfl, h⟩; exact kk μ' h) hv_V
end CALL
