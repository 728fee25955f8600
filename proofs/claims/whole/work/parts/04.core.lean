def rmk (k : Nat) : Room := { frames := k, cells := 0, slots := 0, locals := 64 * k }
def Ctx (Ω : SH) (own : String) (cc : ByteArray) (maxL : Nat) (ret : Option FieldType) (X : CX) (p : Program) (s : State) (m : MethodId) (args : Array Value) (meth : Method) (c : Code) (A : Nat → Prop) : Prop :=
  p.tables.exec = Jvm.exec ∧ c.code = cc ∧ meth.sig.returnType = ret ∧ c.maxLocals = maxL ∧ s.vm.findClass own = some m.cls ∧ (∀ w ∈ TB, w.before args s = true) ∧ meth.locks = false ∧ va_K X.1 vwCl [(X.2.1, .int)] s ∧ EX X A s s.heap ∧ A = AX Ω X s.heap.size
/-- a method's end: its answer, and the numbers behind it -/
def QX (Ω : SH) (X : CX) (Q : Option Value → PM → Prop) (A : Nat → Prop) : Array Value → State → Outcome → State → Prop := fun _ st oc t =>
  (∃ (r : Option Value) (μ : PM), oc = .returned r ∧ Q r μ ∧ va_P X.1 vwCl (wsO Ω X.2.1 X.2.2.1 μ) t.heap ∧ va_D A (wsO Ω X.2.1 X.2.2.1 μ)) ∧ va_F A st t
/-- A METHOD'S FRAME: from here, with these numbers, it comes to its end with Q -/
def PW (l : Launch) (Ω : SH) (own : String) (cc : ByteArray) (maxL : Nat) (ret : Option FieldType) (k : Nat) (Q : Option Value → PM → Prop) (pc : Nat) (ls : PL) (st : List Value) (μ : PM) : Prop :=
  ∀ (X : CX) (p : Program) (e : Env) (s : State) (m : MethodId) (args : Array Value) (below : List Frame) (meth : Method) (c : Code) (A : Nat → Prop), Ctx Ω own cc maxL ret X p s m args meth c A →
  ∀ (H : Heap) (locs : List Loc) (lz : Array Slot), va_P X.1 vwCl (wsO Ω X.2.1 X.2.2.1 μ) H → va_D A (wsO Ω X.2.1 X.2.2.1 μ) → va_S A s.heap H locs → lv_has lz maxL (tvl X.2.2.1 ls) →
  W p l e (rmk k) s m args below meth c H locs 0 0 (MQ below (QX Ω X Q A) args s 0 0 A) (F0 m pc lz (st.map (tv X.2.2.1)))
/-- A METHOD'S CONTRACT: called with these values over these numbers, it comes back with Q -/
def CT (l : Launch) (Ω : SH) (y : MethodName) (cc : ByteArray) (maxL : Nat) (ret : Option FieldType) (k : Nat) (as : List Value) (μ : PM) (Q : Option Value → PM → Prop) : Prop :=
  ∀ (X : CX) (sz : Nat), Met l y (.code y cc maxL ret :: TB) (rmk k) (va_Pc (as.map (tv X.2.2.1)) (fun U => U.heap.size = sz ∧ va_P X.1 vwCl (wsO Ω X.2.1 X.2.2.1 μ) U.heap ∧ va_K X.1 vwCl [(X.2.1, .int)] U ∧ va_D (fun _ => True) (wsO Ω X.2.1 X.2.2.1 μ) ∧ EX X (AX Ω X sz) U U.heap)) (QX Ω X Q (AX Ω X sz)) 0 0 (AX Ω X sz)
def QI (R : Int32 → PM → Prop) : Option Value → PM → Prop := fun r μ => ∃ x, r = some (.int x) ∧ R x μ
def QL (R : Int64 → PM → Prop) : Option Value → PM → Prop := fun r μ => ∃ x, r = some (.long x) ∧ R x μ
def QV (R : PM → Prop) : Option Value → PM → Prop := fun r μ => r = none ∧ R μ
theorem QX.mono {Ω : SH} {X : CX} {Q Q' : Option Value → PM → Prop} {A : Nat → Prop} (h : ∀ r μ, Q r μ → Q' r μ) {a : Array Value} {st t : State} {oc : Outcome} (q : QX Ω X Q A a st oc t) : QX Ω X Q' A a st oc t := by
  obtain ⟨⟨r, μ, h1, h2, h3, h4⟩, h5⟩ := q
  exact ⟨⟨r, μ, h1, h r μ h2, h3, h4⟩, h5⟩
theorem MQ.mono {Ω : SH} {X : CX} {Q Q' : Option Value → PM → Prop} {A : Nat → Prop} (h : ∀ r μ, Q r μ → Q' r μ) {below : List Frame} {a : Array Value} {s t : State} (q : MQ below (QX Ω X Q A) a s 0 0 A t) : MQ below (QX Ω X Q' A) a s 0 0 A t := by
  obtain ⟨o, h1, h2, h3, h4⟩ := q
  exact ⟨o, h1, h2, QX.mono h h3, h4⟩
theorem wsO_D {Ω : SH} {cA : ClassId} {ad : Nat → Nat} {μ : PM} {A B : Nat → Prop} (h : va_D A (wsO Ω cA ad μ)) (hB : ∀ c, c < Ω.1 → B (ad c)) : va_D B (wsO Ω cA ad μ) :=
  h.weaken (fun k q hk _ => by obtain ⟨h1, h2⟩ := wsO_inv hk; rw [h2]; exact hB k h1)
theorem wsO_Dμ {Ω : SH} {cA : ClassId} {ad : Nat → Nat} {μ μ' : PM} {A : Nat → Prop} (h : va_D A (wsO Ω cA ad μ)) : va_D A (wsO Ω cA ad μ') := by
  refine ⟨fun i j p q hi hj e => ?_, fun k q hk => ?_⟩
  · obtain ⟨h1, rfl⟩ := wsO_inv hi
    obtain ⟨h2, rfl⟩ := wsO_inv hj
    exact h.1 i j _ _ (wsO_at h1) (wsO_at h2) e
  · obtain ⟨h1, rfl⟩ := wsO_inv hk
    exact h.2 k (ad k, cEnt Ω cA ad μ k) (wsO_at h1)
theorem tv_cat (ad : Nat → Nat) (v : Value) : (tv ad v).category = v.category := by cases v <;> rfl
theorem tvl_args (ad : Nat → Nat) : ∀ (as : List Value) (n : Nat), lv_args n (as.map (tv ad)) = tvl ad (lv_args n as)
  | [], _ => rfl
  | v :: as, n => by
    show lv_args n (tv ad v :: as.map (tv ad)) = _
    unfold lv_args
    simp only [tv_cat, tvl_args ad as]
    rfl
theorem tvl_slots (ad : Nat → Nat) (as : List Value) : (lg_sl (as.map (tv ad))).length = (lg_sl as).length := by
  induction as with
  | nil => rfl
  | cons v as ih =>
    cases v <;> simp_all [lg_sl, tv, Value.category]
/-- entry -/
theorem CT.of {l : Launch} {Ω : SH} {y : MethodName} {cc : ByteArray} {maxL : Nat} {ret : Option FieldType} {k : Nat} {as : List Value} {μ : PM} {Q : Option Value → PM → Prop}
    (hy : plainName y.cls = true) (hn : (lg_sl as).length ≤ maxL)
    (h : PW l Ω y.cls cc maxL ret k Q 0 (lv_args 0 as) [] μ) : CT l Ω y cc maxL ret k as μ Q := by
  intro X sz
  refine Met.ofW (cc := cc) (maxL := maxL) (ret := ret) hy rfl ?_
  intro p e s m args below meth c s₁ B hml hv
  obtain ⟨rfl, hsz, hP, hK, hD0, hE⟩ := hv
  have hts := atoms_spec (ws := .code y cc maxL ret :: TB) B.pre
  subst hsz
  have hD : va_D (AX Ω X s.heap.size) (wsO Ω X.2.1 X.2.2.1 μ) := wsO_D hD0 (fun c hc => Or.inl ⟨c, hc, rfl⟩)
  have hl := lv_entry (as.map (tv X.2.2.1)) (n := maxL) (by rw [tvl_slots]; exact hn)
  rw [lg_entry_eq]
  exact h X p e s m _ below meth c (AX Ω X s.heap.size) ⟨B.exec, B.bytes, B.returns, hml, findClass_of_methodNamed B.named, fun w hw => hts w (List.mem_cons_of_mem _ hw), B.notSynchronized, hK, hE, rfl⟩ s.heap [] _ hP hD va_S.rf (by rw [tvl_args] at hl; exact hl)
theorem CT.mono {l : Launch} {Ω : SH} {y : MethodName} {cc : ByteArray} {maxL : Nat} {ret : Option FieldType} {k : Nat} {as : List Value} {μ : PM} {Q Q' : Option Value → PM → Prop} (h : CT l Ω y cc maxL ret k as μ Q) (hq : ∀ r μ, Q r μ → Q' r μ) : CT l Ω y cc maxL ret k as μ Q' := by
  intro X sz
  have h1 := h X sz
  intro p e ha hc hk s m args below hf happ hP hKK
  obtain ⟨n, o, a1, a2, a3, a4⟩ := h1 p e ha hc hk s m args below hf happ hP hKK
  exact ⟨n, o, a1, a2, a3, QX.mono hq a4.1, a4.2⟩
