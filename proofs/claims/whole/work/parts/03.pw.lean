/-! THE WORLD OF A RUN AS NUMBERS: cells by small numbers, each of a shape that never changes; ints, longs; contracts and rows over it -/
def TB : List Cond := lw_tbl.filter goodWord
def isNest : Cond → Bool
  | .methodLinkNest _ _ _ _ => true
  | .fieldLinkNest _ _ _ _ _ _ => true
  | _ => false
def NB : List Cond := lw_tbl.filter isNest
theorem TB_good : ∀ w ∈ TB, goodWord w = true := fun _ h => (List.mem_filter.mp h).2
abbrev PL : Type := List (Nat × Value)
abbrev PM : Type := (Nat → Nat → Int32) × (Nat → Int64)
abbrev SH : Type := Nat × (Nat → Nat ⊕ (Nat × List Nat))
abbrev CX : Type := va_G × ClassId × (Nat → Nat) × (Nat → Nat)
def tv (ad : Nat → Nat) : Value → Value
  | .ref c => .ref (ad c)
  | v => v
def tvl (ad : Nat → Nat) (l : PL) : PL := l.map (fun q => (q.1, tv ad q.2))
/-- a field's value by its kind: 0 an int, 1 a long, c + 2 the cell c -/
def fvl (ad : Nat → Nat) (μ : PM) (c j : Nat) : Nat → Value
  | 0 => .int (μ.1 c j)
  | 1 => .long (μ.2 c)
  | k + 2 => .ref (ad k)
def fvs (ad : Nat → Nat) (μ : PM) (c : Nat) : Nat → List Nat → List Value
  | _, [] => []
  | j, k :: ks => fvl ad μ c j k :: fvs ad μ c (j + 1) ks
def cEnt (Ω : SH) (cA : ClassId) (ad : Nat → Nat) (μ : PM) (c : Nat) : va_E := match Ω.2 c with
  | .inl n => .inl (cA, n, .inl (μ.1 c))
  | .inr o => .inr (o.1, fvs ad μ c 0 o.2)
def wsO (Ω : SH) (cA : ClassId) (ad : Nat → Nat) (μ : PM) : va_W := (List.range Ω.1).map (fun c => (ad c, cEnt Ω cA ad μ c))
def AX (Ω : SH) (X : CX) (sz : Nat) : Nat → Prop := fun q => (∃ c, c < Ω.1 ∧ q = X.2.2.1 c) ∨ sz ≤ q
-- stores
def si (μ : PM) (c j : Nat) (v : Int32) : PM := (fun c' => if c' = c then upd (μ.1 c) j v else μ.1 c', μ.2)
def sl (μ : PM) (c : Nat) (v : Int64) : PM := (μ.1, fun c' => if c' = c then v else μ.2 c')
def sr (μ : PM) (c : Nat) (f : Nat → Int32) : PM := (fun c' => if c' = c then f else μ.1 c', μ.2)
theorem wsO_at {Ω : SH} {cA : ClassId} {ad : Nat → Nat} {μ : PM} {c : Nat} (h : c < Ω.1) : (wsO Ω cA ad μ)[c]? = some (ad c, cEnt Ω cA ad μ c) := by
  unfold wsO
  rw [List.getElem?_map, List.getElem?_range h]
  rfl
theorem wsO_inv {Ω : SH} {cA : ClassId} {ad : Nat → Nat} {μ : PM} {k : Nat} {q : Nat × va_E} (h : (wsO Ω cA ad μ)[k]? = some q) : k < Ω.1 ∧ q = (ad k, cEnt Ω cA ad μ k) := by
  have hl := (List.getElem?_eq_some_iff.mp h).1
  have hk : k < Ω.1 := by simpa [wsO] using hl
  rw [wsO_at hk] at h
  exact ⟨hk, (Option.some.inj h).symm⟩
theorem wsO_set {Ω : SH} {cA : ClassId} {ad : Nat → Nat} {μ μ' : PM} {c : Nat} (h : ∀ c', c' ≠ c → cEnt Ω cA ad μ' c' = cEnt Ω cA ad μ c') : (wsO Ω cA ad μ).set c (ad c, cEnt Ω cA ad μ' c) = wsO Ω cA ad μ' := by
  apply List.ext_getElem?
  intro k
  by_cases hk : k < Ω.1
  · by_cases e : k = c
    · subst e
      rw [List.getElem?_set_self (by simpa [wsO] using hk), wsO_at hk]
    · rw [List.getElem?_set_ne (Ne.symm e), wsO_at hk, wsO_at hk, h k e]
  · have l1 : (wsO Ω cA ad μ).length ≤ k := by simpa [wsO] using hk
    have l2 : (wsO Ω cA ad μ').length ≤ k := by simpa [wsO] using hk
    rw [List.getElem?_eq_none (by rw [List.length_set]; exact l1), List.getElem?_eq_none l2]
theorem fvs_at {ad : Nat → Nat} {μ : PM} {c : Nat} : ∀ (ks : List Nat) (j0 j k : Nat), ks[j]? = some k → (fvs ad μ c j0 ks)[j]? = some (fvl ad μ c (j0 + j) k)
  | [], _, _, _, h => by simp at h
  | x :: ks, j0, 0, k, h => by
    rw [List.getElem?_cons_zero] at h
    cases h
    rfl
  | x :: ks, j0, j + 1, k, h => by
    rw [List.getElem?_cons_succ] at h
    show (fvs ad μ c (j0 + 1) ks)[j]? = _
    rw [fvs_at ks (j0 + 1) j k h]
    congr 2
    omega
theorem fvs_len {ad : Nat → Nat} {μ : PM} {c : Nat} : ∀ (ks : List Nat) (j0 : Nat), (fvs ad μ c j0 ks).length = ks.length
  | [], _ => rfl
  | _ :: ks, j0 => by
    show (fvs ad μ c (j0 + 1) ks).length + 1 = _
    rw [fvs_len ks (j0 + 1)]
    rfl
theorem fvs_ext {ad : Nat → Nat} {c : Nat} {μ μ' : PM} : ∀ (ks : List Nat) (j0 : Nat), (∀ j k, ks[j]? = some k → fvl ad μ' c (j0 + j) k = fvl ad μ c (j0 + j) k) → fvs ad μ' c j0 ks = fvs ad μ c j0 ks
  | [], _, _ => rfl
  | x :: ks, j0, h => by
    have e1 : fvl ad μ' c j0 x = fvl ad μ c j0 x := h 0 x rfl
    have e2 : fvs ad μ' c (j0 + 1) ks = fvs ad μ c (j0 + 1) ks := by
      refine fvs_ext ks (j0 + 1) (fun j k hk => ?_)
      have h3 := h (j + 1) k (by rw [List.getElem?_cons_succ]; exact hk)
      have e3 : j0 + 1 + j = j0 + (j + 1) := by omega
      rw [e3]
      exact h3
    show fvl ad μ' c j0 x :: fvs ad μ' c (j0 + 1) ks = fvl ad μ c j0 x :: fvs ad μ c (j0 + 1) ks
    rw [e1, e2]
theorem fvs_set {ad : Nat → Nat} {c j : Nat} {μ μ' : PM} (ks : List Nat) {v : Value} (hv : ∀ k, ks[j]? = some k → fvl ad μ' c j k = v) (ho : ∀ j' k, j' ≠ j → ks[j']? = some k → fvl ad μ' c j' k = fvl ad μ c j' k) : (fvs ad μ c 0 ks).set j v = fvs ad μ' c 0 ks := by
  apply List.ext_getElem?
  intro i
  by_cases hi : i < ks.length
  · obtain ⟨k, hk⟩ : ∃ k, ks[i]? = some k := ⟨_, List.getElem?_eq_getElem hi⟩
    rw [fvs_at ks 0 i k hk, Nat.zero_add]
    by_cases e : i = j
    · subst e
      rw [List.getElem?_set_self (by rw [fvs_len]; exact hi), hv k hk]
    · rw [List.getElem?_set_ne (Ne.symm e), fvs_at ks 0 i k hk, Nat.zero_add, ho i k e hk]
  · rw [List.getElem?_eq_none (by rw [List.length_set, fvs_len]; omega), List.getElem?_eq_none (by rw [fvs_len]; omega)]
theorem cEnt_o {Ω : SH} {cA : ClassId} {ad : Nat → Nat} {μ : PM} {c ci : Nat} {ks : List Nat} (h : Ω.2 c = .inr (ci, ks)) : cEnt Ω cA ad μ c = .inr (ci, fvs ad μ c 0 ks) := by
  unfold cEnt
  rw [h]
theorem cEnt_a {Ω : SH} {cA : ClassId} {ad : Nat → Nat} {μ : PM} {c n : Nat} (h : Ω.2 c = .inl n) : cEnt Ω cA ad μ c = .inl (cA, n, .inl (μ.1 c)) := by
  unfold cEnt
  rw [h]
theorem cEnt_ext {Ω : SH} {cA : ClassId} {ad : Nat → Nat} {μ μ' : PM} {c : Nat} (h1 : μ'.1 c = μ.1 c) (h2 : μ'.2 c = μ.2 c) : cEnt Ω cA ad μ' c = cEnt Ω cA ad μ c := by
  unfold cEnt
  cases hh : Ω.2 c with
  | inl n => simp only [h1]
  | inr o =>
    simp only
    congr 2
    refine fvs_ext _ _ (fun j k _ => ?_)
    match k with
    | 0 => show Value.int _ = Value.int _; rw [h1]
    | 1 => show Value.long _ = Value.long _; rw [h2]
    | k + 2 => rfl
theorem si_same (μ : PM) (c j : Nat) (v : Int32) : (si μ c j v).1 c = upd (μ.1 c) j v := if_pos rfl
theorem si_other (μ : PM) (c j : Nat) (v : Int32) {c' : Nat} (h : c' ≠ c) : (si μ c j v).1 c' = μ.1 c' := if_neg h
theorem si_long (μ : PM) (c j : Nat) (v : Int32) : (si μ c j v).2 = μ.2 := rfl
theorem sr_same (μ : PM) (c : Nat) (f : Nat → Int32) : (sr μ c f).1 c = f := if_pos rfl
theorem sr_other (μ : PM) (c : Nat) (f : Nat → Int32) {c' : Nat} (h : c' ≠ c) : (sr μ c f).1 c' = μ.1 c' := if_neg h
theorem sr_long (μ : PM) (c : Nat) (f : Nat → Int32) : (sr μ c f).2 = μ.2 := rfl
theorem sl_int (μ : PM) (c : Nat) (v : Int64) : (sl μ c v).1 = μ.1 := rfl
theorem sl_same (μ : PM) (c : Nat) (v : Int64) : (sl μ c v).2 c = v := if_pos rfl
theorem sl_other (μ : PM) (c : Nat) (v : Int64) {c' : Nat} (h : c' ≠ c) : (sl μ c v).2 c' = μ.2 c' := if_neg h
-- what doesn't change: string constants, statics, nest words
def sown : Nat → String | 0 => "LaughterIsMinted" | _ => "LaughterIsMinted$Reader"
def sidx : Nat → Nat | 0 => 65 | 1 => 81 | _ => 88
def stx : Nat → String | 0 => "yields 20 + humour * 3 ; fades 10 ; minds 5 ;" | 1 => "();+-*<=" | _ => "yields fades minds or and not told humour more day purse hearer "
def slen : List Nat := [45, 8, 64]
def sbyt : List (List Int32) := [[121, 105, 101, 108, 100, 115, 32, 50, 48, 32, 43, 32, 104, 117, 109, 111, 117, 114, 32, 42, 32, 51, 32, 59, 32, 102, 97, 100, 101, 115, 32, 49, 48, 32, 59, 32, 109, 105, 110, 100, 115, 32, 53, 32, 59], [40, 41, 59, 43, 45, 42, 60, 61], [121, 105, 101, 108, 100, 115, 32, 102, 97, 100, 101, 115, 32, 109, 105, 110, 100, 115, 32, 111, 114, 32, 97, 110, 100, 32, 110, 111, 116, 32, 116, 111, 108, 100, 32, 104, 117, 109, 111, 117, 114, 32, 109, 111, 114, 101, 32, 100, 97, 121, 32, 112, 117, 114, 115, 101, 32, 104, 101, 97, 114, 101, 114, 32]]
def SI (X : CX) (A : Nat → Prop) (U : State) (H : Heap) : Prop := va_Z "jdk/internal/util/Preconditions" "SIOOBE_FORMATTER" "Ljava/util/function/BiFunction;" .null A U H ∨ va_Z "jdk/internal/util/Preconditions" "SIOOBE_FORMATTER" "Ljava/util/function/BiFunction;" (.ref (X.2.2.1 2000)) A U H
theorem SI.kept {X : CX} {A : Nat → Prop} {U : State} {H H1 : Heap} (h : SI X A U H) (hq : ∀ a : Nat, a < H.size → ¬ A a → H1[a]? = H[a]?) : SI X A U H1 := by
  rcases h with h | h
  · exact Or.inl (h.kept hq)
  · exact Or.inr (h.kept hq)
theorem SI.narrow {X : CX} {A B : Nat → Prop} {U : State} {H : Heap} (h : SI X A U H) (hAB : ∀ q, B q → A q) : SI X B U H := by
  rcases h with h | h
  · exact Or.inl (h.narrow hAB)
  · exact Or.inr (h.narrow hAB)
theorem SI.moved {X : CX} {A : Nat → Prop} {u U : State} {H : Heap} (hvm : u.vm.Alike U.vm) (h : SI X A u H) : SI X A U H := by
  rcases h with h | h
  · exact Or.inl (va_Z.moved hvm h)
  · exact Or.inr (va_Z.moved hvm h)
def EX (X : CX) (A : Nat → Prop) (U : State) (H : Heap) : Prop :=
  vk_S 3 slen sbyt (fun i => X.2.2.1 (1000 + i)) (fun i => X.2.2.1 (1100 + i)) A U H ∧ (∀ i, i < 3 → vk_R (sown i) (sidx i) (stx i) (X.2.2.1 (1000 + i)) U) ∧ va_Z "java/lang/String" "COMPACT_STRINGS" "Z" (.int 1) A U H ∧
  SI X A U H ∧ ∀ w ∈ NB, va_Nw w U
theorem NB_warm {s U : State} (hW : s.WarmedH U.vm) (h : ∀ w ∈ NB, va_Nw w s) : ∀ w ∈ NB, va_Nw w U := by
  intro w hw
  have h1 := h w hw
  have h2 := (List.mem_filter.mp hw).2
  cases w with
  | methodLinkNest a b c d => exact va_Nw.warmM hW h1
  | fieldLinkNest a b c d e f => exact va_Nw.warmF hW h1
  | _ => exact absurd h2 (by simp [isNest])
theorem EX.warm {X : CX} {A : Nat → Prop} {s U : State} {H : Heap} (hW : s.WarmedH U.vm) (h : EX X A s H) : EX X A U H :=
  ⟨vk_S.moved hW.alike h.1, fun i hi => vk_R.warm hW (h.2.1 i hi), va_Z.moved hW.alike h.2.2.1, SI.moved hW.alike h.2.2.2.1, NB_warm hW h.2.2.2.2⟩
theorem EX.same {X : CX} {A : Nat → Prop} {s U : State} {H : Heap} (hv : U.vm = s.vm) (h : EX X A s H) : EX X A U H := by
  have ha : s.vm.Alike U.vm := by rw [hv]; exact Vm.Alike.refl s.vm
  refine ⟨vk_S.moved ha h.1, fun i hi => vk_R.same hv (h.2.1 i hi), va_Z.moved ha h.2.2.1, SI.moved ha h.2.2.2.1, fun w hw => ?_⟩
  have h2 := (List.mem_filter.mp hw).2
  have ht : w.onTables = true := by
    cases w with
    | methodLinkNest a b c d => rfl
    | fieldLinkNest a b c d e f => rfl
    | _ => exact absurd h2 (by simp [isNest])
  exact va_Nw.same ht hv.symm (h.2.2.2.2 w hw)
theorem EX.kept {X : CX} {A : Nat → Prop} {s : State} {H H1 : Heap} (h : EX X A s H) (hq : ∀ a : Nat, a < H.size → ¬ A a → H1[a]? = H[a]?) : EX X A s H1 :=
  ⟨h.1.kept hq, h.2.1, h.2.2.1.kept hq, h.2.2.2.1.kept hq, h.2.2.2.2⟩
theorem EX.narrow {X : CX} {A B : Nat → Prop} {s : State} {H : Heap} (h : EX X A s H) (hAB : ∀ q, B q → A q) : EX X B s H :=
  ⟨h.1.narrow hAB, h.2.1, h.2.2.1.narrow hAB, h.2.2.2.1.narrow hAB, h.2.2.2.2⟩
