/-! THE CLAIM OUT OF ONE WALK OF THE LAW'S BODY. Your part is whole_start (and what it stands on); all else here is the same for every law, but numbers. -/
def R_law : String := "LaughterIsMintedLaw"
def lw_P (b : Addr) (xs : List Int32) (args : Array Value) (s : State) : Prop := args = #[.ref b] ∧ s.IntsAt b xs ∧ xs.length ≤ 3584 ∧ (Jvm.Cond.and given_1 narrow_1).before args s = true
def lw_Q (_ : Array Value) (s : State) (o : Outcome) (t : State) : Prop := o = .returned (some (.int 1)) ∧ Framed s o t [] 600000 7302250
def lw_Z (below : List Frame) (a : Array Value) (s : State) : State → Prop := fun t => ∃ o, t.status = .running ∧ Ended t below o ∧ lw_Q a s o t
/-- the law's own end, with 1 on the stack, nothing written that was there before, its room as the claim has it -/
theorem lw_ret {p : Program} {l : Launch} {e : Env} {s : State} {m : MethodId} {below : List Frame} {meth : Method} {c : Code} {b : Nat} (hx : p.tables.exec = Jvm.exec) (hb : c.code = code) (hr : meth.sig.returnType = ret) (hlocks : meth.locks = false) {pc : Nat} {H : Heap} {ls : Array Slot} (hdg : decode code pc = .ok (.ireturn, 1)) : W p l e room_1 s m #[Value.ref b] below meth c H [] 600000 7302250 (lw_Z below #[Value.ref b] s) (F0 m pc ls [.int 1]) := by
  intro T hT X
  obtain ⟨fs, hret, hrun, hended, hW, hframe⟩ := X.leave (v := some (.int 1)) (hlocks := hlocks) (fun h => by rw [hr] at h; cases h)
  have hmeth' : T.vm.method? m = some meth := X.method'
  refine ⟨T.setFrames fs, ?_, .returned (some (.int 1)), hrun, hended, rfl, ⟨_, rfl⟩, hW, hframe⟩
  jvm_step X.here [X.here.top, hx, hb, hdg, hmeth', hr, ret, narrow_b1]
  (try refine ⟨rfl, ?_⟩); (try refine ⟨rfl, ?_⟩)
  first | (intro acts; rw [hret _ acts rfl rfl rfl]) | rw [hret _ _ rfl rfl rfl]
  exact Steps.refl _
/-- what holds at the law's entry: the machine, the code, the tables' words (any of lw_tbl by 'hts w (by decide +kernel)'), the script of L ints xs at the cell b, what the Statement gives of the start (any of its parts by flat_of_before) -/
def lw_At (p : Program) (s : State) (m : MethodId) (meth : Method) (c : Code) (b L : Nat) (xs : Nat → Int32) : Prop :=
  p.tables.exec = Jvm.exec ∧ c.code = code ∧ meth.sig.returnType = ret ∧ c.maxLocals = 4 ∧ s.vm.findClass R_law = some m.cls ∧ (∀ w ∈ lw_tbl, w.before #[Value.ref b] s = true) ∧ va_X b L xs s s.heap ∧ b < s.heap.size ∧ meth.locks = false ∧ (Jvm.Cond.and given_1 narrow_1).before #[Value.ref b] s = true
/-! what holds at the law's start: classes, strings, statics -/
def gvn : Cond := Jvm.Cond.and given_1 narrow_1
theorem st_ex : ∀ i, i < 3 → Cond.exactly (.string (sown i) (sidx i)) "java/lang/String" ∈ flatC gvn := by decide +kernel
theorem st_co : ∀ i, i < 3 → Cond.eq (.field (.string (sown i) (sidx i)) "java/lang/String" "coder" "B") (.int 0) ∈ flatC gvn := by decide +kernel
theorem st_ar : ∀ i, i < 3 → Cond.arrayOf (.field (.string (sown i) (sidx i)) "java/lang/String" "value" "[B") .byte ∈ flatC gvn := by decide +kernel
theorem st_le : ∀ i, i < 3 → Cond.eq (.length (.field (.string (sown i) (sidx i)) "java/lang/String" "value" "[B")) (.int (Int32.ofNat (slen.getD i 0))) ∈ flatC gvn := by decide +kernel
theorem st_el : ∀ i, i < 3 → ∀ j, j < slen.getD i 0 → Cond.eq (.elem (.field (.string (sown i) (sidx i)) "java/lang/String" "value" "[B") (.int (Int32.ofNat j))) (.int ((sbyt.getD i []).getD j 0)) ∈ flatC gvn := by decide +kernel
theorem st_ne : ∀ i, i < 3 → ∀ j, j < 3 → i ≠ j → Cond.not (Cond.eq (.string (sown i) (sidx i)) (.string (sown j) (sidx j))) ∈ flatC gvn ∨ Cond.not (Cond.eq (.string (sown j) (sidx j)) (.string (sown i) (sidx i))) ∈ flatC gvn := by decide +kernel
theorem st_cs : Cond.eq (.static "java/lang/String" "COMPACT_STRINGS" "Z") (.int 1) ∈ flatC gvn := by decide +kernel
theorem st_si : Cond.isRef (.static "jdk/internal/util/Preconditions" "SIOOBE_FORMATTER" "Ljava/util/function/BiFunction;") ∈ flatC gvn := by decide +kernel
theorem st_len : ∀ i, i < 3 → slen.getD i 0 < 2 ^ 31 := by decide
theorem st_ref {w : Cond} (c : Nat) (h : (c = 1 ∧ ∃ j : Nat, tables_1_1[j]? = some w) ∨ (c = 2 ∧ ∃ j : Nat, tables_1_2[j]? = some w) ∨ (c = 4 ∧ ∃ j : Nat, tables_1_4[j]? = some w)) : w ∈ lw_tbl := by
  rcases h with ⟨_, j, h⟩ | ⟨_, j, h⟩ | ⟨_, j, h⟩
  · exact inC1 (List.mem_of_getElem? h)
  · exact inC2 (List.mem_of_getElem? h)
  · exact inC4 (List.mem_of_getElem? h)
theorem EX_start {args : Array Value} {s : State} (hts : ∀ w ∈ lw_tbl, w.before args s = true) (hg : gvn.before args s = true) (G : va_G) (cA : ClassId) : ∃ ad : Nat → Nat, EX (G, cA, ad, fun _ => 0) (fun q => s.heap.size ≤ q) s s.heap := by
  have hs := flat_of_before _ hg
  have hA : ∀ a : Nat, a < s.heap.size → ¬ (fun q => s.heap.size ≤ q) a := fun a h => Nat.not_le.mpr h
  obtain ⟨adK, adV, h1, h2⟩ := vk_Sof (args := args) (s := s) (N := 3) (tm := fun i => .string (sown i) (sidx i)) (len := slen) (byt := sbyt) (A := fun q => s.heap.size ≤ q) st_len (fun i hi => hs _ (st_ex i hi)) (fun i hi => hs _ (st_co i hi)) (fun i hi => hs _ (st_ar i hi)) (fun i hi => hs _ (st_le i hi)) (fun i hi j hj => hs _ (st_el i hi j hj)) (fun i j hi hj hij => (st_ne i hi j hj hij).elim (fun h => Or.inl (hs _ h)) (fun h => Or.inr (hs _ h))) hA
  have h3 : va_Z "java/lang/String" "COMPACT_STRINGS" "Z" (.int 1) (fun q => s.heap.size ≤ q) s s.heap := va_Zof (hts _ (st_ref 1 (Or.inl ⟨rfl, 231, rfl⟩))) (hts _ (st_ref 1 (Or.inl ⟨rfl, 8, rfl⟩))) (va_eqi (hs _ st_cs)) hA
  have h4 : va_Zq "jdk/internal/util/Preconditions" "SIOOBE_FORMATTER" "Ljava/util/function/BiFunction;" (fun q => s.heap.size ≤ q) s s.heap := va_Zqof (hts _ (st_ref 2 (Or.inr (Or.inl ⟨rfl, 7, rfl⟩)))) (hts _ (st_ref 1 (Or.inl ⟨rfl, 10, rfl⟩))) (hs _ st_si) hA
  have h5 : ∀ w ∈ NB, va_Nw w s := fun w hw => va_tabs (NB_on hw) rfl (hts w (List.mem_filter.mp hw).1)
  have h6 : ∀ i, i < 3 → (Cond.stringRef (sown i) (sidx i) (stx i)).before args s = true := by
    intro i hi
    match i, hi with
    | 0, _ => exact hts _ (st_ref 1 (Or.inl ⟨rfl, 221, rfl⟩))
    | 1, _ => exact hts _ (st_ref 2 (Or.inr (Or.inl ⟨rfl, 70, rfl⟩)))
    | 2, _ => exact hts _ (st_ref 2 (Or.inr (Or.inl ⟨rfl, 63, rfl⟩)))
    | i + 3, h => exact absurd h (by omega)
  have key : ∀ t : Nat, (va_Z "jdk/internal/util/Preconditions" "SIOOBE_FORMATTER" "Ljava/util/function/BiFunction;" .null (fun q => s.heap.size ≤ q) s s.heap ∨ va_Z "jdk/internal/util/Preconditions" "SIOOBE_FORMATTER" "Ljava/util/function/BiFunction;" (.ref t) (fun q => s.heap.size ≤ q) s s.heap) → ∃ ad : Nat → Nat, EX (G, cA, ad, fun _ => 0) (fun q => s.heap.size ≤ q) s s.heap := by
    intro t ht
    have e1 : ∀ i, i < 3 → (fun x => if x < 1100 then adK (x - 1000) else if x < 2000 then adV (x - 1100) else t) (1000 + i) = adK i := fun i hi => by
      show (if 1000 + i < 1100 then adK (1000 + i - 1000) else _) = _
      rw [if_pos (by omega), show 1000 + i - 1000 = i by omega]
    have e2 : ∀ i, i < 3 → (fun x => if x < 1100 then adK (x - 1000) else if x < 2000 then adV (x - 1100) else t) (1100 + i) = adV i := fun i hi => by
      show (if 1100 + i < 1100 then _ else if 1100 + i < 2000 then adV (1100 + i - 1100) else t) = _
      rw [if_neg (by omega), if_pos (by omega), show 1100 + i - 1100 = i by omega]
    refine ⟨fun x => if x < 1100 then adK (x - 1000) else if x < 2000 then adV (x - 1100) else t, ⟨fun i hi => ?_, fun i j hi hj e => ?_⟩, fun i hi => ?_, h3, ht, h5⟩
    · have h := h1.1 i hi
      have a1 := e1 i hi
      have a2 := e2 i hi
      dsimp only at a1 a2 ⊢
      rw [a1, a2]
      exact h
    · have a1 := e1 i hi
      have a2 := e1 j hj
      dsimp only at a1 a2 e
      rw [a1, a2] at e
      exact h1.2 i j hi hj e
    · have a1 := e1 i hi
      dsimp only at a1 ⊢
      rw [a1]
      exact vk_R.of (h6 i hi) (h2 i hi)
  rcases h4 with h4 | ⟨t, h4⟩
  · exact key 0 (Or.inl h4)
  · exact key t (Or.inr h4)
theorem K_start {args : Array Value} {s : State} (hts : ∀ w ∈ lw_tbl, w.before args s = true) : ∃ (G : va_G) (cA : ClassId), va_K G vwCl [(cA, .int)] s := by
  have hT : ∀ w ∈ TB, w.before args s = true := fun w hw => hts w (List.mem_filter.mp hw).1
  have key : ∀ k : Nat, ∃ g : ClassId × (Nat → Nat), ∀ q : vw_C, vwCl[k]? = some q → u_Kn s q.1 q.2.1 q.2.2 g.1 g.2 := by
    intro k
    match k with
    | 0 =>
      obtain ⟨c, iS, h⟩ := u_known (C := RX1) (T := TX1) (N := 5) (n := 5) hT utX1 (hts (.instantiable RX1 5) (st_ref 1 (Or.inl ⟨rfl, 27, rfl⟩)))
      exact ⟨(c, iS), fun q hq => by cases hq; exact h⟩
    | 1 =>
      obtain ⟨c, iS, h⟩ := u_known (C := RX2) (T := TX2) (N := 10) (n := 10) hT utX2 (hts (.instantiable RX2 10) (st_ref 1 (Or.inl ⟨rfl, 52, rfl⟩)))
      exact ⟨(c, iS), fun q hq => by cases hq; exact h⟩
    | 2 =>
      obtain ⟨c, iS, h⟩ := u_known (C := RX3) (T := TX3) (N := 4) (n := 4) hT utX3 (hts (.instantiable RX3 4) (st_ref 1 (Or.inl ⟨rfl, 183, rfl⟩)))
      exact ⟨(c, iS), fun q hq => by cases hq; exact h⟩
    | 3 =>
      obtain ⟨c, iS, h⟩ := u_known (C := RX4) (T := TX4) (N := 6) (n := 6) hT utX4 (hts (.instantiable RX4 6) (st_ref 1 (Or.inl ⟨rfl, 157, rfl⟩)))
      exact ⟨(c, iS), fun q hq => by cases hq; exact h⟩
    | 4 =>
      obtain ⟨c, iS, h⟩ := u_known (C := RX5) (T := TX5) (N := 3) (n := 3) hT utX5 (hts (.instantiable RX5 3) (st_ref 1 (Or.inl ⟨rfl, 204, rfl⟩)))
      exact ⟨(c, iS), fun q hq => by cases hq; exact h⟩
    | 5 =>
      obtain ⟨c, iS, h⟩ := u_known (C := RX6) (T := TX6) (N := 14) (n := 14) hT utX6 (hts (.instantiable RX6 14) (st_ref 1 (Or.inl ⟨rfl, 92, rfl⟩)))
      exact ⟨(c, iS), fun q hq => by cases hq; exact h⟩
    | 6 =>
      obtain ⟨c, iS, h⟩ := u_known (C := RX7) (T := TX7) (N := 9) (n := 9) hT utX7 (hts (.instantiable RX7 9) (st_ref 1 (Or.inl ⟨rfl, 19, rfl⟩)))
      exact ⟨(c, iS), fun q hq => by cases hq; exact h⟩
    | 7 =>
      obtain ⟨c, iS, h⟩ := u_known (C := RX8) (T := TX8) (N := 41) (n := 41) hT utX8 (hts (.instantiable RX8 41) (st_ref 4 (Or.inr (Or.inr ⟨rfl, 231, rfl⟩))))
      exact ⟨(c, iS), fun q hq => by cases hq; exact h⟩
    | k + 8 => exact ⟨(0, fun _ => 0), fun q hq => by simp [vwCl] at hq⟩
  obtain ⟨g, hg⟩ := Classical.axiomOfChoice key
  obtain ⟨cA, kA, comp, h1, h2, h3⟩ := Cond.arrayClass_spec (hts (.arrayClass .int) (st_ref 1 (Or.inl ⟨rfl, 50, rfl⟩)))
  refine ⟨(fun k => (g k).1, fun k => (g k).2), cA, fun k q hq => hg k q hq, fun k q hk => ?_⟩
  match k, hk with
  | 0, hk =>
    cases hk
    exact ⟨fun n z => ⟨fun k h => (by cases h), kA, h2, comp, h3⟩, h1⟩
  | k + 1, hk => simp at hk
