/-! the reader: a state is how far, and the steps written -/
abbrev RS : Type := Nat × List Int32
def pM (μ : PM) (a cs : Int32) (co : Nat → Int32) : PM := (fun c => if c = 6 then upd (upd (μ.1 6) 6 a) 7 cs else if c = 11 then co else μ.1 c, μ.2)
theorem pM_a {μ : PM} {a cs v : Int32} {co : Nat → Int32} : si (pM μ a cs co) 6 6 v = pM μ v cs co := by
  refine PM_ext (fun x => ?_) rfl
  by_cases e : x = 6
  · subst e
    show upd (upd (upd (μ.1 6) 6 a) 7 cs) 6 v = upd (upd (μ.1 6) 6 v) 7 cs
    funext j
    by_cases h : j = 6
    · subst h; rfl
    · rw [upd_o _ _ h]
      by_cases h7 : j = 7
      · subst h7; rfl
      · rw [upd_o _ _ h7, upd_o _ _ h7, upd_o _ _ h, upd_o _ _ h]
  · rw [si_other _ _ _ _ e]
    show (if x = 6 then _ else if x = 11 then co else μ.1 x) = if x = 6 then _ else if x = 11 then co else μ.1 x
    rw [if_neg e, if_neg e]
theorem pM_c {μ : PM} {a cs v : Int32} {co : Nat → Int32} : si (pM μ a cs co) 6 7 v = pM μ a v co := by
  refine PM_ext (fun x => ?_) rfl
  by_cases e : x = 6
  · subst e
    show upd (upd (upd (μ.1 6) 6 a) 7 cs) 7 v = upd (upd (μ.1 6) 6 a) 7 v
    funext j
    by_cases h : j = 7
    · subst h; rfl
    · rw [upd_o _ _ h, upd_o _ _ h, upd_o _ _ h]
  · rw [si_other _ _ _ _ e]
    show (if x = 6 then _ else if x = 11 then co else μ.1 x) = if x = 6 then _ else if x = 11 then co else μ.1 x
    rw [if_neg e, if_neg e]
theorem pM_co {μ : PM} {a cs v : Int32} {co : Nat → Int32} {j : Nat} : si (pM μ a cs co) 11 j v = pM μ a cs (upd co j v) := by
  refine PM_ext (fun x => ?_) rfl
  by_cases e : x = 11
  · subst e; rfl
  · rw [si_other _ _ _ _ e]
    show (if x = 6 then _ else if x = 11 then co else μ.1 x) = if x = 6 then _ else if x = 11 then _ else μ.1 x
    by_cases e6 : x = 6
    · rw [if_pos e6, if_pos e6]
    · rw [if_neg e6, if_neg e6, if_neg e, if_neg e]
theorem pM_of {μ : PM} {a cs : Int32} : si (si μ 6 6 a) 6 7 cs = pM μ a cs (μ.1 11) := by
  refine PM_ext (fun x => ?_) rfl
  by_cases e : x = 6
  · subst e; rfl
  · rw [si_other _ _ _ _ e, si_other _ _ _ _ e]
    show μ.1 x = if x = 6 then _ else if x = 11 then _ else μ.1 x
    rw [if_neg e]
    by_cases e1 : x = 11
    · rw [if_pos e1, e1]
    · rw [if_neg e1]
def nxt (ki : Nat → Int32) (s : RS) (kd : Int32) : Bool := decide (ki s.1 = kd)
def tkS (s : RS) : RS := (s.1 + 1, s.2)
def wrS (c : Int32) (s : RS) : RS := if s.2.length < 160 then (s.1, s.2 ++ [c]) else s
def lpS (ki : Nat → Int32) (kd : Int32) (sub : RS → Bool × RS) (c : Int32) : Nat → RS → Bool × RS
  | 0, s => (true, s)
  | m + 1, s => if nxt ki s kd then (if (sub (tkS s)).1 then lpS ki kd sub c m (wrS c (sub (tkS s)).2) else (false, (sub (tkS s)).2)) else (true, s)
def seqS (ki : Nat → Int32) (kd : Int32) (sub : RS → Bool × RS) (c : Int32) (s : RS) : Bool × RS := if (sub s).1 then lpS ki kd sub c 160 (sub s).2 else (false, (sub s).2)
def lpP (ki : Nat → Int32) (sub : RS → Bool × RS) : Nat → RS → Bool × RS
  | 0, s => (true, s)
  | m + 1, s => if nxt ki s 43 || nxt ki s 45 then (if (sub (tkS s)).1 then lpP ki sub m (wrS (if nxt ki s 43 then -16 else -17) (sub (tkS s)).2) else (false, (sub (tkS s)).2)) else (true, s)
def sumS (ki : Nat → Int32) (sub : RS → Bool × RS) (s : RS) : Bool × RS := if (sub s).1 then lpP ki sub 160 (sub s).2 else (false, (sub s).2)
def cmpS (ki : Nat → Int32) (sub : RS → Bool × RS) (s : RS) : Bool × RS :=
  if (sub s).1 then (if nxt ki (sub s).2 60 then (if (sub (tkS (sub s).2)).1 then (true, wrS (-14) (sub (tkS (sub s).2)).2) else (false, (sub (tkS (sub s).2)).2))
    else if nxt ki (sub s).2 61 then (if (sub (tkS (sub s).2)).1 then (true, wrS (-15) (sub (tkS (sub s).2)).2) else (false, (sub (tkS (sub s).2)).2)) else (true, (sub s).2)) else (false, (sub s).2)
def denS (ki : Nat → Int32) (dn : Option (RS → Bool × RS)) (sm : RS → Bool × RS) (s : RS) : Bool × RS :=
  if nxt ki s 6 then (match dn with | none => (false, s) | some d => if (d (tkS s)).1 then (true, wrS (-10) (d (tkS s)).2) else (false, (d (tkS s)).2)) else cmpS ki sm s
def oneS (ki nu : Nat → Int32) (q : Option ((RS → Bool × RS) × (RS → Bool × RS))) (s : RS) : Bool × RS :=
  if ki s.1 = 45 then (match q with | none => (false, s) | some (_, o) => if (o (tkS s)).1 then (true, wrS (-11) (o (tkS s)).2) else (false, (o (tkS s)).2))
  else if ki s.1 = 40 then (match q with | none => (false, s) | some (e, _) => if (e (tkS s)).1 then (if nxt ki (e (tkS s)).2 41 then (true, tkS (e (tkS s)).2) else (false, (e (tkS s)).2)) else (false, (e (tkS s)).2))
  else if ki s.1 = 13 then (true, tkS (wrS (nu s.1) s)) else if inF (ki s.1) 7 12 then (true, tkS (wrS (-1 - (ki s.1 - 7)) s)) else (false, s)
/-- the readings with room for r more that are open: (of an E, of a NOT, of a ONE) -/
def termS (ki : Nat → Int32) (o : RS → Bool × RS) : RS → Bool × RS := seqS ki 42 o (-18)
def sumO (ki : Nat → Int32) (o : RS → Bool × RS) : RS → Bool × RS := sumS ki (termS ki o)
def denO (ki : Nat → Int32) (dn : Option (RS → Bool × RS)) (o : RS → Bool × RS) : RS → Bool × RS := denS ki dn (sumO ki o)
def botO (ki : Nat → Int32) (dn : Option (RS → Bool × RS)) (o : RS → Bool × RS) : RS → Bool × RS := seqS ki 5 (denO ki dn o) (-13)
def eitO (ki : Nat → Int32) (dn : Option (RS → Bool × RS)) (o : RS → Bool × RS) : RS → Bool × RS := seqS ki 4 (botO ki dn o) (-12)
def PT (ki nu : Nat → Int32) : Nat → (RS → Bool × RS) × (RS → Bool × RS) × (RS → Bool × RS)
  | 0 => (eitO ki none (oneS ki nu none), denO ki none (oneS ki nu none), oneS ki nu none)
  | r + 1 => (eitO ki (some (PT ki nu r).2.1) (oneS ki nu (some ((PT ki nu r).1, (PT ki nu r).2.2))), denO ki (some (PT ki nu r).2.1) (oneS ki nu (some ((PT ki nu r).1, (PT ki nu r).2.2))), oneS ki nu (some ((PT ki nu r).1, (PT ki nu r).2.2)))
/-- the tokens stand: nt of them, the last the end -/
def tokOK (μ : PM) (nt : Nat) : Prop := μ.1 6 2 = nI nt ∧ 1 ≤ nt ∧ nt ≤ 161 ∧ μ.1 8 (nt - 1) = 14
def rowL (co : Nat → Int32) (c : List Int32) : Prop := ∀ k v, c[k]? = some v → co k = v
def RI (nt : Nat) (s : RS) : Prop := s.1 < nt ∧ s.2.length ≤ 160
theorem rowL_push {co : Nat → Int32} {c : List Int32} {v : Int32} (h : rowL co c) : rowL (upd co c.length v) (c ++ [v]) := by
  intro k d hk
  by_cases e : k < c.length
  · rw [List.getElem?_append_left e] at hk
    rw [upd_o _ _ (by omega)]
    exact h k d hk
  · have e2 : k = c.length := by
      have := (List.getElem?_eq_some_iff.mp hk).1
      simp only [List.length_append, List.length_cons, List.length_nil] at this
      omega
    subst e2
    rw [List.getElem?_append_right (Nat.le_refl _), Nat.sub_self] at hk
    cases hk
    rw [upd_s]
theorem RI_tk {μ : PM} {nt : Nat} {s : RS} {kd : Int32} (ht : tokOK μ nt) (h : RI nt s) (hk : nxt (μ.1 8) s kd = true) (hd : kd ≠ 14) : RI nt (tkS s) := by
  refine ⟨?_, h.2⟩
  have h1 : s.1 ≠ nt - 1 := by
    intro e
    have hk2 := of_decide_eq_true hk
    rw [e, ht.2.2.2] at hk2
    exact hd hk2.symm
  have h2 := h.1
  show s.1 + 1 < nt
  omega
theorem RI_tk2 {μ : PM} {nt : Nat} {s : RS} (ht : tokOK μ nt) (h : RI nt s) (hd : μ.1 8 s.1 ≠ 14) : RI nt (tkS s) := by
  refine ⟨?_, h.2⟩
  have h1 : s.1 ≠ nt - 1 := by
    intro e
    rw [e, ht.2.2.2] at hd
    exact hd rfl
  have h2 := h.1
  show s.1 + 1 < nt
  omega
theorem RI_wr {nt : Nat} {c : Int32} {s : RS} (h : RI nt s) : RI nt (wrS c s) := by
  unfold wrS
  split
  · rename_i h1
    exact ⟨h.1, by show (s.2 ++ [c]).length ≤ 160; rw [List.length_append]; show s.2.length + 1 ≤ 160; omega⟩
  · exact h
/-- how many of these stand there, no more than m -/
def skN (ki : Nat → Int32) (kd : Int32) : Nat → RS → Nat
  | 0, _ => 0
  | m + 1, s => if nxt ki s kd then skN ki kd m (tkS s) + 1 else 0
def wrN (c : Int32) : Nat → RS → RS
  | 0, s => s
  | m + 1, s => wrN c m (wrS c s)
theorem wrN_s (c : Int32) : ∀ (m : Nat) (s : RS), wrN c (m + 1) s = wrS c (wrN c m s)
  | 0, _ => rfl
  | m + 1, s => wrN_s c m (wrS c s)
theorem wrS_l {c : Int32} {s : RS} (h : s.2.length ≤ 160) : (wrS c s).2.length ≤ 160 := by
  unfold wrS
  split
  · rename_i h1
    show (s.2 ++ [c]).length ≤ 160
    rw [List.length_append]
    show s.2.length + 1 ≤ 160
    omega
  · exact h
theorem skN_le {ki : Nat → Int32} {kd : Int32} : ∀ (m : Nat) (s : RS), skN ki kd m s ≤ m
  | 0, _ => Nat.le_refl _
  | m + 1, s => by
    unfold skN
    split
    · exact Nat.succ_le_succ (skN_le m _)
    · exact Nat.zero_le _
theorem skN_RI {μ : PM} {nt : Nat} (ht : tokOK μ nt) {kd : Int32} (hd : kd ≠ 14) : ∀ (m : Nat) (s : RS), RI nt s → RI nt (s.1 + skN (μ.1 8) kd m s, s.2)
  | 0, _, h => h
  | m + 1, s, h => by
    unfold skN
    split
    · rename_i hn
      have h2 := skN_RI ht hd m (tkS s) (RI_tk ht h hn hd)
      have e : s.1 + (skN (μ.1 8) kd m (tkS s) + 1) = (tkS s).1 + skN (μ.1 8) kd m (tkS s) := by
        show s.1 + (skN (μ.1 8) kd m (tkS s) + 1) = s.1 + 1 + skN (μ.1 8) kd m (tkS s)
        omega
      rw [e]
      exact h2
    · exact h
theorem RI_wrN {nt : Nat} {c : Int32} : ∀ (m : Nat) (s : RS), RI nt s → RI nt (wrN c m s)
  | 0, _, h => h
  | m + 1, s, h => RI_wrN m (wrS c s) (RI_wr h)
/-- a row of signs in front, each of them written behind what follows -/
def rowS (ki : Nat → Int32) (kd c : Int32) (m : Nat) (cm : Nat → RS → Bool × RS) (s : RS) : Bool × RS :=
  if (cm (skN ki kd m s) (s.1 + skN ki kd m s, s.2)).1 then (true, wrN c (skN ki kd m s) (cm (skN ki kd m s) (s.1 + skN ki kd m s, s.2)).2) else (false, (cm (skN ki kd m s) (s.1 + skN ki kd m s, s.2)).2)
theorem rowS_0 {ki : Nat → Int32} {kd c : Int32} {m : Nat} {cm : Nat → RS → Bool × RS} {s : RS} (h : skN ki kd m s = 0) : rowS ki kd c m cm s = cm 0 s := by
  unfold rowS
  rw [h]
  show (if (cm 0 s).1 then (true, (cm 0 s).2) else (false, (cm 0 s).2)) = cm 0 s
  cases hb : (cm 0 s).1
  · rw [if_neg Bool.false_ne_true]; exact Prod.ext hb.symm rfl
  · rw [if_pos rfl]; exact Prod.ext hb.symm rfl
theorem rowS_s {ki : Nat → Int32} {kd c : Int32} {m : Nat} {cm cn : Nat → RS → Bool × RS} {s : RS} (h : nxt ki s kd = true) (hc : ∀ i, cm (i + 1) = cn i) : rowS ki kd c (m + 1) cm s = if (rowS ki kd c m cn (tkS s)).1 then (true, wrS c (rowS ki kd c m cn (tkS s)).2) else (false, (rowS ki kd c m cn (tkS s)).2) := by
  have e : skN ki kd (m + 1) s = skN ki kd m (tkS s) + 1 := by
    show (if nxt ki s kd then _ else _) = _
    rw [h, if_pos rfl]
  have e2 : s.1 + (skN ki kd m (tkS s) + 1) = (tkS s).1 + skN ki kd m (tkS s) := by
    show s.1 + (skN ki kd m (tkS s) + 1) = s.1 + 1 + skN ki kd m (tkS s)
    omega
  unfold rowS
  rw [e, hc, e2]
  show (if (cn (skN ki kd m (tkS s)) ((tkS s).1 + skN ki kd m (tkS s), (tkS s).2)).1 then _ else _) = _
  cases hb : (cn (skN ki kd m (tkS s)) ((tkS s).1 + skN ki kd m (tkS s), (tkS s).2)).1
  · rw [if_neg Bool.false_ne_true, if_neg Bool.false_ne_true]
    rfl
  · rw [if_pos rfl, if_pos rfl, wrN_s]
    rfl
def sinS (ki nu : Nat → Int32) (q : Option (RS → Bool × RS)) (s : RS) : Bool × RS :=
  if ki s.1 = 40 then (match q with | none => (false, s) | some e => if (e (tkS s)).1 then (if nxt ki (e (tkS s)).2 41 then (true, tkS (e (tkS s)).2) else (false, (e (tkS s)).2)) else (false, (e (tkS s)).2))
  else if ki s.1 = 13 then (true, tkS (wrS (nu s.1) s)) else if inF (ki s.1) 7 12 then (true, tkS (wrS (-1 - (ki s.1 - 7)) s)) else (false, s)
def eS (ki nu : Nat → Int32) : Nat → Option (RS → Bool × RS)
  | 0 => none
  | r + 1 => some (PT ki nu r).1
theorem no_one {ki : Nat → Int32} {s : RS} {v : Int32} (h : ki s.1 = v) (h1 : v ≠ 40) (h2 : v ≠ 13) (h3 : ¬ inF v 7 12 = true) : ¬ ki s.1 = 40 ∧ ¬ ki s.1 = 13 ∧ ¬ inF (ki s.1) 7 12 = true := by
  rw [h]
  exact ⟨h1, h2, h3⟩
theorem PT_one {ki nu : Nat → Int32} : ∀ (r : Nat) (s : RS), (PT ki nu r).2.2 s = rowS ki 45 (-11) r (fun i => sinS ki nu (eS ki nu (r - i))) s
  | 0, s => by
    have e := rowS_0 (ki := ki) (kd := 45) (c := -11) (m := 0) (cm := fun i => sinS ki nu (eS ki nu (0 - i))) (s := s) rfl
    rw [e]
    show oneS ki nu none s = sinS ki nu none s
    by_cases h : ki s.1 = 45
    · obtain ⟨n1, n2, n3⟩ := no_one h (by decide) (by decide) (by decide)
      have e1 : oneS ki nu none s = (false, s) := by
        unfold oneS
        exact if_pos h
      have e2 : sinS ki nu none s = (false, s) := by
        unfold sinS
        rw [if_neg n1, if_neg n2, if_neg n3]
      exact e1.trans e2.symm
    · unfold oneS sinS
      refine (if_neg h).trans ?_
      rfl
  | r + 1, s => by
    by_cases h : ki s.1 = 45
    · have e := rowS_s (ki := ki) (kd := 45) (c := -11) (m := r) (cm := fun i => sinS ki nu (eS ki nu (r + 1 - i))) (cn := fun i => sinS ki nu (eS ki nu (r - i))) (s := s) (decide_eq_true h) (fun i => by
        show sinS ki nu (eS ki nu (r + 1 - (i + 1))) = sinS ki nu (eS ki nu (r - i))
        rw [Nat.add_sub_add_right])
      rw [e, ← PT_one r (tkS s)]
      have e0 : (PT ki nu (r + 1)).2.2 s = oneS ki nu (some ((PT ki nu r).1, (PT ki nu r).2.2)) s := rfl
      rw [e0]
      unfold oneS
      exact if_pos h
    · have e := rowS_0 (ki := ki) (kd := 45) (c := -11) (m := r + 1) (cm := fun i => sinS ki nu (eS ki nu (r + 1 - i))) (s := s) (by
        show (if nxt ki s 45 then _ else 0) = 0
        rw [show nxt ki s 45 = false from decide_eq_false h, if_neg Bool.false_ne_true])
      rw [e]
      have e0 : (PT ki nu (r + 1)).2.2 s = oneS ki nu (some ((PT ki nu r).1, (PT ki nu r).2.2)) s := rfl
      rw [e0]
      show oneS ki nu (some ((PT ki nu r).1, (PT ki nu r).2.2)) s = sinS ki nu (some (PT ki nu r).1) s
      unfold oneS sinS
      refine (if_neg h).trans ?_
      rfl
theorem sum_bad {ki : Nat → Int32} {o : RS → Bool × RS} {s : RS} (h : o s = (false, s)) : sumO ki o s = (false, s) := by
  have h1 : termS ki o s = (false, s) := by
    unfold termS seqS
    rw [h, if_neg Bool.false_ne_true]
  unfold sumO sumS
  rw [h1, if_neg Bool.false_ne_true]
theorem cmp_bad {ki : Nat → Int32} {o : RS → Bool × RS} {s : RS} (h : o s = (false, s)) : cmpS ki (sumO ki o) s = (false, s) := by
  unfold cmpS
  rw [sum_bad h, if_neg Bool.false_ne_true]
theorem PT_den {ki nu : Nat → Int32} : ∀ (r : Nat) (s : RS), (PT ki nu r).2.1 s = rowS ki 6 (-10) r (fun i => cmpS ki (sumO ki (PT ki nu (r - i)).2.2)) s
  | 0, s => by
    have e := rowS_0 (ki := ki) (kd := 6) (c := -10) (m := 0) (cm := fun i => cmpS ki (sumO ki (PT ki nu (0 - i)).2.2)) (s := s) rfl
    rw [e]
    show denS ki none (sumO ki (oneS ki nu none)) s = cmpS ki (sumO ki (oneS ki nu none)) s
    cases h : nxt ki s 6
    · unfold denS
      rw [h]
      exact if_neg Bool.false_ne_true
    · have h6 : ki s.1 = 6 := of_decide_eq_true h
      obtain ⟨n1, n2, n3⟩ := no_one h6 (by decide) (by decide) (by decide)
      have e1 : oneS ki nu none s = (false, s) := by
        unfold oneS
        rw [if_neg (show ¬ ki s.1 = 45 by rw [h6]; decide), if_neg n1, if_neg n2, if_neg n3]
      rw [cmp_bad e1]
      unfold denS
      rw [h]
      exact if_pos rfl
  | r + 1, s => by
    cases h : nxt ki s 6
    · have e := rowS_0 (ki := ki) (kd := 6) (c := -10) (m := r + 1) (cm := fun i => cmpS ki (sumO ki (PT ki nu (r + 1 - i)).2.2)) (s := s) (by
        show (if nxt ki s 6 then _ else 0) = 0
        rw [h, if_neg Bool.false_ne_true])
      rw [e]
      show denS ki (some _) (sumO ki (PT ki nu (r + 1)).2.2) s = cmpS ki (sumO ki (PT ki nu (r + 1)).2.2) s
      unfold denS
      rw [h]
      exact if_neg Bool.false_ne_true
    · have e := rowS_s (ki := ki) (kd := 6) (c := -10) (m := r) (cm := fun i => cmpS ki (sumO ki (PT ki nu (r + 1 - i)).2.2)) (cn := fun i => cmpS ki (sumO ki (PT ki nu (r - i)).2.2)) (s := s) h (fun i => by
        show cmpS ki (sumO ki (PT ki nu (r + 1 - (i + 1))).2.2) = cmpS ki (sumO ki (PT ki nu (r - i)).2.2)
        rw [Nat.add_sub_add_right])
      rw [e, ← PT_den r (tkS s)]
      show denS ki (some _) (sumO ki (PT ki nu (r + 1)).2.2) s = _
      unfold denS
      rw [h]
      exact if_pos rfl
theorem PT_eit {ki nu : Nat → Int32} : ∀ (r : Nat), (PT ki nu r).1 = seqS ki 4 (seqS ki 5 (PT ki nu r).2.1 (-13)) (-12)
  | 0 => rfl
  | _ + 1 => rfl
theorem sub5 {op m : Nat} (h : op + m = 5) : (5 : Int32) - nI op = nI m := by
  have h1 : op = 0 ∨ op = 1 ∨ op = 2 ∨ op = 3 ∨ op = 4 ∨ op = 5 := by omega
  rcases h1 with rfl | rfl | rfl | rfl | rfl | rfl
  · obtain rfl : m = 5 := by omega
    decide
  · obtain rfl : m = 4 := by omega
    decide
  · obtain rfl : m = 3 := by omega
    decide
  · obtain rfl : m = 2 := by omega
    decide
  · obtain rfl : m = 1 := by omega
    decide
  · obtain rfl : m = 0 := by omega
    decide
set_option maxHeartbeats 4000000 in
set_option maxRecDepth 100000 in
theorem T_X2_isNext {l : Launch} {μ : PM} {nt : Nat} {s : RS} {co : Nat → Int32} {kd : Int32} (ht : tokOK μ nt) (hs : RI nt s) (hc : rowL co s.2) : CT l SC yX2_isNext cX2_isNext 2 (some .boolean) 1 [.ref 6, .int kd] (pM μ (nI s.1) (nI s.2.length) co) (QI fun x m => x = b2 (nxt (μ.1 8) s kd) ∧ m = pM μ (nI s.1) (nI s.2.length) co) := by
  refine CT.of rfl (Nat.le_of_ble_eq_true rfl) ?_
  show PW l SC RX2 cX2_isNext 2 (some .boolean) 1 _ 0 [(0, .ref 6), (1, .int kd)] [] (pM μ (nI s.1) (nI s.2.length) co)
  obtain ⟨t1, t2, t3, t4⟩ := id ht
  have hs1 := hs.1
  refine pw_aload_n dX2_isNext_0 rfl rfl ?_
  refine pw_getI dX2_isNext_1 fa_X2_31 rfl ?_
  refine pw_top (y := nI s.1) rfl ?_
  refine pw_aload_n dX2_isNext_4 rfl rfl ?_
  refine pw_getI dX2_isNext_5 fa_X2_19 rfl ?_
  refine pw_top (y := nI nt) t1 ?_
  refine pw_icmp_ge (tgt := 28) dX2_isNext_8 (by decide) (fun c_8 => ?_) (fun c_8 => ?_)
  · skip
    exact absurd c_8 (nI_ge hs1 (by omega))
  · skip
    refine pw_aload_n dX2_isNext_11 rfl rfl ?_
    refine pw_getR dX2_isNext_12 fa_X2_22 rfl ?_
    refine pw_aload_n dX2_isNext_15 rfl rfl ?_
    refine pw_getI dX2_isNext_16 fa_X2_31 rfl ?_
    refine pw_iald (j := s.1) dX2_isNext_19 rfl rfl (by omega) ?_
    refine pw_top (y := μ.1 8 s.1) rfl ?_
    refine pw_iload_n dX2_isNext_20 rfl rfl ?_
    refine pw_icmp_ne (tgt := 28) dX2_isNext_21 (by decide) (fun c_21 => ?_) (fun c_21 => ?_)
    · skip
      refine pw_iconst (v := 0) dX2_isNext_28 rfl ?_
      refine pw_zret dX2_isNext_29 rfl (by simp) ?_
      exact ⟨by unfold nxt; rw [decide_eq_false c_21]; rfl, rfl⟩
    · skip
      refine pw_iconst (v := 1) dX2_isNext_24 rfl ?_
      refine pw_goto (tgt := 29) dX2_isNext_25 (by decide) ?_
      refine pw_zret dX2_isNext_29 rfl (by simp) ?_
      exact ⟨by unfold nxt; rw [decide_eq_true c_21]; rfl, rfl⟩

set_option maxHeartbeats 4000000 in
set_option maxRecDepth 100000 in
theorem T_X2_take {l : Launch} {μ : PM} {nt : Nat} {s : RS} {co : Nat → Int32} {kd : Int32} (ht : tokOK μ nt) (hs : RI nt s) (hc : rowL co s.2) : CT l SC yX2_take cX2_take 3 (some .boolean) 2 [.ref 6, .int kd] (pM μ (nI s.1) (nI s.2.length) co) (QI fun x m => x = b2 (nxt (μ.1 8) s kd) ∧ m = pM μ (nI (if nxt (μ.1 8) s kd then s.1 + 1 else s.1)) (nI s.2.length) co) := by
  refine CT.of rfl (Nat.le_of_ble_eq_true rfl) ?_
  show PW l SC RX2 cX2_take 3 (some .boolean) 2 _ 0 [(0, .ref 6), (1, .int kd)] [] (pM μ (nI s.1) (nI s.2.length) co)
  refine pw_aload_n dX2_take_0 rfl rfl ?_
  refine pw_iload_n dX2_take_1 rfl rfl ?_
  refine pw_cVi dX2_take_2 mv_X2_57 ckReader (T_X2_isNext ht hs hc) rfl rfl (Nat.le_of_ble_eq_true rfl) (by decide) (fun x_2 m_2 h_2 => ?_)
  obtain ⟨rfl, rfl⟩ := h_2
  refine pw_istore_n (ls2 := [(2, _), (0, _), (1, _)]) dX2_take_5 rfl (by decide) rfl ?_
  refine pw_iload_n dX2_take_6 rfl rfl ?_
  refine pw_if_eq (tgt := 20) dX2_take_7 (by decide) (fun c_7 => ?_) (fun c_7 => ?_)
  · skip
    have hb := b2_0 c_7
    skip
    refine pw_iload_n dX2_take_20 rfl rfl ?_
    refine pw_zret dX2_take_21 rfl (b2_01 _) ?_
    exact ⟨rfl, by rw [hb]; rfl⟩
  · skip
    have hb := b2_n c_7
    refine pw_aload_n dX2_take_10 rfl rfl ?_
    refine pw_dup dX2_take_11 rfl ?_
    refine pw_getI dX2_take_12 fa_X2_31 rfl ?_
    refine pw_top (y := nI s.1) rfl ?_
    refine pw_iconst (v := 1) dX2_take_15 rfl ?_
    refine pw_iadd dX2_take_16 ?_
    refine pw_top (y := nI (s.1 + 1)) (nI_1 s.1) ?_
    refine pw_putI dX2_take_17 fa_X2_31 rfl ?_
    refine pw_mem pM_a ?_
    refine pw_iload_n dX2_take_20 rfl rfl ?_
    refine pw_zret dX2_take_21 rfl (b2_01 _) ?_
    exact ⟨rfl, by rw [hb, if_pos rfl]⟩

set_option maxHeartbeats 4000000 in
set_option maxRecDepth 100000 in
theorem T_X2_write {l : Launch} {μ : PM} {s : RS} {co : Nat → Int32} {c : Int32} (hl : s.2.length ≤ 160) (hc : rowL co s.2) : CT l SC yX2_write cX2_write 2 (some .boolean) 1 [.ref 6, .int c] (pM μ (nI s.1) (nI s.2.length) co) (QI fun x m => x = 1 ∧ ∃ co2, m = pM μ (nI (wrS c s).1) (nI (wrS c s).2.length) co2 ∧ rowL co2 (wrS c s).2) := by
  refine CT.of rfl (Nat.le_of_ble_eq_true rfl) ?_
  show PW l SC RX2 cX2_write 2 (some .boolean) 1 _ 0 [(0, .ref 6), (1, .int c)] [] (pM μ (nI s.1) (nI s.2.length) co)
  refine pw_aload_n dX2_write_0 rfl rfl ?_
  refine pw_getI dX2_write_1 fa_X2_34 rfl ?_
  refine pw_top (y := nI s.2.length) rfl ?_
  refine pw_sipush (v := 160) dX2_write_4 rfl ?_
  refine pw_icmp_ge (tgt := 30) dX2_write_7 (by decide) (fun c_7 => ?_) (fun c_7 => ?_)
  · skip
    have hge := nI_geD (n := 160) (by decide) c_7
    skip
    refine pw_iconst (v := 1) dX2_write_30 rfl ?_
    refine pw_zret dX2_write_31 rfl (by simp) ?_
    exact ⟨rfl, co, by unfold wrS; rw [if_neg (by omega)], by unfold wrS; rw [if_neg (by omega)]; exact hc⟩
  · skip
    have hlt := nI_ltD (n := 160) (by omega) c_7
    refine pw_aload_n dX2_write_10 rfl rfl ?_
    refine pw_getR dX2_write_11 fa_X2_37 rfl ?_
    refine pw_aload_n dX2_write_14 rfl rfl ?_
    refine pw_getI dX2_write_15 fa_X2_34 rfl ?_
    refine pw_iload_n dX2_write_18 rfl rfl ?_
    skip
    refine pw_iast (j := s.2.length) dX2_write_19 rfl rfl (by omega) ?_
    refine pw_mem pM_co ?_
    refine pw_aload_n dX2_write_20 rfl rfl ?_
    refine pw_dup dX2_write_21 rfl ?_
    refine pw_getI dX2_write_22 fa_X2_34 rfl ?_
    refine pw_top (y := nI s.2.length) rfl ?_
    refine pw_iconst (v := 1) dX2_write_25 rfl ?_
    refine pw_iadd dX2_write_26 ?_
    refine pw_top (y := nI (s.2.length + 1)) (nI_1 _) ?_
    refine pw_putI dX2_write_27 fa_X2_34 rfl ?_
    refine pw_mem pM_c ?_
    refine pw_iconst (v := 1) dX2_write_30 rfl ?_
    refine pw_zret dX2_write_31 rfl (by simp) ?_
    exact ⟨rfl, _, by unfold wrS; rw [if_pos hlt, List.length_append]; rfl, by unfold wrS; rw [if_pos hlt]; exact rowL_push hc⟩

set_option maxHeartbeats 4000000 in
set_option maxRecDepth 100000 in
theorem T_X2_takeSome {l : Launch} {μ : PM} {nt : Nat} {s : RS} {co : Nat → Int32} {kd : Int32} {mo : Nat} (ht : tokOK μ nt) (hs : RI nt s) (hc : rowL co s.2) (hmo : mo ≤ 5) (hd : kd ≠ 14) : CT l SC yX2_takeSome cX2_takeSome 4 (some .int) 2 [.ref 6, .int kd, .int (nI mo)] (pM μ (nI s.1) (nI s.2.length) co) (QI fun x m => x = nI (skN (μ.1 8) kd mo s) ∧ m = pM μ (nI (s.1 + (skN (μ.1 8) kd mo s))) (nI s.2.length) co) := by
  refine CT.of rfl (Nat.le_of_ble_eq_true rfl) ?_
  show PW l SC RX2 cX2_takeSome 4 (some .int) 2 _ 0 [(0, .ref 6), (1, .int kd), (2, .int (nI mo))] [] (pM μ (nI s.1) (nI s.2.length) co)
  refine pw_iconst (v := 0) dX2_takeSome_0 rfl ?_
  refine pw_istore_n (ls2 := [(3, _), (0, _), (1, _), (2, _)]) dX2_takeSome_1 rfl (by decide) rfl ?_
  have L_2 : ∀ (fu_2 : Nat) (i : Nat), (i ≤ mo) → (RI nt (s.1 + i, s.2)) → (skN (μ.1 8) kd (mo - i) (s.1 + i, s.2) + i = (skN (μ.1 8) kd mo s)) → mo - i < fu_2 → PW l SC RX2 cX2_takeSome 4 (some .int) 2 (QI fun x m => x = nI (skN (μ.1 8) kd mo s) ∧ m = pM μ (nI (s.1 + (skN (μ.1 8) kd mo s))) (nI s.2.length) co) 2 [(0, .ref 6), (1, .int kd), (2, .int (nI mo)), (3, .int (nI i))] [] (pM μ (nI (s.1 + i)) (nI s.2.length) co) := by
    intro fu_2
    induction fu_2 with
    | zero =>
      intro i hi hq hx hm_2
      exact absurd hm_2 (Nat.not_lt_zero _)
    | succ fu_2 ih_2 =>
      intro i hi hq hx hm_2
      refine pw_iload_n dX2_takeSome_2 rfl rfl ?_
      refine pw_iload_n dX2_takeSome_3 rfl rfl ?_
      refine pw_icmp_ge (tgt := 31) dX2_takeSome_4 (by decide) (fun c_4 => ?_) (fun c_4 => ?_)
      · skip
        have hge := nI_geD (n := mo) (by omega) c_4
        refine pw_iload_n dX2_takeSome_31 rfl rfl ?_
        refine pw_iret dX2_takeSome_32 rfl ?_
        have e : skN (μ.1 8) kd mo s = i := by
          rw [← hx, show mo - i = 0 by omega]
          exact Nat.zero_add i
        rw [e]
        exact ⟨rfl, rfl⟩
      · skip
        have hlt := nI_ltD (n := mo) (by omega) c_4
        refine pw_aload_n dX2_takeSome_7 rfl rfl ?_
        refine pw_iload_n dX2_takeSome_8 rfl rfl ?_
        refine pw_cVi dX2_takeSome_9 mv_X2_57 ckReader (T_X2_isNext (s := (s.1 + i, s.2)) ht hq hc) rfl rfl (Nat.le_of_ble_eq_true rfl) (by decide) (fun x_9 m_9 h_9 => ?_)
        obtain ⟨rfl, rfl⟩ := h_9
        refine pw_if_eq (tgt := 31) dX2_takeSome_12 (by decide) (fun c_12 => ?_) (fun c_12 => ?_)
        · skip
          have hb := b2_0 c_12
          refine pw_iload_n dX2_takeSome_31 rfl rfl ?_
          refine pw_iret dX2_takeSome_32 rfl ?_
          have e : skN (μ.1 8) kd mo s = i := by
            rw [← hx, show mo - i = (mo - (i + 1)) + 1 by omega]
            show (if _ then _ else _) + i = i
            rw [hb, if_neg Bool.false_ne_true]
            exact Nat.zero_add i
          rw [e]
          exact ⟨rfl, rfl⟩
        · skip
          have hb := b2_n c_12
          refine pw_aload_n dX2_takeSome_15 rfl rfl ?_
          refine pw_dup dX2_takeSome_16 rfl ?_
          refine pw_getI dX2_takeSome_17 fa_X2_31 rfl ?_
          refine pw_top (y := nI (s.1 + i)) rfl ?_
          refine pw_iconst (v := 1) dX2_takeSome_20 rfl ?_
          refine pw_iadd dX2_takeSome_21 ?_
          refine pw_top (y := nI (s.1 + i + 1)) (nI_1 _) ?_
          refine pw_putI dX2_takeSome_22 fa_X2_31 rfl ?_
          refine pw_mem pM_a ?_
          refine pw_iinc (ls2 := [(3, _), (0, _), (1, _), (2, _)]) (v := nI (i + 1)) dX2_takeSome_25 rfl (inc1 i) (by decide) rfl ?_
          refine pw_goto (tgt := 2) dX2_takeSome_28 (by decide) ?_
          refine pw_sub [1, 2, 3, 0] rfl ?_
          exact ih_2 (i + 1) hlt (RI_tk ht hq hb hd) (by
            rw [← hx, show mo - i = (mo - (i + 1)) + 1 by omega]
            show _ = (if _ then _ else _) + i
            rw [hb, if_pos rfl]
            exact Nat.add_right_comm _ i 1) (by omega)
  refine pw_sub [1, 2, 3, 0] rfl ?_
  exact L_2 (mo + 1) 0 (Nat.zero_le _) hs rfl (by omega)

set_option maxHeartbeats 4000000 in
set_option maxRecDepth 100000 in
theorem T_X2_writeSome {l : Launch} {μ : PM} {s : RS} {co : Nat → Int32} {c : Int32} {tm : Nat} (hl : s.2.length ≤ 160) (hc : rowL co s.2) (htm : tm ≤ 5) : CT l SC yX2_writeSome cX2_writeSome 4 (some .boolean) 2 [.ref 6, .int c, .int (nI tm)] (pM μ (nI s.1) (nI s.2.length) co) (QI fun x m => x = 1 ∧ ∃ co2, m = pM μ (nI (wrN c tm s).1) (nI (wrN c tm s).2.length) co2 ∧ rowL co2 (wrN c tm s).2) := by
  refine CT.of rfl (Nat.le_of_ble_eq_true rfl) ?_
  show PW l SC RX2 cX2_writeSome 4 (some .boolean) 2 _ 0 [(0, .ref 6), (1, .int c), (2, .int (nI tm))] [] (pM μ (nI s.1) (nI s.2.length) co)
  refine pw_iconst (v := 0) dX2_writeSome_0 rfl ?_
  refine pw_istore_n (ls2 := [(3, _), (0, _), (1, _), (2, _)]) dX2_writeSome_1 rfl (by decide) rfl ?_
  have L_2 : ∀ (fu_2 : Nat) (i : Nat) (q : RS) (coq : Nat → Int32), (i ≤ tm) → (q.2.length ≤ 160) → (rowL coq q.2) → (wrN c (tm - i) q = wrN c tm s) → tm - i < fu_2 → PW l SC RX2 cX2_writeSome 4 (some .boolean) 2 (QI fun x m => x = 1 ∧ ∃ co2, m = pM μ (nI (wrN c tm s).1) (nI (wrN c tm s).2.length) co2 ∧ rowL co2 (wrN c tm s).2) 2 [(0, .ref 6), (1, .int c), (2, .int (nI tm)), (3, .int (nI i))] [] (pM μ (nI q.1) (nI q.2.length) coq) := by
    intro fu_2
    induction fu_2 with
    | zero =>
      intro i q coq hi hq hcq hx hm_2
      exact absurd hm_2 (Nat.not_lt_zero _)
    | succ fu_2 ih_2 =>
      intro i q coq hi hq hcq hx hm_2
      refine pw_iload_n dX2_writeSome_2 rfl rfl ?_
      refine pw_iload_n dX2_writeSome_3 rfl rfl ?_
      refine pw_icmp_ge (tgt := 19) dX2_writeSome_4 (by decide) (fun c_4 => ?_) (fun c_4 => ?_)
      · skip
        have hge := nI_geD (n := tm) (by omega) c_4
        refine pw_iconst (v := 1) dX2_writeSome_19 rfl ?_
        refine pw_zret dX2_writeSome_20 rfl (by simp) ?_
        have e : wrN c tm s = q := by
          rw [← hx, show tm - i = 0 by omega]
          rfl
        rw [e]
        exact ⟨rfl, coq, rfl, hcq⟩
      · skip
        have hlt := nI_ltD (n := tm) (by omega) c_4
        refine pw_aload_n dX2_writeSome_7 rfl rfl ?_
        refine pw_iload_n dX2_writeSome_8 rfl rfl ?_
        refine pw_cVi dX2_writeSome_9 mv_X2_101 ckReader (T_X2_write (s := q) hq hcq) rfl rfl (Nat.le_of_ble_eq_true rfl) (by decide) (fun x_9 m_9 h_9 => ?_)
        obtain ⟨rfl, co4, rfl, hc4⟩ := h_9
        refine pw_pop dX2_writeSome_12 rfl ?_
        refine pw_iinc (ls2 := [(3, _), (0, _), (1, _), (2, _)]) (v := nI (i + 1)) dX2_writeSome_13 rfl (inc1 i) (by decide) rfl ?_
        refine pw_goto (tgt := 2) dX2_writeSome_16 (by decide) ?_
        refine pw_sub [1, 2, 3, 0] rfl ?_
        exact ih_2 (i + 1) (wrS c q) co4 hlt (wrS_l hq) hc4 (by rw [← hx, show tm - i = (tm - (i + 1)) + 1 by omega]; rfl) (by omega)
  refine pw_sub [1, 2, 3, 0] rfl ?_
  exact L_2 (tm + 1) 0 s co (Nat.zero_le _) hl hc rfl (by omega)

