/-! the reader: a state is how far, and the steps written -/
abbrev RS : Type := Nat × List Int32
def pM (μ : PM) (a cs : Int32) (co : Nat → Int32) : PM := (fun c => if c = 6 then upd (upd (μ.1 6) 6 a) 7 cs else if c = 11 then co else μ.1 c, μ.2)
theorem pM_a {μ : PM} {a cs v : Int32} {co : Nat → Int32} : si (pM μ a cs co) 6 6 v = pM μ v cs co := by
  refine PM_ext (fun x => ?_) rfl
  by_cases e : x = 6
  · subst e
    show upd (upd (upd (μ.1 6) 6 a) 7 cs) 6 v = upd (upd (μ.1 6) 6 v) 7 cs
    funext j
    by_cases h : j = 6
    · subst h; rfl
    · rw [upd_o _ _ h]
      by_cases h7 : j = 7
      · subst h7; rfl
      · rw [upd_o _ _ h7, upd_o _ _ h7, upd_o _ _ h, upd_o _ _ h]
  · rw [si_other _ _ _ _ e]
    show (if x = 6 then _ else if x = 11 then co else μ.1 x) = if x = 6 then _ else if x = 11 then co else μ.1 x
    rw [if_neg e, if_neg e]
theorem pM_c {μ : PM} {a cs v : Int32} {co : Nat → Int32} : si (pM μ a cs co) 6 7 v = pM μ a v co := by
  refine PM_ext (fun x => ?_) rfl
  by_cases e : x = 6
  · subst e
    show upd (upd (upd (μ.1 6) 6 a) 7 cs) 7 v = upd (upd (μ.1 6) 6 a) 7 v
    funext j
    by_cases h : j = 7
    · subst h; rfl
    · rw [upd_o _ _ h, upd_o _ _ h, upd_o _ _ h]
  · rw [si_other _ _ _ _ e]
    show (if x = 6 then _ else if x = 11 then co else μ.1 x) = if x = 6 then _ else if x = 11 then co else μ.1 x
    rw [if_neg e, if_neg e]
theorem pM_co {μ : PM} {a cs v : Int32} {co : Nat → Int32} {j : Nat} : si (pM μ a cs co) 11 j v = pM μ a cs (upd co j v) := by
  refine PM_ext (fun x => ?_) rfl
  by_cases e : x = 11
  · subst e; rfl
  · rw [si_other _ _ _ _ e]
    show (if x = 6 then _ else if x = 11 then co else μ.1 x) = if x = 6 then _ else if x = 11 then _ else μ.1 x
    by_cases e6 : x = 6
    · rw [if_pos e6, if_pos e6]
    · rw [if_neg e6, if_neg e6, if_neg e, if_neg e]
theorem pM_of {μ : PM} {a cs : Int32} : si (si μ 6 6 a) 6 7 cs = pM μ a cs (μ.1 11) := by
  refine PM_ext (fun x => ?_) rfl
  by_cases e : x = 6
  · subst e; rfl
  · rw [si_other _ _ _ _ e, si_other _ _ _ _ e]
    show μ.1 x = if x = 6 then _ else if x = 11 then _ else μ.1 x
    rw [if_neg e]
    by_cases e1 : x = 11
    · rw [if_pos e1, e1]
    · rw [if_neg e1]
def nxt (ki : Nat → Int32) (s : RS) (kd : Int32) : Bool := decide (ki s.1 = kd)
def tkS (s : RS) : RS := (s.1 + 1, s.2)
def wrS (c : Int32) (s : RS) : RS := if s.2.length < 160 then (s.1, s.2 ++ [c]) else s
def lpS (ki : Nat → Int32) (kd : Int32) (sub : RS → Bool × RS) (c : Int32) : Nat → RS → Bool × RS
  | 0, s => (true, s)
  | m + 1, s => if nxt ki s kd then (if (sub (tkS s)).1 then lpS ki kd sub c m (wrS c (sub (tkS s)).2) else (false, (sub (tkS s)).2)) else (true, s)
def seqS (ki : Nat → Int32) (kd : Int32) (sub : RS → Bool × RS) (c : Int32) (s : RS) : Bool × RS := if (sub s).1 then lpS ki kd sub c 160 (sub s).2 else (false, (sub s).2)
def lpP (ki : Nat → Int32) (sub : RS → Bool × RS) : Nat → RS → Bool × RS
  | 0, s => (true, s)
  | m + 1, s => if nxt ki s 43 || nxt ki s 45 then (if (sub (tkS s)).1 then lpP ki sub m (wrS (if nxt ki s 43 then -16 else -17) (sub (tkS s)).2) else (false, (sub (tkS s)).2)) else (true, s)
def sumS (ki : Nat → Int32) (sub : RS → Bool × RS) (s : RS) : Bool × RS := if (sub s).1 then lpP ki sub 160 (sub s).2 else (false, (sub s).2)
def cmpS (ki : Nat → Int32) (sub : RS → Bool × RS) (s : RS) : Bool × RS :=
  if (sub s).1 then (if nxt ki (sub s).2 60 then (if (sub (tkS (sub s).2)).1 then (true, wrS (-14) (sub (tkS (sub s).2)).2) else (false, (sub (tkS (sub s).2)).2))
    else if nxt ki (sub s).2 61 then (if (sub (tkS (sub s).2)).1 then (true, wrS (-15) (sub (tkS (sub s).2)).2) else (false, (sub (tkS (sub s).2)).2)) else (true, (sub s).2)) else (false, (sub s).2)
def denS (ki : Nat → Int32) (dn : Option (RS → Bool × RS)) (sm : RS → Bool × RS) (s : RS) : Bool × RS :=
  if nxt ki s 6 then (match dn with | none => (false, s) | some d => if (d (tkS s)).1 then (true, wrS (-10) (d (tkS s)).2) else (false, (d (tkS s)).2)) else cmpS ki sm s
def oneS (ki nu : Nat → Int32) (q : Option ((RS → Bool × RS) × (RS → Bool × RS))) (s : RS) : Bool × RS :=
  if ki s.1 = 45 then (match q with | none => (false, s) | some (_, o) => if (o (tkS s)).1 then (true, wrS (-11) (o (tkS s)).2) else (false, (o (tkS s)).2))
  else if ki s.1 = 40 then (match q with | none => (false, s) | some (e, _) => if (e (tkS s)).1 then (if nxt ki (e (tkS s)).2 41 then (true, tkS (e (tkS s)).2) else (false, (e (tkS s)).2)) else (false, (e (tkS s)).2))
  else if ki s.1 = 13 then (true, tkS (wrS (nu s.1) s)) else if inF (ki s.1) 7 12 then (true, tkS (wrS (-1 - (ki s.1 - 7)) s)) else (false, s)
/-- the readings with room for r more that are open: (of an E, of a NOT, of a ONE) -/
def termS (ki : Nat → Int32) (o : RS → Bool × RS) : RS → Bool × RS := seqS ki 42 o (-18)
def sumO (ki : Nat → Int32) (o : RS → Bool × RS) : RS → Bool × RS := sumS ki (termS ki o)
def denO (ki : Nat → Int32) (dn : Option (RS → Bool × RS)) (o : RS → Bool × RS) : RS → Bool × RS := denS ki dn (sumO ki o)
def botO (ki : Nat → Int32) (dn : Option (RS → Bool × RS)) (o : RS → Bool × RS) : RS → Bool × RS := seqS ki 5 (denO ki dn o) (-13)
def eitO (ki : Nat → Int32) (dn : Option (RS → Bool × RS)) (o : RS → Bool × RS) : RS → Bool × RS := seqS ki 4 (botO ki dn o) (-12)
def PT (ki nu : Nat → Int32) : Nat → (RS → Bool × RS) × (RS → Bool × RS) × (RS → Bool × RS)
  | 0 => (eitO ki none (oneS ki nu none), denO ki none (oneS ki nu none), oneS ki nu none)
  | r + 1 => (eitO ki (some (PT ki nu r).2.1) (oneS ki nu (some ((PT ki nu r).1, (PT ki nu r).2.2))), denO ki (some (PT ki nu r).2.1) (oneS ki nu (some ((PT ki nu r).1, (PT ki nu r).2.2))), oneS ki nu (some ((PT ki nu r).1, (PT ki nu r).2.2)))
/-- the tokens stand: nt of them, the last the end -/
def tokOK (μ : PM) (nt : Nat) : Prop := μ.1 6 2 = nI nt ∧ 1 ≤ nt ∧ nt ≤ 161 ∧ μ.1 8 (nt - 1) = 14
def rowL (co : Nat → Int32) (c : List Int32) : Prop := ∀ k v, c[k]? = some v → co k = v
def RI (nt : Nat) (s : RS) : Prop := s.1 < nt ∧ s.2.length ≤ 160
theorem rowL_push {co : Nat → Int32} {c : List Int32} {v : Int32} (h : rowL co c) : rowL (upd co c.length v) (c ++ [v]) := by
  intro k d hk
  by_cases e : k < c.length
  · rw [List.getElem?_append_left e] at hk
    rw [upd_o _ _ (by omega)]
    exact h k d hk
  · have e2 : k = c.length := by
      have := (List.getElem?_eq_some_iff.mp hk).1
      simp only [List.length_append, List.length_cons, List.length_nil] at this
      omega
    subst e2
    rw [List.getElem?_append_right (Nat.le_refl _), Nat.sub_self] at hk
    cases hk
    rw [upd_s]
theorem RI_tk {μ : PM} {nt : Nat} {s : RS} {kd : Int32} (ht : tokOK μ nt) (h : RI nt s) (hk : nxt (μ.1 8) s kd = true) (hd : kd ≠ 14) : RI nt (tkS s) := by
  refine ⟨?_, h.2⟩
  have h1 : s.1 ≠ nt - 1 := by
    intro e
    have hk2 := of_decide_eq_true hk
    rw [e, ht.2.2.2] at hk2
    exact hd hk2.symm
  have h2 := h.1
  show s.1 + 1 < nt
  omega
theorem RI_tk2 {μ : PM} {nt : Nat} {s : RS} (ht : tokOK μ nt) (h : RI nt s) (hd : μ.1 8 s.1 ≠ 14) : RI nt (tkS s) := by
  refine ⟨?_, h.2⟩
  have h1 : s.1 ≠ nt - 1 := by
    intro e
    rw [e, ht.2.2.2] at hd
    exact hd rfl
  have h2 := h.1
  show s.1 + 1 < nt
  omega
theorem RI_wr {nt : Nat} {c : Int32} {s : RS} (h : RI nt s) : RI nt (wrS c s) := by
  unfold wrS
  split
  · rename_i h1
    exact ⟨h.1, by show (s.2 ++ [c]).length ≤ 160; rw [List.length_append]; show s.2.length + 1 ≤ 160; omega⟩
  · exact h
set_option maxHeartbeats 4000000 in
set_option maxRecDepth 100000 in
theorem T_X2_isNext {l : Launch} {μ : PM} {nt : Nat} {s : RS} {co : Nat → Int32} {kd : Int32} (ht : tokOK μ nt) (hs : RI nt s) (hc : rowL co s.2) : CT l SC yX2_isNext cX2_isNext 2 (some .boolean) 1 [.ref 6, .int kd] (pM μ (nI s.1) (nI s.2.length) co) (QI fun x m => x = b2 (nxt (μ.1 8) s kd) ∧ m = pM μ (nI s.1) (nI s.2.length) co) := by
  refine CT.of rfl (Nat.le_of_ble_eq_true rfl) ?_
  show PW l SC RX2 cX2_isNext 2 (some .boolean) 1 _ 0 [(0, .ref 6), (1, .int kd)] [] (pM μ (nI s.1) (nI s.2.length) co)
  obtain ⟨t1, t2, t3, t4⟩ := id ht
  have hs1 := hs.1
  refine pw_aload_n dX2_isNext_0 rfl rfl ?_
  refine pw_getI dX2_isNext_1 fa_X2_31 rfl ?_
  refine pw_top (y := nI s.1) rfl ?_
  refine pw_aload_n dX2_isNext_4 rfl rfl ?_
  refine pw_getI dX2_isNext_5 fa_X2_19 rfl ?_
  refine pw_top (y := nI nt) t1 ?_
  refine pw_icmp_ge (tgt := 28) dX2_isNext_8 (by decide) (fun c_8 => ?_) (fun c_8 => ?_)
  · skip
    exact absurd c_8 (nI_ge hs1 (by omega))
  · skip
    refine pw_aload_n dX2_isNext_11 rfl rfl ?_
    refine pw_getR dX2_isNext_12 fa_X2_22 rfl ?_
    refine pw_aload_n dX2_isNext_15 rfl rfl ?_
    refine pw_getI dX2_isNext_16 fa_X2_31 rfl ?_
    refine pw_iald (j := s.1) dX2_isNext_19 rfl rfl (by omega) ?_
    refine pw_top (y := μ.1 8 s.1) rfl ?_
    refine pw_iload_n dX2_isNext_20 rfl rfl ?_
    refine pw_icmp_ne (tgt := 28) dX2_isNext_21 (by decide) (fun c_21 => ?_) (fun c_21 => ?_)
    · skip
      refine pw_iconst (v := 0) dX2_isNext_28 rfl ?_
      refine pw_zret dX2_isNext_29 rfl (by simp) ?_
      exact ⟨by unfold nxt; rw [decide_eq_false c_21]; rfl, rfl⟩
    · skip
      refine pw_iconst (v := 1) dX2_isNext_24 rfl ?_
      refine pw_goto (tgt := 29) dX2_isNext_25 (by decide) ?_
      refine pw_zret dX2_isNext_29 rfl (by simp) ?_
      exact ⟨by unfold nxt; rw [decide_eq_true c_21]; rfl, rfl⟩

set_option maxHeartbeats 4000000 in
set_option maxRecDepth 100000 in
theorem T_X2_take {l : Launch} {μ : PM} {nt : Nat} {s : RS} {co : Nat → Int32} {kd : Int32} (ht : tokOK μ nt) (hs : RI nt s) (hc : rowL co s.2) : CT l SC yX2_take cX2_take 3 (some .boolean) 2 [.ref 6, .int kd] (pM μ (nI s.1) (nI s.2.length) co) (QI fun x m => x = b2 (nxt (μ.1 8) s kd) ∧ m = pM μ (nI (if nxt (μ.1 8) s kd then s.1 + 1 else s.1)) (nI s.2.length) co) := by
  refine CT.of rfl (Nat.le_of_ble_eq_true rfl) ?_
  show PW l SC RX2 cX2_take 3 (some .boolean) 2 _ 0 [(0, .ref 6), (1, .int kd)] [] (pM μ (nI s.1) (nI s.2.length) co)
  refine pw_aload_n dX2_take_0 rfl rfl ?_
  refine pw_iload_n dX2_take_1 rfl rfl ?_
  refine pw_cVi dX2_take_2 mv_X2_57 ckReader (T_X2_isNext ht hs hc) rfl rfl (Nat.le_of_ble_eq_true rfl) (by decide) (fun x_2 m_2 h_2 => ?_)
  obtain ⟨rfl, rfl⟩ := h_2
  refine pw_istore_n (ls2 := [(2, _), (0, _), (1, _)]) dX2_take_5 rfl (by decide) rfl ?_
  refine pw_iload_n dX2_take_6 rfl rfl ?_
  refine pw_if_eq (tgt := 20) dX2_take_7 (by decide) (fun c_7 => ?_) (fun c_7 => ?_)
  · skip
    have hb := b2_0 c_7
    skip
    refine pw_iload_n dX2_take_20 rfl rfl ?_
    refine pw_zret dX2_take_21 rfl (b2_01 _) ?_
    exact ⟨rfl, by rw [hb]; rfl⟩
  · skip
    have hb := b2_n c_7
    refine pw_aload_n dX2_take_10 rfl rfl ?_
    refine pw_dup dX2_take_11 rfl ?_
    refine pw_getI dX2_take_12 fa_X2_31 rfl ?_
    refine pw_top (y := nI s.1) rfl ?_
    refine pw_iconst (v := 1) dX2_take_15 rfl ?_
    refine pw_iadd dX2_take_16 ?_
    refine pw_top (y := nI (s.1 + 1)) (nI_1 s.1) ?_
    refine pw_putI dX2_take_17 fa_X2_31 rfl ?_
    refine pw_mem pM_a ?_
    refine pw_iload_n dX2_take_20 rfl rfl ?_
    refine pw_zret dX2_take_21 rfl (b2_01 _) ?_
    exact ⟨rfl, by rw [hb, if_pos rfl]⟩

set_option maxHeartbeats 4000000 in
set_option maxRecDepth 100000 in
theorem T_X2_write {l : Launch} {μ : PM} {s : RS} {co : Nat → Int32} {c : Int32} (hl : s.2.length ≤ 160) (hc : rowL co s.2) : CT l SC yX2_write cX2_write 2 (some .boolean) 1 [.ref 6, .int c] (pM μ (nI s.1) (nI s.2.length) co) (QI fun x m => x = 1 ∧ ∃ co2, m = pM μ (nI (wrS c s).1) (nI (wrS c s).2.length) co2 ∧ rowL co2 (wrS c s).2) := by
  refine CT.of rfl (Nat.le_of_ble_eq_true rfl) ?_
  show PW l SC RX2 cX2_write 2 (some .boolean) 1 _ 0 [(0, .ref 6), (1, .int c)] [] (pM μ (nI s.1) (nI s.2.length) co)
  refine pw_aload_n dX2_write_0 rfl rfl ?_
  refine pw_getI dX2_write_1 fa_X2_34 rfl ?_
  refine pw_top (y := nI s.2.length) rfl ?_
  refine pw_sipush (v := 160) dX2_write_4 rfl ?_
  refine pw_icmp_ge (tgt := 30) dX2_write_7 (by decide) (fun c_7 => ?_) (fun c_7 => ?_)
  · skip
    have hge := nI_geD (n := 160) (by decide) c_7
    skip
    refine pw_iconst (v := 1) dX2_write_30 rfl ?_
    refine pw_zret dX2_write_31 rfl (by simp) ?_
    exact ⟨rfl, co, by unfold wrS; rw [if_neg (by omega)], by unfold wrS; rw [if_neg (by omega)]; exact hc⟩
  · skip
    have hlt := nI_ltD (n := 160) (by omega) c_7
    refine pw_aload_n dX2_write_10 rfl rfl ?_
    refine pw_getR dX2_write_11 fa_X2_37 rfl ?_
    refine pw_aload_n dX2_write_14 rfl rfl ?_
    refine pw_getI dX2_write_15 fa_X2_34 rfl ?_
    refine pw_iload_n dX2_write_18 rfl rfl ?_
    skip
    refine pw_iast (j := s.2.length) dX2_write_19 rfl rfl (by omega) ?_
    refine pw_mem pM_co ?_
    refine pw_aload_n dX2_write_20 rfl rfl ?_
    refine pw_dup dX2_write_21 rfl ?_
    refine pw_getI dX2_write_22 fa_X2_34 rfl ?_
    refine pw_top (y := nI s.2.length) rfl ?_
    refine pw_iconst (v := 1) dX2_write_25 rfl ?_
    refine pw_iadd dX2_write_26 ?_
    refine pw_top (y := nI (s.2.length + 1)) (nI_1 _) ?_
    refine pw_putI dX2_write_27 fa_X2_34 rfl ?_
    refine pw_mem pM_c ?_
    refine pw_iconst (v := 1) dX2_write_30 rfl ?_
    refine pw_zret dX2_write_31 rfl (by simp) ?_
    exact ⟨rfl, _, by unfold wrS; rw [if_pos hlt, List.length_append]; rfl, by unfold wrS; rw [if_pos hlt]; exact rowL_push hc⟩

