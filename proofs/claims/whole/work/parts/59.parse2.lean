/-! the class's readings and the model's, token by token -/
def kds : List Int32 := [0, 1, 2, 3, 4, 5, 6, 7, 8, 9, 10, 11, 12, 13, 14, 40, 41, 59, 43, 45, 42, 60, 61]
def tOf (k : Int32) : Int32 := if k = 0 then -1 else if k = 14 then 0 else if k = 13 then 1 else if inF k 7 12 then 2 else if inF k 1 3 then 3 else k
def mdR (k num T V : Int32) : Prop := k ∈ kds ∧ T = tOf k ∧ (inF k 1 3 = true → V = k - 1) ∧ (inF k 7 12 = true → V = k - 7) ∧ (k = 13 → V = num ∧ 0 ≤ num ∧ num ≤ 9999)
def TOK (ki nu : Nat → Int32) (D : Nat → List MT) (tk : Nat → MT) (nt : Nat) : Prop := nt ≤ 161 ∧ 1 ≤ nt ∧ ki (nt - 1) = 14 ∧ (∀ i, i < nt → mdR (ki i) (nu i) (tk i).2.2.1 (tk i).2.2.2) ∧ ∀ i, i < nt → D i = tk i :: D (i + 1)
def OKC (ki : Nat → Int32) (D : Nat → List MT) (R : Bool × List MT × List Int32) (i : Nat) (r : Int32) (hs : List Int32) (op : Nat) (code : List Int32) (st : Int32 → Prop) (cp : Bool) : Prop :=
  ∃ h2 o2 w2, simR R (eL (D i) false true h2 o2 w2) ∧ unw r h2 o2 w2 = unw r hs (nI op) (code.map mcF) ∧ st (ki i) ∧ (cp = true → ki i = 60 ∨ ki i = 61 → ∃ x, simR (eL (D i) false true h2 o2 w2) (false, D i, x))
def MNC (md mn : Bool) (k : Int32) : Prop := if md = true then mn = true else (mn = true → k ≠ 6)
def RES (ki : Nat → Int32) (D : Nat → List MT) (nt : Nat) (q : Bool × RS) (R : Bool × List MT × List Int32) (i : Nat) (code : List Int32) (r : Int32) (hs : List Int32) (op K : Nat) (st : Int32 → Prop) (cp : Bool) : Prop :=
  (q.1 = false → q.2.1 < nt ∧ ∃ x, simR R (false, D q.2.1, x)) ∧ (q.1 = true → ∃ seg, q.2.2 = code ++ seg ∧ i < q.2.1 ∧ q.2.1 < nt ∧ seg.length + i ≤ q.2.1 ∧ SegK K seg ∧ OKC ki D R q.2.1 r hs op (code ++ seg) st cp)
def CLM (ki : Nat → Int32) (D : Nat → List MT) (nt : Nat) (P : RS → Bool × RS) (op : Nat) (r tl : Int32) (K : Nat) (st : Int32 → Prop) (cp md : Bool) : Prop :=
  ∀ (i : Nat) (code hs : List Int32) (mn : Bool), i < nt → code.length ≤ i → topLt tl hs → MNC md mn (ki i) → RES ki D nt (P (i, code)) (eL (D i) true mn hs (nI op) (code.map mcF)) i code r hs op K st cp
theorem nt_1 {ki nu : Nat → Int32} {D : Nat → List MT} {tk : Nat → MT} {nt i : Nat} (ht : TOK ki nu D tk nt) (hi : i < nt) (hk : ki i ≠ 14) : i + 1 < nt := by
  have h : i ≠ nt - 1 := fun e => hk (by rw [e]; exact ht.2.2.1)
  omega
theorem wr_ok {c : Int32} {i : Nat} {code : List Int32} (h : code.length < 160) : wrS c (i, code) = (i, code ++ [c]) := if_pos h
theorem topLt_8 : ∀ hs : List Int32, topLt 8 hs
  | [] => trivial
  | s :: _ => by
    show rkF s < 8
    unfold rkF
    repeat (first | decide | (split <;> try decide))
theorem RES_f {ki : Nat → Int32} {D : Nat → List MT} {nt : Nat} {q : RS} {R : Bool × List MT × List Int32} {i op K : Nat} {code hs : List Int32} {r : Int32} {st : Int32 → Prop} {cp : Bool} (h1 : q.1 < nt) {x : List Int32} (h2 : simR R (false, D q.1, x)) : RES ki D nt (false, q) R i code r hs op K st cp := ⟨fun _ => ⟨h1, x, h2⟩, fun h => absurd h Bool.false_ne_true⟩
theorem RES_t {ki : Nat → Int32} {D : Nat → List MT} {nt : Nat} {R : Bool × List MT × List Int32} {i j op K : Nat} {code seg hs : List Int32} {r : Int32} {st : Int32 → Prop} {cp : Bool} (h1 : i < j) (h2 : j < nt) (h3 : seg.length + i ≤ j) (h4 : SegK K seg) (h5 : OKC ki D R j r hs op (code ++ seg) st cp) : RES ki D nt (true, (j, code ++ seg)) R i code r hs op K st cp := ⟨fun h => absurd h.symm Bool.false_ne_true, fun _ => ⟨seg, rfl, h1, h2, h3, h4, h5⟩⟩
theorem kd_T1 : ∀ k ∈ kds, tOf k = 1 → k = 13 := by decide +kernel
theorem kd_T2 : ∀ k ∈ kds, tOf k = 2 → inF k 7 12 = true := by decide +kernel
theorem kd_T6 : ∀ k ∈ kds, tOf k = 6 → k = 6 := by decide +kernel
theorem kd_T45 : ∀ k ∈ kds, tOf k = 45 → k = 45 := by decide +kernel
theorem kd_T40 : ∀ k ∈ kds, tOf k = 40 → k = 40 := by decide +kernel
theorem kd_T59 : ∀ k ∈ kds, tOf k = 59 → k = 59 := by decide +kernel
theorem kd_T41 : ∀ k ∈ kds, tOf k = 41 → k = 41 := by decide +kernel
theorem kd_nam : ∀ k ∈ kds, inF k 7 12 = true → tOf k = 2 ∧ k ≠ 14 ∧ mcF (-1 - (k - 7)) = k - 7 ∧ -6 ≤ -1 - (k - 7) ∧ encF (-1 - (k - 7)) (mcF (-1 - (k - 7))) := by
  unfold encF
  decide +kernel
theorem kd_sg1 : ∀ k ∈ kds, k ∈ ([4, 5, 60, 61, 43, 45, 42] : List Int32) ∨ sgF (tOf k) = -1 := by decide +kernel
theorem kd_sg0 (k : Int32) (hk : k ∈ kds) (h1 : k ≠ 4) (h2 : k ≠ 5) (h3 : k ≠ 60) (h4 : k ≠ 61) (h5 : k ≠ 43) (h6 : k ≠ 45) (h7 : k ≠ 42) : sgF (tOf k) = -1 := by
  rcases kd_sg1 k hk with h | h
  · simp only [List.mem_cons, List.not_mem_nil, or_false] at h
    rcases h with h | h | h | h | h | h | h
    · exact absurd h h1
    · exact absurd h h2
    · exact absurd h h3
    · exact absurd h h4
    · exact absurd h h5
    · exact absurd h h6
    · exact absurd h h7
  · exact h
theorem num_mc {x : Int32} (h : 0 ≤ x) : mcF x = x + 100000 ∧ -6 ≤ x := ⟨if_pos h, Int32.le_trans (by decide) h⟩
theorem nI_o5 {op : Nat} (h : op ≤ 5) : nI op = 5 ↔ op = 5 := nI_eq (b := 5) (by omega) (by decide)
theorem map_p (code : List Int32) (c : Int32) : (code ++ [c]).map mcF = code.map mcF ++ [mcF c] := by
  rw [List.map_append]
  rfl
theorem one_c {ki nu : Nat → Int32} {D : Nat → List MT} {tk : Nat → MT} {nt : Nat} (ht : TOK ki nu D tk nt) {op K : Nat} (hop : op ≤ 5) (hK : 1 ≤ K) {q : Option ((RS → Bool × RS) × (RS → Bool × RS))}
    (h0 : q = none → op = 5) (h1 : ∀ e o, q = some (e, o) → op < 5 ∧ CLM ki D nt e (op + 1) 1 1 K (fun k => k ≠ 42 ∧ k ≠ 43 ∧ k ≠ 45 ∧ k ≠ 5 ∧ k ≠ 4) true true ∧ CLM ki D nt o (op + 1) 7 8 K (fun _ => True) false false) : CLM ki D nt (oneS ki nu q) op 7 8 K (fun _ => True) false false := by
  intro i code hs mn hi hc _ hm
  have hm : mn = true → ki i ≠ 6 := hm
  obtain ⟨g1, g2, g3, g4, g5⟩ := id ht
  obtain ⟨m1, m2, m3, m4, m5⟩ := g4 i hi
  have hDi := g5 i hi
  by_cases k45 : ki i = 45
  · have hT : (tk i).2.2.1 = 45 := by rw [m2, k45]; decide
    have hi1 := nt_1 ht hi (by rw [k45]; decide)
    cases q with
    | none =>
      have e : oneS ki nu none (i, code) = (false, (i, code)) := by unfold oneS; rw [if_pos k45]
      rw [e]
      refine RES_f hi (x := code.map mcF) (simR.of ?_)
      rw [hDi, eT_neg hT, if_pos ((nI_o5 hop).mpr (h0 rfl))]
    | some eo =>
      obtain ⟨e0, o⟩ := eo
      obtain ⟨hlt, _, ho⟩ := h1 e0 o rfl
      have ho1 := ho (i + 1) code (19 :: hs) false hi1 (by omega) (topLt_8 _) (fun h => absurd h Bool.false_ne_true)
      obtain ⟨⟨b, j, c2⟩, hp⟩ : ∃ p, p = o (i + 1, code) := ⟨_, rfl⟩
      rw [← hp] at ho1
      have hE : eL (D i) true mn hs (nI op) (code.map mcF) = eL (D (i + 1)) true false (19 :: hs) (nI (op + 1)) (code.map mcF) := by
        rw [hDi, eT_neg hT, if_neg (fun z => absurd ((nI_o5 hop).mp z) (by omega))]
        rw [show nI op + 1 = nI (op + 1) from nI_1 op]
      rw [hE]
      have e : oneS ki nu (some (e0, o)) (i, code) = if b = true then (true, wrS (-11) (j, c2)) else (false, (j, c2)) := by
        unfold oneS
        rw [if_pos k45]
        show (if (o (i + 1, code)).1 = true then _ else _) = _
        rw [show tkS (i, code) = (i + 1, code) from rfl, ← hp]
      rw [e]
      cases b with
      | false =>
        rw [if_neg Bool.false_ne_true]
        obtain ⟨a1, x, a2⟩ := ho1.1 rfl
        exact RES_f a1 a2
      | true =>
        rw [if_pos rfl]
        obtain ⟨seg, s1, s2, s3, s4, s5, h2, o2, w2, t1, t2, _⟩ := ho1.2 rfl
        change c2 = code ++ seg at s1
        change i + 1 < j at s2
        change j < nt at s3
        change seg.length + (i + 1) ≤ j at s4
        change simR _ (eL (D j) false true h2 o2 w2) at t1
        subst s1
        rw [wr_ok (by rw [List.length_append]; omega), List.append_assoc]
        refine RES_t (by omega) s3 (by rw [List.length_append]; simp only [List.length_cons, List.length_nil]; omega) (SegK.un s5 (by decide) (by decide) (enc_b rfl (by decide))) ⟨h2, o2, w2, t1, ?_, trivial, fun z => absurd z Bool.false_ne_true⟩
        rw [t2, unw_ps (by decide), ← List.append_assoc, map_p]
        rw [show nI (op + 1) - opF 19 = nI op from nI_pred op]
        rfl
  · by_cases k40 : ki i = 40
    · have hT : (tk i).2.2.1 = 40 := by rw [m2, k40]; decide
      have hi1 := nt_1 ht hi (by rw [k40]; decide)
      cases q with
      | none =>
        have e : oneS ki nu none (i, code) = (false, (i, code)) := by unfold oneS; rw [if_neg k45, if_pos k40]
        rw [e]
        refine RES_f hi (x := code.map mcF) (simR.of ?_)
        rw [hDi, eT_par hT, if_pos ((nI_o5 hop).mpr (h0 rfl))]
      | some eo =>
        obtain ⟨e0, o⟩ := eo
        obtain ⟨hlt, he, _⟩ := h1 e0 o rfl
        have ho1 := he (i + 1) code (0 :: hs) true hi1 (by omega) (show rkF 0 < 1 by decide) (show true = true from rfl)
        obtain ⟨⟨b, j, c2⟩, hp⟩ : ∃ p, p = e0 (i + 1, code) := ⟨_, rfl⟩
        rw [← hp] at ho1
        have hE : eL (D i) true mn hs (nI op) (code.map mcF) = eL (D (i + 1)) true true (0 :: hs) (nI (op + 1)) (code.map mcF) := by
          rw [hDi, eT_par hT, if_neg (fun z => absurd ((nI_o5 hop).mp z) (by omega))]
          rw [show nI op + 1 = nI (op + 1) from nI_1 op]
        rw [hE]
        have e : oneS ki nu (some (e0, o)) (i, code) = if b = true then (if nxt ki (j, c2) 41 = true then (true, tkS (j, c2)) else (false, (j, c2))) else (false, (j, c2)) := by
          unfold oneS
          rw [if_neg k45, if_pos k40]
          show (if (e0 (i + 1, code)).1 = true then _ else _) = _
          rw [show tkS (i, code) = (i + 1, code) from rfl, ← hp]
        rw [e]
        cases b with
        | false =>
          rw [if_neg Bool.false_ne_true]
          obtain ⟨a1, x, a2⟩ := ho1.1 rfl
          exact RES_f a1 a2
        | true =>
          rw [if_pos rfl]
          obtain ⟨seg, s1, s2, s3, s4, s5, h2, o2, w2, t1, t2, t3, t4⟩ := ho1.2 rfl
          change c2 = code ++ seg at s1
          change i + 1 < j at s2
          change j < nt at s3
          change seg.length + (i + 1) ≤ j at s4
          change simR _ (eL (D j) false true h2 o2 w2) at t1
          change ki j ≠ 42 ∧ ki j ≠ 43 ∧ ki j ≠ 45 ∧ ki j ≠ 5 ∧ ki j ≠ 4 at t3
          change true = true → ki j = 60 ∨ ki j = 61 → ∃ x, simR (eL (D j) false true h2 o2 w2) (false, D j, x) at t4
          subst s1
          rw [unw_top (show topLt 1 (0 :: hs) from (show rkF 0 < 1 by decide))] at t2
          obtain ⟨n1, n2, n3, n4, n5⟩ := g4 j s3
          have hDj := g5 j s3
          by_cases k41 : ki j = 41
          · have hTj : (tk j).2.2.1 = 41 := by rw [n2, k41]; decide
            have hj1 := nt_1 ht s3 (by rw [k41]; decide)
            rw [show nxt ki (j, code ++ seg) 41 = true from decide_eq_true k41, if_pos rfl]
            refine RES_t (seg := seg) (by omega) hj1 (by omega) s5 ⟨_, _, _, t1.trans (simR.of (by rw [hDj, eF_41 hTj t2])), ?_, trivial, fun z => absurd z Bool.false_ne_true⟩
            rw [unw_unw (Int32.le_refl 7), show nI (op + 1) - 1 = nI op from nI_pred op]
          · rw [show nxt ki (j, code ++ seg) 41 = false from decide_eq_false k41, if_neg Bool.false_ne_true]
            have hTj1 : ¬ (tk j).2.2.1 = 41 := fun z => k41 (kd_T41 _ n1 (n2.symm.trans z))
            by_cases k59 : ki j = 59
            · have hTj : (tk j).2.2.1 = 59 := by rw [n2, k59]; decide
              refine RES_f (q := (j, code ++ seg)) s3 (t1.trans (simR.of ?_)) (x := (unw 1 h2 o2 w2).2.2)
              rw [hDj, eF_59 hTj, t2]
              rfl
            · have hTj2 : ¬ (tk j).2.2.1 = 59 := fun z => k59 (kd_T59 _ n1 (n2.symm.trans z))
              by_cases k60 : ki j = 60 ∨ ki j = 61
              · obtain ⟨x, t5⟩ := t4 rfl k60
                exact RES_f (q := (j, code ++ seg)) s3 (t1.trans t5)
              · have hsg : sgF (tk j).2.2.1 = -1 := by rw [n2]; exact kd_sg0 _ n1 t3.2.2.2.2 t3.2.2.2.1 (fun z => k60 (Or.inl z)) (fun z => k60 (Or.inr z)) t3.2.1 t3.2.2.1 t3.1
                refine RES_f (q := (j, code ++ seg)) s3 (t1.trans (simR.of ?_)) (x := w2)
                rw [hDj, eF_no hTj2 hTj1 hsg]
    · by_cases k13 : ki i = 13
      · have hT : (tk i).2.2.1 = 1 := by rw [m2, k13]; decide
        obtain ⟨v1, v2, v3⟩ := m5 k13
        have hi1 := nt_1 ht hi (by rw [k13]; decide)
        have e : oneS ki nu q (i, code) = (true, (i + 1, code ++ [nu i])) := by
          unfold oneS
          rw [if_neg k45, if_neg k40, if_pos k13]
          show (true, tkS (wrS (nu i) (i, code))) = _
          rw [wr_ok (by omega)]
          rfl
        rw [e]
        have hmc := num_mc v2
        refine RES_t (by omega) hi1 (by simp only [List.length_cons, List.length_nil]; omega) (SegK.mono (SegK.one hmc.2 (by rw [hmc.1]; exact Or.inl ⟨v2, v3, rfl⟩)) hK) ⟨_, _, _, simR.of (by rw [hDi, eT_num (Or.inl ⟨hT, rfl⟩)]; exact eL_mn _ _ _ _ _ _), ?_, trivial, fun z => absurd z Bool.false_ne_true⟩
        rw [unw_unw (Int32.le_refl 7), map_p, hmc.1, v1, Int32.add_comm 100000 (nu i)]
      · by_cases knm : inF (ki i) 7 12 = true
        · obtain ⟨n1, n2, n3, n4, n5⟩ := kd_nam _ m1 knm
          have hT : (tk i).2.2.1 = 2 := m2.trans n1
          have hi1 := nt_1 ht hi n2
          have e : oneS ki nu q (i, code) = (true, (i + 1, code ++ [-1 - (ki i - 7)])) := by
            unfold oneS
            rw [if_neg k45, if_neg k40, if_neg k13, if_pos knm]
            show (true, tkS (wrS (-1 - (ki i - 7)) (i, code))) = _
            rw [wr_ok (by omega)]
            rfl
          rw [e]
          refine RES_t (by omega) hi1 (by simp only [List.length_cons, List.length_nil]; omega) (SegK.mono (SegK.one n4 n5) hK) ⟨_, _, _, simR.of (by rw [hDi, eT_num (Or.inr ⟨hT, rfl⟩)]; exact eL_mn _ _ _ _ _ _), ?_, trivial, fun z => absurd z Bool.false_ne_true⟩
          rw [unw_unw (Int32.le_refl 7), map_p, n3, m4 knm]
        · have e : oneS ki nu q (i, code) = (false, (i, code)) := by
            unfold oneS
            rw [if_neg k45, if_neg k40, if_neg k13, if_neg knm]
          rw [e]
          refine RES_f hi (x := code.map mcF) (simR.of ?_)
          rw [hDi, eT_no (fun z => k13 (kd_T1 _ m1 (m2.symm.trans z))) (fun z => knm (kd_T2 _ m1 (m2.symm.trans z))) (fun z y => hm z (kd_T6 _ m1 (m2.symm.trans y))) (fun z => k45 (kd_T45 _ m1 (m2.symm.trans z))) (fun z => k40 (kd_T40 _ m1 (m2.symm.trans z)))]
