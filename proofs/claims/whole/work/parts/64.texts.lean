/-! the two readings of a TEXT -/
/-- the ends es of the parts in the steps, each part a run that puts one value -/
def PTS (code : List Int32) (es : List Nat) : Prop := ∀ (p e : Nat), es[p]? = some e → ∃ (a seg b : List Int32), code = a ++ seg ++ b ∧ (0 :: es)[p]? = some a.length ∧ a.length + seg.length = e ∧ SegK 36 seg
theorem PTS_push {code seg : List Int32} {es : List Nat} (h : PTS code es) (hl : (0 :: es)[es.length]? = some code.length) (hs : SegK 36 seg) : PTS (code ++ seg) (es ++ [(code ++ seg).length]) := by
  intro p e hp
  by_cases q : p < es.length
  · rw [List.getElem?_append_left q] at hp
    obtain ⟨a, sg, b, e1, e2, e3, e4⟩ := h p e hp
    refine ⟨a, sg, b ++ seg, by rw [e1]; simp only [List.append_assoc], ?_, e3, e4⟩
    rw [← e2]
    show (0 :: es ++ [_])[p]? = _
    rw [List.getElem?_append_left (by show p < es.length + 1; omega)]
  · have hp2 : p = es.length := by
      have := (List.getElem?_eq_some_iff.mp hp).1
      simp only [List.length_append, List.length_cons, List.length_nil] at this
      omega
    subst hp2
    rw [List.getElem?_append_right (Nat.le_refl _), Nat.sub_self] at hp
    cases hp
    refine ⟨code, seg, [], by rw [List.append_nil], ?_, by rw [List.length_append], hs⟩
    rw [← hl]
    show (0 :: es ++ [_])[es.length]? = _
    rw [List.getElem?_append_left (by show es.length < es.length + 1; omega)]
theorem kd_T3 : ∀ k ∈ kds, tOf k = 3 → inF k 1 3 = true := by decide +kernel
theorem kd_123 : ∀ p, p < 3 → tOf (1 + nI p) = 3 ∧ inF (1 + nI p) 1 3 = true ∧ (1 : Int32) + nI p - 1 = nI p ∧ 1 + nI p ≠ 14 := by decide +kernel
theorem kd_T0 : ∀ k ∈ kds, tOf k = 0 → k = 14 := by decide +kernel
theorem sub1 {k x : Int32} (h : k - 1 = x) : k = 1 + x := by
  rw [← h, Int32.add_comm, Int32.sub_add_cancel]
theorem key_eq {k num T V : Int32} {p : Nat} (hp : p < 3) (h : mdR k num T V) : (T = 3 ∧ V = nI p) ↔ k = 1 + nI p := by
  obtain ⟨h1, h2, h3, _⟩ := h
  constructor
  · rintro ⟨rfl, e⟩
    have g := kd_T3 k h1 h2.symm
    exact sub1 ((h3 g).symm.trans e)
  · rintro rfl
    obtain ⟨g1, g2, g3, _⟩ := kd_123 p hp
    exact ⟨h2.trans g1, (h3 g2).trans g3⟩
/-- what the two hold of each other at their ends -/
def TXR (tk : Nat → MT) (wd f : Nat → Int32) (n : Nat) (Y : Bool × RS × List Nat) (X : TX) : Prop :=
  txG wd f n X = Y.1 ∧ (Y.1 = false → txB f n X = (tk Y.2.1.1).1) ∧ (Y.1 = true → X.2.2.2.1 = Y.2.1.2.map mcF ∧ X.2.2.2.2 ++ [Y.2.1.2.length] = 0 :: Y.2.2 ∧ Y.2.2.length = 3 ∧ PTS Y.2.1.2 Y.2.2 ∧ Y.2.1.2.length ≤ 160)
theorem rd_tx {wd f ki nu : Nat → Int32} {n nt : Nat} (ht : TOK ki nu (mtD wd f n) (mtG wd f n) nt) : ∀ (m k i pos : Nat) (code : List Int32) (es ss : List Nat), k + m = 3 → i < nt → pos ≤ n → mtD wd f n i = mtA wd f n pos → code.length ≤ i → es.length = k → ss ++ [code.length] = 0 :: es → PTS code es →
    TXR (mtG wd f n) wd f n (rdL ki (PT ki nu 5).1 m k (i, code) es) (txL wd f n m k pos (code.map mcF) ss)
  | 0, k, i, pos, code, es, ss, hkm, hi, hpos, hD, hc, hel, hss, hP => by
    obtain ⟨g1, g2, g3, g4, g5⟩ := id ht
    obtain ⟨m1, m2, m3, m4, m5⟩ := g4 i hi
    have hg := g5 i hi
    rw [hD, mtA_c hpos] at hg
    injection hg with hg1 _
    have hT : (mtG wd f n i).2.2.1 = nxT wd f n (nxQ f n pos) := by rw [← hg1]
    have hB : (mtG wd f n i).1 = nxQ f n pos := by rw [← hg1]
    show TXR _ wd f n (nxt ki (i, code) 14, (i, code), es) (true, pos, 0, code.map mcF, ss)
    refine ⟨?_, fun _ => ?_, fun _ => ⟨rfl, hss, by show es.length = 3; omega, hP, by show code.length ≤ 160; omega⟩⟩
    · show (true && decide (nxT wd f n (nxQ f n pos) = 0)) = decide (ki i = 14)
      rw [Bool.true_and, ← hT]
      by_cases e : ki i = 14
      · rw [decide_eq_true e, decide_eq_true (by rw [m2, e]; decide)]
      · rw [decide_eq_false e, decide_eq_false (fun z => e (kd_T0 _ m1 (m2.symm.trans z)))]
    · show (if true = true then nxQ f n pos else _) = _
      rw [if_pos rfl]
      exact hB.symm
  | m + 1, k, i, pos, code, es, ss, hkm, hi, hpos, hD, hc, hel, hss, hP => by
    obtain ⟨g1, g2, g3, g4, g5⟩ := id ht
    have hmd := g4 i hi
    have hg := g5 i hi
    have hg' := hg
    rw [hD, mtA_c hpos] at hg
    injection hg with hg1 hg2
    have hT : (mtG wd f n i).2.2.1 = nxT wd f n (nxQ f n pos) := by rw [← hg1]
    have hV : (mtG wd f n i).2.2.2 = nxV wd f n (nxQ f n pos) := by rw [← hg1]
    have hB : (mtG wd f n i).1 = nxQ f n pos := by rw [← hg1]
    have hk3 : k < 3 := by omega
    have hkey := key_eq hk3 hmd
    rw [hT, hV] at hkey
    have hX : txL wd f n (m + 1) k pos (code.map mcF) ss = if nxT wd f n (nxQ f n pos) = 3 ∧ nxV wd f n (nxQ f n pos) = nI k then
      (if (exR wd f n (nxE f n (nxQ f n pos)) (code.map mcF)).1 = true then txL wd f n m (k + 1) (exT (exR wd f n (nxE f n (nxQ f n pos)) (code.map mcF))).2.1 (exR wd f n (nxE f n (nxQ f n pos)) (code.map mcF)).2.2 (ss ++ [(code.map mcF).length])
        else (false, (exT (exR wd f n (nxE f n (nxQ f n pos)) (code.map mcF))).2.1, (exT (exR wd f n (nxE f n (nxQ f n pos)) (code.map mcF))).1, (exR wd f n (nxE f n (nxQ f n pos)) (code.map mcF)).2.2, ss ++ [(code.map mcF).length]))
      else (false, nxE f n (nxQ f n pos), nxQ f n pos, code.map mcF, ss ++ [(code.map mcF).length]) := rfl
    by_cases hk : ki i = 1 + nI k
    · have hi1 := nt_1 ht hi (by rw [hk]; exact (kd_123 k hk3).2.2.2)
      have hqn : ¬ nxQ f n pos = n := fun e => by
        have h3 := (hkey.mpr hk).1
        rw [e, nxT_n] at h3
        exact absurd h3 (by decide)
      have hqb := nxQ_b (f := f) hpos
      have hEb := nxE_b (f := f) (show nxQ f n pos < n by omega)
      rw [if_neg hqn] at hg2
      rw [hX, if_pos (hkey.mpr hk)]
      unfold exR
      rw [hg2]
      have hcl := (PT_c ht 5 (Nat.le_refl _)).1 (i + 1) code [] true hi1 (by omega) trivial (show true = true from rfl)
      obtain ⟨R, hR⟩ : ∃ R, R = eL (mtD wd f n (i + 1)) true true [] 0 (code.map mcF) := ⟨_, rfl⟩
      change RES ki (mtD wd f n) nt ((PT ki nu 5).1 (i + 1, code)) (eL (mtD wd f n (i + 1)) true true [] 0 (code.map mcF)) (i + 1) code 1 [] 0 31 stE true at hcl
      rw [← hR] at hcl ⊢
      obtain ⟨⟨b, j, c2⟩, hp⟩ : ∃ p, p = (PT ki nu 5).1 (i + 1, code) := ⟨_, rfl⟩
      rw [← hp] at hcl
      have hY : rdS ki (PT ki nu 5).1 k (i, code) = if b = true then (if nxt ki (j, c2) 59 = true then (true, tkS (j, c2)) else (false, (j, c2))) else (false, (j, c2)) := by
        unfold rdS
        rw [show nxt ki (i, code) (1 + nI k) = true from decide_eq_true hk, if_pos rfl]
        rw [show tkS (i, code) = (i + 1, code) from rfl, ← hp]
      have hbad : ∀ (x : List Int32), simR R (false, mtD wd f n j, x) → j < nt → R.1 = false ∧ (exT R).1 = (mtG wd f n j).1 := fun x hs hj => by
        refine ⟨hs.1, ?_⟩
        unfold exT
        rw [hs.2.1]
        show ((mtD wd f n j).headD _).1 = _
        rw [g5 j hj]
        rfl
      have hfin : ∀ (x : List Int32), simR R (false, mtD wd f n j, x) → j < nt → TXR (mtG wd f n) wd f n (false, (j, c2), es) (if R.1 = true then txL wd f n m (k + 1) (exT R).2.1 R.2.2 (ss ++ [(code.map mcF).length]) else (false, (exT R).2.1, (exT R).1, R.2.2, ss ++ [(code.map mcF).length])) := fun x hs hj => by
        obtain ⟨q1, q2⟩ := hbad x hs hj
        rw [q1, if_neg Bool.false_ne_true]
        exact ⟨rfl, fun _ => q2, fun z => absurd z Bool.false_ne_true⟩
      show TXR _ wd f n (if (rdS ki (PT ki nu 5).1 k (i, code)).1 = true then rdL ki (PT ki nu 5).1 m (k + 1) (rdS ki (PT ki nu 5).1 k (i, code)).2 (es ++ [(rdS ki (PT ki nu 5).1 k (i, code)).2.2.length]) else (false, (rdS ki (PT ki nu 5).1 k (i, code)).2, es)) _
      rw [hY]
      cases b with
      | false =>
        rw [if_neg Bool.false_ne_true, if_neg Bool.false_ne_true]
        obtain ⟨b1, x, b2⟩ := hcl.1 rfl
        exact hfin x b2 b1
      | true =>
        obtain ⟨seg, s1, s2, s3, s4, s5, h2, o2, w2, t1, t2, t3, t4⟩ := hcl.2 rfl
        change c2 = code ++ seg at s1
        change i + 1 < j at s2
        change j < nt at s3
        change seg.length + (i + 1) ≤ j at s4
        change simR _ (eL (mtD wd f n j) false true h2 o2 w2) at t1
        change stE (ki j) at t3
        change true = true → ki j = 60 ∨ ki j = 61 → ∃ x, simR (eL (mtD wd f n j) false true h2 o2 w2) (false, mtD wd f n j, x) at t4
        subst s1
        rw [unw_top (show topLt 1 [] from trivial)] at t2
        obtain ⟨n1, n2, n3, n4, n5⟩ := g4 j s3
        have hDj := g5 j s3
        rw [if_pos rfl]
        by_cases k59 : ki j = 59
        · have hTj : (mtG wd f n j).2.2.1 = 59 := by rw [n2, k59]; decide
          have hj1 := nt_1 ht s3 (by rw [k59]; decide)
          rw [show nxt ki (j, code ++ seg) 59 = true from decide_eq_true k59, if_pos rfl, if_pos rfl]
          have hRR : simR R (true, mtD wd f n j, (code ++ seg).map mcF) := t1.trans (simR.of (by rw [hDj, eF_59 hTj, t2]; rfl))
          have hR1 : R.1 = true := hRR.1
          have hR2 : R.2.2 = (code ++ seg).map mcF := hRR.2.2 hR1
          have hR3 : exT R = mtG wd f n j := by
            unfold exT
            rw [hRR.2.1]
            show (mtD wd f n j).headD _ = _
            rw [hDj]
            rfl
          rw [hR1, if_pos rfl, hR2, hR3]
          have hdr := mtk_drop (wd := wd) (f := f) (n := n) j 0 (mtG wd f n j) (mtD wd f n (j + 1)) (Nat.zero_le _) hDj
          have hD1 : mtD wd f n (j + 1) = mtA wd f n (mtG wd f n j).2.1 := by
            rcases hdr.1.2 with q | q
            · exact absurd (q.symm.trans (g5 (j + 1) hj1)) (by simp)
            · exact q
          have hml : (code.map mcF).length = code.length := List.length_map _
          rw [hml]
          refine rd_tx ht m (k + 1) (j + 1) (mtG wd f n j).2.1 (code ++ seg) (es ++ [(code ++ seg).length]) (ss ++ [code.length]) (by omega) hj1 hdr.1.1 hD1 (by rw [List.length_append]; omega) (by rw [List.length_append, hel]; rfl) (by rw [hss]; rfl) (PTS_push hP ?_ (s5.mono (by decide)))
          rw [← hss, List.getElem?_append_right (by have := congrArg List.length hss; simp only [List.length_append, List.length_cons, List.length_nil] at this; omega)]
          have hsl : es.length - ss.length = 0 := by have := congrArg List.length hss; simp only [List.length_append, List.length_cons, List.length_nil] at this; omega
          rw [hsl]
          rfl
        · rw [show nxt ki (j, code ++ seg) 59 = false from decide_eq_false k59, if_neg Bool.false_ne_true, if_neg Bool.false_ne_true]
          have hTj2 : ¬ (mtG wd f n j).2.2.1 = 59 := fun z => k59 (kd_T59 _ n1 (n2.symm.trans z))
          by_cases k41 : ki j = 41
          · have hTj : (mtG wd f n j).2.2.1 = 41 := by rw [n2, k41]; decide
            exact hfin _ (t1.trans (simR.of (by rw [hDj, eF_41e hTj (by rw [t2])]))) s3
          · have hTj1 : ¬ (mtG wd f n j).2.2.1 = 41 := fun z => k41 (kd_T41 _ n1 (n2.symm.trans z))
            by_cases k60 : ki j = 60 ∨ ki j = 61
            · obtain ⟨x, t5⟩ := t4 rfl k60
              exact hfin x (t1.trans t5) s3
            · have hsg : sgF (mtG wd f n j).2.2.1 = -1 := by rw [n2]; exact kd_sg0 _ n1 t3.2.2.2.2 t3.2.2.2.1 (fun z => k60 (Or.inl z)) (fun z => k60 (Or.inr z)) t3.2.1 t3.2.2.1 t3.1
              exact hfin w2 (t1.trans (simR.of (by rw [hDj, eF_no hTj2 hTj1 hsg]))) s3
    · rw [hX, if_neg (fun z => hk (hkey.mp z))]
      have hY : rdS ki (PT ki nu 5).1 k (i, code) = (false, (i, code)) := by
        unfold rdS
        rw [show nxt ki (i, code) (1 + nI k) = false from decide_eq_false hk, if_neg Bool.false_ne_true]
      show TXR _ wd f n (if (rdS ki (PT ki nu 5).1 k (i, code)).1 = true then _ else (false, (rdS ki (PT ki nu 5).1 k (i, code)).2, es)) _
      rw [hY, if_neg Bool.false_ne_true]
      exact ⟨rfl, fun _ => hB.symm, fun z => absurd z Bool.false_ne_true⟩
/-- THE TWO READINGS OF A TEXT AGREE -/
theorem text_eq {wd f ki pl nu : Nat → Int32} {n : Nat} (hn : n ≤ 160) (hwd : ∀ j, j < 96 → wd j = mwds.getD j 0) (hby : ∀ i, i < n → ∃ z, z < 256 ∧ f i = nI z) (hr : rowT ki pl nu (tkL f n)) : TXR (mtG wd f n) wd f n (rdF ki nu) (txA wd f n) ∧ ((rdF ki nu).2.1.1 < (tkL f n).length → pl (rdF ki nu).2.1.1 = nI (mtG wd f n (rdF ki nu).2.1.1).1) := by
  obtain ⟨h1, h2⟩ := TOK_of hn hwd hby hr
  refine ⟨?_, fun h => h2 _ h⟩
  exact rd_tx h1 3 0 0 0 [] [] [] rfl (by have := h1.2.1; omega) (Nat.zero_le _) (by unfold mtD; rfl) (Nat.le_refl _) rfl rfl (fun p e h => by simp at h)
