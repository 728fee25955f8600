/-! each level of an E -/
theorem topLt_mono {a b : Int32} (h : a ≤ b) : ∀ hs : List Int32, topLt a hs → topLt b hs
  | [], _ => trivial
  | _ :: _, g => Int32.lt_of_lt_of_le g h
theorem CLM.mono {ki : Nat → Int32} {D : Nat → List MT} {nt : Nat} {P : RS → Bool × RS} {op K K2 : Nat} {r tl : Int32} {st st2 : Int32 → Prop} {cp md : Bool} (h : CLM ki D nt P op r tl K st cp md) (hst : ∀ k, st k → st2 k) (hK : K ≤ K2) : CLM ki D nt P op r tl K2 st2 cp md := by
  intro i code hs mn hi hc htop hm
  have g := h i code hs mn hi hc htop hm
  refine ⟨g.1, fun e => ?_⟩
  obtain ⟨seg, s1, s2, s3, s4, s5, h2, o2, w2, t1, t2, t3, t4⟩ := g.2 e
  exact ⟨seg, s1, s2, s3, s4, s5.mono hK, h2, o2, w2, t1, t2, hst _ t3, t4⟩
theorem acc_term : ACC 6 7 8 false 42 (-18) := by
  unfold ACC encF
  decide +kernel
theorem acc_plus : ACC 5 6 6 false 43 (-16) := by
  unfold ACC encF
  decide +kernel
theorem acc_minus : ACC 5 6 6 false 45 (-17) := by
  unfold ACC encF
  decide +kernel
theorem acc_and : ACC 2 3 4 true 5 (-13) := by
  unfold ACC encF
  decide +kernel
theorem acc_or : ACC 1 2 2 true 4 (-12) := by
  unfold ACC encF
  decide +kernel
theorem seqS_G {ki : Nat → Int32} {kd c : Int32} {sub : RS → Bool × RS} : seqS ki kd sub c = fun s => if (sub s).1 = true then lpG ki (fun k => decide (k = kd)) sub (fun _ => c) 160 (sub s).2 else (false, (sub s).2) := by
  funext s
  unfold seqS
  rw [lpS_G]
theorem sumS_G {ki : Nat → Int32} {sub : RS → Bool × RS} : sumS ki sub = fun s => if (sub s).1 = true then lpG ki (fun k => decide (k = 43) || decide (k = 45)) sub (fun k => if decide (k = 43) = true then -16 else -17) 160 (sub s).2 else (false, (sub s).2) := by
  funext s
  unfold sumS
  rw [lpP_G]
theorem term_c {ki nu : Nat → Int32} {D : Nat → List MT} {tk : Nat → MT} {nt op K : Nat} (ht : TOK ki nu D tk nt) {o : RS → Bool × RS} (ho : CLM ki D nt o op 7 8 K (fun _ => True) false false) : CLM ki D nt (termS ki o) op 6 6 (K + 1) (fun k => k ≠ 42) false false := by
  unfold termS
  rw [seqS_G]
  refine CLM.mono (seq_c ht ho (r := 6) (K := K + 1) (fun k hk => ?_) (Nat.le_refl _) (Or.inr rfl) (by decide) (fun hs _ => topLt_8 hs)) (fun k h e => absurd h.2 (by rw [decide_eq_true e]; decide)) (Nat.le_refl _)
  rw [of_decide_eq_true hk]
  exact acc_term
theorem sum_c {ki nu : Nat → Int32} {D : Nat → List MT} {tk : Nat → MT} {nt op K : Nat} (ht : TOK ki nu D tk nt) {o : RS → Bool × RS} (ho : CLM ki D nt o op 7 8 K (fun _ => True) false false) : CLM ki D nt (sumO ki o) op 5 5 (K + 2) (fun k => k ≠ 42 ∧ k ≠ 43 ∧ k ≠ 45) false false := by
  unfold sumO
  rw [sumS_G]
  refine CLM.mono (seq_c ht (term_c ht ho) (r := 5) (K := K + 2) (fun k hk => ?_) (Nat.le_refl _) (Or.inr rfl) (by decide) (topLt_mono (by decide))) (fun k h => ⟨h.1, fun e => absurd h.2 (by rw [e]; decide), fun e => absurd h.2 (by rw [e]; decide)⟩) (Nat.le_refl _)
  by_cases e : k = 43
  · subst e
    exact acc_plus
  · rw [decide_eq_false e, Bool.false_or] at hk
    rw [of_decide_eq_true hk]
    exact acc_minus
def stD (k : Int32) : Prop := k ≠ 42 ∧ k ≠ 43 ∧ k ≠ 45
theorem btO_lt {s : Int32} : ∀ hs : List Int32, topLt 4 hs → btO s hs = true
  | [], _ => rfl
  | x :: t, h => by
    have h2 : rkF x ≠ 4 := fun e => absurd (show rkF x < 4 from h) (by rw [e]; decide)
    show (!(_ && decide (rkF x = 4))) = true
    rw [decide_eq_false h2, Bool.and_false]
    rfl
theorem cmp_k {k c : Int32} (h : (k = 60 ∧ c = -14) ∨ (k = 61 ∧ c = -15)) : tOf k ≠ 59 ∧ tOf k ≠ 41 ∧ sgF (tOf k) = mcF c ∧ mcF c ≠ -1 ∧ lsF (mcF c) = 5 ∧ rkF (mcF c) = 4 ∧ decide (mcF c ≤ 12) = false ∧ opF (mcF c) = 0 ∧ ¬ -6 ≤ c ∧ ¬ -11 ≤ c ∧ encF c (mcF c) ∧ k ≠ 14 := by
  rcases h with ⟨rfl, rfl⟩ | ⟨rfl, rfl⟩
  · unfold encF
    decide +kernel
  · unfold encF
    decide +kernel
theorem cmp_go {ki nu : Nat → Int32} {D : Nat → List MT} {tk : Nat → MT} {nt op K Ks : Nat} (ht : TOK ki nu D tk nt) {sm : RS → Bool × RS} (hsm : CLM ki D nt sm op 5 5 Ks stD false false) (hK : Ks + 1 ≤ K) {hs : List Int32} (htop : topLt 4 hs) {R : Bool × List MT × List Int32} {i j : Nat} {code seg h2 w2 : List Int32} {o2 c : Int32} (hc : code.length ≤ i) (hij : i < j) (hj : j < nt) (hsl : seg.length + i ≤ j) (hsk : SegK Ks seg)
    (hR : simR R (eL (D j) false true h2 o2 w2)) (hu : unw 5 h2 o2 w2 = (hs, nI op, (code ++ seg).map mcF)) (kc : (ki j = 60 ∧ c = -14) ∨ (ki j = 61 ∧ c = -15)) : RES ki D nt (if (sm (j + 1, code ++ seg)).1 = true then (true, wrS c (sm (j + 1, code ++ seg)).2) else (false, (sm (j + 1, code ++ seg)).2)) R i code 3 hs op K stD true := by
  obtain ⟨g1, g2, g3, g4, g5⟩ := id ht
  obtain ⟨m1, m2, m3, m4, m5⟩ := g4 j hj
  have hDj := g5 j hj
  obtain ⟨a1, a2, a4, a5, a6, a7, a15, a9, a10, a11, a12, a3⟩ := cmp_k kc
  have hj1 := nt_1 ht hj a3
  have hE : eL (D j) false true h2 o2 w2 = eL (D (j + 1)) true false (mcF c :: hs) (nI op) ((code ++ seg).map mcF) := by
    have hg := eF_go (t := tk j) (ts := D (j + 1)) (mn := true) (by rw [m2]; exact a1) (by rw [m2]; exact a2) (by rw [m2]; exact a4) a5 a6 hu (btO_lt hs htop)
    rw [a15] at hg
    rw [hDj]
    exact hg
  have htl : topLt 5 (mcF c :: hs) := by
    show rkF _ < 5
    rw [a7]
    decide
  have hs1 := hsm (j + 1) (code ++ seg) (mcF c :: hs) false hj1 (by rw [List.length_append]; omega) htl (fun z => absurd z Bool.false_ne_true)
  obtain ⟨⟨b, j2, c2⟩, hp⟩ : ∃ p, p = sm (j + 1, code ++ seg) := ⟨_, rfl⟩
  rw [← hp] at hs1 ⊢
  show RES ki D nt (if b = true then (true, wrS c (j2, c2)) else (false, (j2, c2))) R i code 3 hs op K stD true
  cases b with
  | false =>
    rw [if_neg Bool.false_ne_true]
    obtain ⟨b1, x, b2⟩ := hs1.1 rfl
    exact RES_f b1 (hR.trans ((simR.of hE).trans b2))
  | true =>
    rw [if_pos rfl]
    obtain ⟨seg2, s1, s2, s3, s4, s5, h3, o3, w3, t1, t2, t3, t4⟩ := hs1.2 rfl
    change c2 = code ++ seg ++ seg2 at s1
    change j + 1 < j2 at s2
    change j2 < nt at s3
    change seg2.length + (j + 1) ≤ j2 at s4
    change simR _ (eL (D j2) false true h3 o3 w3) at t1
    change stD (ki j2) at t3
    subst s1
    rw [unw_top htl] at t2
    have hlen : (code ++ seg ++ seg2).length < 160 := by
      rw [List.length_append, List.length_append]
      omega
    rw [wr_ok hlen, show code ++ seg ++ seg2 ++ [c] = code ++ (seg ++ seg2 ++ [c]) by simp only [List.append_assoc]]
    refine RES_t (by omega) s3 (by rw [List.length_append, List.length_append]; simp only [List.length_cons, List.length_nil]; omega) (SegK.bin (hsk.mono (by omega)) s5 hK a10 a11 a12) ⟨h3, o3, w3, hR.trans ((simR.of hE).trans t1), ?_, t3, fun _ hk => ?_⟩
    · rw [← unw_unw (l := 3) (r := 5) (by decide) h3 o3 w3, t2]
      show unw 3 (mcF c :: hs) (nI op) ((code ++ seg ++ seg2).map mcF) = _
      rw [unw_ps (by rw [a7]; decide), a9, Int32.sub_zero, ← map_p]
      simp only [List.append_assoc]
    · obtain ⟨n1, n2, n3, n4, n5⟩ := g4 j2 s3
      obtain ⟨c3, kc3⟩ : ∃ c3 : Int32, (ki j2 = 60 ∧ c3 = -14) ∨ (ki j2 = 61 ∧ c3 = -15) := by
        rcases hk with e | e
        · exact ⟨-14, Or.inl ⟨e, rfl⟩⟩
        · exact ⟨-15, Or.inr ⟨e, rfl⟩⟩
      obtain ⟨d1, d2, d4, d5, d6, d7, d15, d9, d10, d11, d12, d3⟩ := cmp_k kc3
      refine ⟨(unw (lsF (mcF c3)) h3 o3 w3).2.2, simR.of ?_⟩
      rw [g5 j2 s3]
      refine eF_bad (sg := mcF c3) (by rw [n2]; exact d1) (by rw [n2]; exact d2) (by rw [n2]; exact d4) d5 ?_
      rw [d6, t2]
      show (!(decide (rkF (mcF c3) = 4) && decide (rkF (mcF c) = 4))) = false
      rw [decide_eq_true d7, decide_eq_true a7]
      rfl
theorem den_c {ki nu : Nat → Int32} {D : Nat → List MT} {tk : Nat → MT} {nt op K Ks : Nat} (ht : TOK ki nu D tk nt) (hop : op ≤ 5) {sm : RS → Bool × RS} (hsm : CLM ki D nt sm op 5 5 Ks stD false false) (hK : Ks + 1 ≤ K) {dn : Option (RS → Bool × RS)} (h0 : dn = none → op = 5) (h1 : ∀ d, dn = some d → op < 5 ∧ CLM ki D nt d (op + 1) 3 4 K stD true true) : CLM ki D nt (denS ki dn sm) op 3 4 K stD true true := by
  intro i code hs mn hi hc htop hm
  have hm : mn = true := hm
  subst hm
  obtain ⟨g1, g2, g3, g4, g5⟩ := id ht
  obtain ⟨m1, m2, m3, m4, m5⟩ := g4 i hi
  have hDi := g5 i hi
  by_cases k6 : ki i = 6
  · have hT : (tk i).2.2.1 = 6 := by rw [m2, k6]; decide
    have hi1 := nt_1 ht hi (by rw [k6]; decide)
    have hn : nxt ki (i, code) 6 = true := decide_eq_true k6
    cases dn with
    | none =>
      have e : denS ki none sm (i, code) = (false, (i, code)) := by unfold denS; rw [hn, if_pos rfl]
      rw [e]
      refine RES_f hi (x := code.map mcF) (simR.of ?_)
      rw [hDi, eT_not hT, if_pos ((nI_o5 hop).mpr (h0 rfl))]
    | some d =>
      obtain ⟨hlt, hd⟩ := h1 d rfl
      have hd1 := hd (i + 1) code (13 :: hs) true hi1 (by omega) (show rkF 13 < 4 by decide) (show true = true from rfl)
      obtain ⟨⟨b, j, c2⟩, hp⟩ : ∃ p, p = d (i + 1, code) := ⟨_, rfl⟩
      rw [← hp] at hd1
      have hE : eL (D i) true true hs (nI op) (code.map mcF) = eL (D (i + 1)) true true (13 :: hs) (nI (op + 1)) (code.map mcF) := by
        rw [hDi, eT_not hT, if_neg (fun z => absurd ((nI_o5 hop).mp z) (by omega))]
        rw [show nI op + 1 = nI (op + 1) from nI_1 op]
      rw [hE]
      have e : denS ki (some d) sm (i, code) = if b = true then (true, wrS (-10) (j, c2)) else (false, (j, c2)) := by
        unfold denS
        rw [hn, if_pos rfl]
        show (if (d (i + 1, code)).1 = true then (true, wrS (-10) (d (i + 1, code)).2) else (false, (d (i + 1, code)).2)) = _
        rw [← hp]
      rw [e]
      cases b with
      | false =>
        rw [if_neg Bool.false_ne_true]
        obtain ⟨a1, x, a2⟩ := hd1.1 rfl
        exact RES_f a1 a2
      | true =>
        rw [if_pos rfl]
        obtain ⟨seg, s1, s2, s3, s4, s5, h2, o2, w2, t1, t2, t3, t4⟩ := hd1.2 rfl
        change c2 = code ++ seg at s1
        change i + 1 < j at s2
        change j < nt at s3
        change seg.length + (i + 1) ≤ j at s4
        change simR _ (eL (D j) false true h2 o2 w2) at t1
        subst s1
        rw [wr_ok (by rw [List.length_append]; omega), List.append_assoc]
        refine RES_t (by omega) s3 (by rw [List.length_append]; simp only [List.length_cons, List.length_nil]; omega) (SegK.un s5 (by decide) (by decide) (enc_b rfl (by decide))) ⟨h2, o2, w2, t1, ?_, t3, t4⟩
        rw [t2, unw_ps (by decide), ← List.append_assoc, map_p]
        rw [show nI (op + 1) - opF 13 = nI op from nI_pred op]
        rfl
  · have hn : nxt ki (i, code) 6 = false := decide_eq_false k6
    have e0 : denS ki dn sm (i, code) = cmpS ki sm (i, code) := by unfold denS; rw [hn, if_neg Bool.false_ne_true]
    rw [e0]
    have h5 : topLt 5 hs := topLt_mono (by decide) hs htop
    have hs1 := hsm i code hs true hi hc h5 (fun _ => k6)
    obtain ⟨⟨b, j, c2⟩, hp⟩ : ∃ p, p = sm (i, code) := ⟨_, rfl⟩
    rw [← hp] at hs1
    unfold cmpS
    rw [← hp]
    show RES ki D nt (if b = true then (if nxt ki (j, c2) 60 = true then (if (sm (j + 1, c2)).1 = true then (true, wrS (-14) (sm (j + 1, c2)).2) else (false, (sm (j + 1, c2)).2)) else if nxt ki (j, c2) 61 = true then (if (sm (j + 1, c2)).1 = true then (true, wrS (-15) (sm (j + 1, c2)).2) else (false, (sm (j + 1, c2)).2)) else (true, (j, c2))) else (false, (j, c2))) _ i code 3 hs op K stD true
    cases b with
    | false =>
      rw [if_neg Bool.false_ne_true]
      obtain ⟨a1, x, a2⟩ := hs1.1 rfl
      exact RES_f a1 a2
    | true =>
      rw [if_pos rfl]
      obtain ⟨seg, s1, s2, s3, s4, s5, h2, o2, w2, t1, t2, t3, _⟩ := hs1.2 rfl
      change c2 = code ++ seg at s1
      change i < j at s2
      change j < nt at s3
      change seg.length + i ≤ j at s4
      change simR _ (eL (D j) false true h2 o2 w2) at t1
      change stD (ki j) at t3
      subst s1
      have t2' := t2
      rw [unw_top h5] at t2'
      by_cases k60 : ki j = 60
      · rw [show nxt ki (j, code ++ seg) 60 = true from decide_eq_true k60, if_pos rfl]
        exact cmp_go ht hsm hK htop hc s2 s3 s4 s5 t1 t2' (Or.inl ⟨k60, rfl⟩)
      · rw [show nxt ki (j, code ++ seg) 60 = false from decide_eq_false k60, if_neg Bool.false_ne_true]
        by_cases k61 : ki j = 61
        · rw [show nxt ki (j, code ++ seg) 61 = true from decide_eq_true k61, if_pos rfl]
          exact cmp_go ht hsm hK htop hc s2 s3 s4 s5 t1 t2' (Or.inr ⟨k61, rfl⟩)
        · rw [show nxt ki (j, code ++ seg) 61 = false from decide_eq_false k61, if_neg Bool.false_ne_true]
          exact RES_t s2 s3 s4 (s5.mono (by omega)) ⟨h2, o2, w2, t1, unw_le (by decide) t2, t3, fun _ z => absurd z (fun z => z.elim k60 k61)⟩
theorem bot_c {ki nu : Nat → Int32} {D : Nat → List MT} {tk : Nat → MT} {nt op K : Nat} (ht : TOK ki nu D tk nt) {dn : RS → Bool × RS} (hd : CLM ki D nt dn op 3 4 K stD true true) : CLM ki D nt (seqS ki 5 dn (-13)) op 2 2 (K + 1) (fun k => stD k ∧ k ≠ 5) true true := by
  rw [seqS_G]
  refine CLM.mono (seq_c ht hd (r := 2) (K := K + 1) (fun k hk => ?_) (Nat.le_refl _) (Or.inl rfl) (by decide) (topLt_mono (by decide))) (fun k h => ⟨h.1, fun e => absurd h.2 (by rw [decide_eq_true e]; decide)⟩) (Nat.le_refl _)
  rw [of_decide_eq_true hk]
  exact acc_and
def stE (k : Int32) : Prop := k ≠ 42 ∧ k ≠ 43 ∧ k ≠ 45 ∧ k ≠ 5 ∧ k ≠ 4
theorem eit_c {ki nu : Nat → Int32} {D : Nat → List MT} {tk : Nat → MT} {nt op K : Nat} (ht : TOK ki nu D tk nt) {dn : RS → Bool × RS} (hd : CLM ki D nt dn op 3 4 K stD true true) : CLM ki D nt (seqS ki 4 (seqS ki 5 dn (-13)) (-12)) op 1 1 (K + 2) stE true true := by
  rw [seqS_G]
  refine CLM.mono (seq_c ht (bot_c ht hd) (r := 1) (K := K + 2) (fun k hk => ?_) (Nat.le_refl _) (Or.inl rfl) (by decide) (topLt_mono (by decide))) (fun k h => ⟨h.1.1.1, h.1.1.2.1, h.1.1.2.2, h.1.2, fun e => absurd h.2 (by rw [decide_eq_true e]; decide)⟩) (Nat.le_refl _)
  rw [of_decide_eq_true hk]
  exact acc_or
theorem PT_c {ki nu : Nat → Int32} {D : Nat → List MT} {tk : Nat → MT} {nt : Nat} (ht : TOK ki nu D tk nt) : ∀ (r : Nat), r ≤ 5 → CLM ki D nt (PT ki nu r).1 (5 - r) 1 1 (6 + 5 * r) stE true true ∧ CLM ki D nt (PT ki nu r).2.1 (5 - r) 3 4 (4 + 5 * r) stD true true ∧ CLM ki D nt (PT ki nu r).2.2 (5 - r) 7 8 (1 + 5 * r) (fun _ => True) false false
  | 0, _ => by
    have ho : CLM ki D nt (oneS ki nu none) 5 7 8 1 (fun _ => True) false false := one_c ht (Nat.le_refl _) (Nat.le_refl _) (fun _ => rfl) (fun e o h => by cases h)
    have hd : CLM ki D nt (denO ki none (oneS ki nu none)) 5 3 4 4 stD true true := den_c ht (Nat.le_refl _) (Ks := 3) (sum_c ht ho) (Nat.le_refl _) (fun _ => rfl) (fun d h => by cases h)
    exact ⟨eit_c ht hd, hd, ho⟩
  | r + 1, hr => by
    obtain ⟨i1, i2, i3⟩ := PT_c ht r (by omega)
    have e5 : 5 - r = 5 - (r + 1) + 1 := by omega
    rw [e5] at i1 i2 i3
    have ho : CLM ki D nt (oneS ki nu (some ((PT ki nu r).1, (PT ki nu r).2.2))) (5 - (r + 1)) 7 8 (6 + 5 * r) (fun _ => True) false false := by
      refine one_c ht (by omega) (by omega) (fun h => by cases h) (fun e o h => ?_)
      cases h
      exact ⟨by omega, i1, i3.mono (fun _ h => h) (by omega)⟩
    have hd : CLM ki D nt (denO ki (some (PT ki nu r).2.1) (oneS ki nu (some ((PT ki nu r).1, (PT ki nu r).2.2)))) (5 - (r + 1)) 3 4 (9 + 5 * r) stD true true := by
      refine den_c ht (by omega) (Ks := 8 + 5 * r) ((sum_c ht ho).mono (fun _ h => h) (by omega)) (by omega) (fun h => by cases h) (fun d h => ?_)
      cases h
      exact ⟨by omega, i2.mono (fun _ h => h) (by omega)⟩
    exact ⟨(eit_c ht hd).mono (fun _ h => h) (by omega), hd.mono (fun _ h => h) (by omega), ho.mono (fun _ h => h) (by omega)⟩
