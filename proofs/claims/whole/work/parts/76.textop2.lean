def TC (μ0 : PM) (V : VW) (n : Nat) (G : Bool) (X : TX) (m : PM) : Prop := (∀ r, r < 10 → m.1 (22 + r) = V r) ∧ (∀ c, c = 0 ∨ c = 7 ∨ c = 19 ∨ c = 20 ∨ c = 21 ∨ 42 ≤ c → m.1 c = μ0.1 c) ∧ m.1 6 0 = 0 ∧ (G = false → m.1 1 = μ0.1 1 ∧ m.1 2 = μ0.1 2 ∧ m.1 3 = μ0.1 3) ∧ (G = true → ∃ (code : List Int32) (es : List Nat) (co en : Nat → Int32), PTS code es ∧ es.length = 3 ∧ code.length ≤ 160 ∧ rowL co code ∧ rowE en es ∧ X.2.2.2.1 = code.map mcF ∧ X.2.2.2.2 ++ [code.length] = 0 :: es ∧ m.1 2 = va_cpy co (μ0.1 2) 0 (160 * n) 160 ∧ m.1 3 = va_cpy en (μ0.1 3) 0 (3 * n) 3 ∧ m.1 1 0 = nI (n + 1))
def TN (ν0 : PM) (n : Nat) (G : Bool) (X : TX) (ν2 : PM) : Prop := (∀ c, c ≠ 0 → c ≠ 7 → c ≠ 8 → c ≠ 15 → ν2.1 c = ν0.1 c) ∧ (∀ j, 14 ≤ j → j ≤ 18 → ν2.1 0 j = ν0.1 0 j) ∧ ν2.1 0 9 = 0 ∧ ν2.1 0 12 = nI (if G = true then n + 1 else n) ∧ cdR (ν2.1 7) (ν0.1 7) n X.2.2.2.1 ∧ (∀ i, i < 4 * n → ν2.1 8 i = ν0.1 8 i) ∧ (G = true → ∀ (j v : Nat), (X.2.2.2.2 ++ [X.2.2.2.1.length])[j]? = some v → ν2.1 8 (4 * n + j) = nI v)
theorem va_out {co c0 : Nat → Int32} {d n i : Nat} (h : i < d) : va_cpy co c0 0 d n i = c0 i := by
  show (if d ≤ i ∧ i < d + n then _ else _) = _
  rw [if_neg (by omega)]
theorem IB_text {μ0 ν0 m ν2 : PM} {V : VW} {n : Nat} {G : Bool} {X : TX} (hB : IB μ0 ν0 V) (hn : μ0.1 1 0 = nI n) (hn6 : n < 6) (h1 : TC μ0 V n G X m) (h2 : TN ν0 n G X ν2) : IB m ν2 V := by
  obtain ⟨n', b1, b2, b3, b4, b5, ⟨t, b6, b8⟩, b7⟩ := hB
  have en : n' = n := (nI_eq (by omega) (by omega)).1 (b3.symm.trans hn)
  subst en
  obtain ⟨c1, c2, c3, c4, c5⟩ := h1
  obtain ⟨d1, d2, d3, d4, d5, d6, d7⟩ := h2
  cases G with
  | false =>
    obtain ⟨e1, e2, e3⟩ := c4 rfl
    exact ⟨n', b1, b2, by rw [e1]; exact b3, d4, by rw [e3]; exact b5, ⟨t, b6, b8⟩, fun x hx p hp => relC_old b5 hx hp (fun i _ => by rw [e2]) (fun i _ => by rw [e3]) d5.2 d6 (b7 x hx p hp)⟩
  | true =>
    obtain ⟨code, es, co, en, f1, f2, f3, f4, f5, f6, f7, f8, f9, f10⟩ := c5 rfl
    have d7' := d7 rfl
    rw [f6, List.length_map, f7] at d7'
    rw [f6] at d5
    have hes : ∀ (x v : Nat), es[x]? = some v → v ≤ 160 := fun x v hv => by
      obtain ⟨a, sg, b, g1, g2, g3, g4⟩ := f1 x v hv
      rw [g1] at f3
      simp only [List.length_append] at f3
      omega
    have h2o : ∀ i, i < 160 * n' → m.1 2 i = μ0.1 2 i := fun i hi => by rw [f8, va_out hi]
    have h3o : ∀ i, i < 3 * n' → m.1 3 i = μ0.1 3 i := fun i hi => by rw [f9, va_out hi]
    have hnew : ∀ p, p < 3 → relC ν2 (bk m) n' p ∧ (bk m).2 (3 * n' + p) = nI (lawE (bk m).2 n' p) ∧ lawE (bk m).2 n' p ≤ 160 := fun p hp => by
      have hv : es[p]? = some (es[p]'(by omega)) := List.getElem?_eq_getElem (by omega)
      obtain ⟨a, sg, b, g1, g2, g3, g4⟩ := f1 p _ hv
      exact relC_new hp f8 f9 f4 f5 f3 hes d5.1 d7' g1 g2 hv g3 g4
    refine ⟨n' + 1, by omega, by omega, f10, d4, ⟨by omega, fun x p hx hp => ?_⟩, ⟨t, by omega, b8⟩, fun x hx p hp => ?_⟩
    · rcases Nat.lt_or_ge x n' with q | q
      · have := b5.2 x p q hp
        unfold lawE at this ⊢
        rw [h3o _ (by omega)]
        exact this
      · obtain rfl : x = n' := by omega
        exact (hnew p hp).2
    · rcases Nat.lt_or_ge x n' with q | q
      · exact relC_old b5 q hp h2o h3o d5.2 d6 (b7 x q p hp)
      · obtain rfl : x = n' := by omega
        exact (hnew p hp).1
theorem text_rel {μ0 ν0 m ν2 : PM} {V U : VW} {n : Nat} {G : Bool} {X : TX} (r : REL μ0 V ν0 U) (hn : μ0.1 1 0 = nI n) (hn6 : n < 6) (h1 : TC μ0 V n G X m) (h2 : TN ν0 n G X ν2) : REL m V ν2 U := by
  obtain ⟨nj, nh, a, b, ⟨q, t1, t2, t3, t4⟩, w, ⟨s1, s2, s3, s4⟩, i⟩ := r
  have hB := IB_text b hn hn6 h1 h2
  obtain ⟨c1, c2, c3, c4, c5⟩ := h1
  obtain ⟨d1, d2, d3, d4, d5, d6, d7⟩ := h2
  have d (x : Nat) (h : x = 6 ∨ x = 9 ∨ x = 10 ∨ x = 11 ∨ x = 12 ∨ x = 14) : ν2.1 x = ν0.1 x := d1 x (by omega) (by omega) (by omega) (by omega)
  refine ⟨nj, nh, a, hB, ⟨0, by omega, c3, d3, fun i => ⟨?_, fun h => absurd h (by omega)⟩⟩, fun j hj => by rw [d 14 (by omega)]; exact w j hj, ⟨by rw [c2 19 (by omega), d 10 (by omega)]; exact s1, by rw [c2 20 (by omega), d 11 (by omega)]; exact s2, by rw [c2 21 (by omega), d 12 (by omega)]; exact s3, fun s hs => by rw [c2 20 (by omega)]; exact s4 s hs⟩, ?_⟩
  · rw [c2 7 (by omega), d 6 (by omega)]
    exact (t4 i).1
  · have eK : kpV m = kpV μ0 := funext fun r => c2 (42 + r) (by omega)
    have eb : bkV ν2 U = bkV ν0 U := bkV_c (d2 15 (by omega) (by omega)) (d2 16 (by omega) (by omega)) (d2 17 (by omega) (by omega)) (d2 18 (by omega) (by omega)) (d 9 (by omega))
    have e0 : m.1 0 5 = μ0.1 0 5 := by rw [c2 0 (by omega)]
    have e14 : ν2.1 0 14 = ν0.1 0 14 := d2 14 (by omega) (by omega)
    unfold II
    rw [e0, e14, eK, eb]
    rcases i with i | ⟨i1, i2, kj, kh, i3, i4, n', t, i5, i6, i7, i8⟩
    · exact Or.inl i
    · have en : n' = n := (nI_eq (by omega) (by omega)).1 (i5.symm.trans hn)
      subst en
      refine Or.inr ⟨i1, i2, kj, kh, i3, i4, ?_⟩
      cases G with
      | false =>
        obtain ⟨e1, e2, e3⟩ := c4 rfl
        exact ⟨n', t, by rw [e1]; exact i5, i6, i7, i8⟩
      | true =>
        obtain ⟨code, es, co, en, f1, f2, f3, f4, f5, f6, f7, f8, f9, f10⟩ := c5 rfl
        exact ⟨n' + 1, t, f10, by omega, by omega, i8⟩
theorem TN_txM {ν0 : PM} {n : Nat} {G : Bool} {X : TX} {S H C : Nat → Int32} {a b tk v h o u : Int32} (h12 : ν0.1 0 12 = nI n) (g1 : cdR C (ν0.1 7) n X.2.2.2.1) (g2 : ∀ i, i < 4 * n → S i = ν0.1 8 i) (g3 : G = true → ∀ (j v : Nat), (X.2.2.2.2 ++ [X.2.2.2.1.length])[j]? = some v → S (4 * n + j) = nI v) : TN ν0 n G X (txM ν0 G n S a b tk v h o u H C) := by
  have hx : ∀ c, c ≠ 0 → c ≠ 7 → c ≠ 8 → c ≠ 15 → (xM (sr ν0 8 S) a b tk v h o u H C).1 c = ν0.1 c := fun c c0 c7 c8 c15 => by
    show (if c = 0 then _ else if c = 7 then _ else if c = 15 then _ else (sr ν0 8 S).1 c) = _
    rw [if_neg c0, if_neg c7, if_neg c15, sr_other _ _ _ c8]
  have h0 : ∀ j, j < 24 → (xM (sr ν0 8 S) a b tk v h o u H C).1 0 j = ν0.1 0 j := fun j hj => by
    show (if j = 24 then a else if j = 25 then b else if j = 26 then tk else if j = 27 then v else if j = 30 then h else if j = 31 then o else if j = 32 then u else ν0.1 0 j) = _
    rw [if_neg (by omega), if_neg (by omega), if_neg (by omega), if_neg (by omega), if_neg (by omega), if_neg (by omega), if_neg (by omega)]
  cases G with
  | false =>
    refine ⟨fun c c0 c7 c8 c15 => ?_, fun j j1 j2 => ?_, rfl, ?_, g1, g2, g3⟩
    · show (si (xM (sr ν0 8 S) a b tk v h o u H C) 0 9 0).1 c = _
      rw [si_other _ _ _ _ c0]
      exact hx c c0 c7 c8 c15
    · show (si (xM (sr ν0 8 S) a b tk v h o u H C) 0 9 0).1 0 j = _
      rw [si_same, upd_o _ _ (by omega)]
      exact h0 j (by omega)
    · show (si (xM (sr ν0 8 S) a b tk v h o u H C) 0 9 0).1 0 12 = nI n
      rw [si_same, upd_o _ _ (by decide), h0 12 (by decide)]
      exact h12
  | true =>
    refine ⟨fun c c0 c7 c8 c15 => ?_, fun j j1 j2 => ?_, rfl, rfl, g1, g2, g3⟩
    · show (si (si (xM (sr ν0 8 S) a b tk v h o u H C) 0 9 0) 0 12 (nI (n + 1))).1 c = _
      rw [si_other _ _ _ _ c0, si_other _ _ _ _ c0]
      exact hx c c0 c7 c8 c15
    · show (si (si (xM (sr ν0 8 S) a b tk v h o u H C) 0 9 0) 0 12 (nI (n + 1))).1 0 j = _
      rw [si_same, upd_o _ _ (by omega), si_same, upd_o _ _ (by omega)]
      exact h0 j (by omega)
theorem OP_text {l : Launch} : OPI l yX7_text cX7_text 3 yX8_text cX8_text 3 [] := by
  rintro μ ν ⟨μ0, V, nm, sk, ν0, U, nm2, sk2, st, rfl, rfl, r⟩
  obtain ⟨nj, nh, hA, hB, hT, hW, hS, hI⟩ := id r
  obtain ⟨q, t1, t2, t3, t4⟩ := id hT
  obtain ⟨n, b1, b2, b3, b4, b5, b6, b7⟩ := id hB
  have h7 := T_X7_text (l := l) (μ := sc (wr μ0 22 V) nm sk) (n := q) (size := n) t2 t1 b3 b2
  have h8 := T_X8_text (l := l) (V := U) (nm := nm2) (sk := sk2) (st := st) (sn := 0) (t := n) (n := q) b4 b2 t3 t1
  rcases Nat.lt_or_ge n 6 with hn | hn
  · refine ⟨txX (ν0.1 14) (ν0.1 6) q n (txA (ν0.1 14) (ν0.1 6) q), 52, 5, TC μ0 V n (txG (ν0.1 14) (ν0.1 6) q (txA (ν0.1 14) (ν0.1 6) q)) (txA (ν0.1 14) (ν0.1 6) q), fun m => ∃ ν2 nm sk st, m = mm ν2 U nm sk st 0 ∧ TN ν0 n (txG (ν0.1 14) (ν0.1 6) q (txA (ν0.1 14) (ν0.1 6) q)) (txA (ν0.1 14) (ν0.1 6) q) ν2, by decide, by decide, CT.mono h7 (QI.mono fun x m g => ?_), CT.mono h8 (QI.mono fun x m g => ⟨(g.2 hn).1, ?_⟩), fun a b ha hb => ?_⟩
    · rw [if_pos hn] at g
      obtain ⟨ki, pl, nu, co, en, g1, g2, g3, g4, g5⟩ := g
      have f7 : μ0.1 7 = ν0.1 6 := funext fun i => (t4 i).1
      change rowT ki pl nu (tkL (μ0.1 7) q) at g1
      change (rdF ki nu).2.1.1 < (tkL (μ0.1 7) q).length at g4
      rw [f7] at g1 g4
      obtain ⟨⟨x1, x2, x3⟩, hp⟩ := text_eq (wd := ν0.1 14) (f := ν0.1 6) t1 hW (fun i hi => (t4 i).2 hi) g1
      have hV : ∀ r, r < 10 → (sc (wr μ0 22 V) nm sk).1 (22 + r) = V r := fun r hr => by
        rw [rd_sc (by omega) (by omega), rd_wr hr]
      have hO : ∀ c, c ≠ 4 → c ≠ 5 → c < 22 ∨ 32 ≤ c → (sc (wr μ0 22 V) nm sk).1 c = μ0.1 c := fun c c4 c5 hc => by
        rw [rd_sc c4 c5, rd_wrO (by omega)]
      rw [x1]
      cases hY : (rdF ki nu).1 with
      | true =>
        rw [hY, if_pos rfl] at g5
        refine ⟨g5.1.trans ?_, ?_⟩
        · unfold txX
          rw [if_pos (x1.trans hY)]
        · obtain ⟨y1, y2, y3, y4, y5⟩ := x3 hY
          rw [g5.2]
          refine ⟨fun r hr => ?_, fun c hc => ?_, ?_, fun z => absurd z (by decide), fun _ => ⟨(rdF ki nu).2.1.2, (rdF ki nu).2.2, co, en, y4, y3, y5, g2, g3, y1, y2, ?_, ?_, ?_⟩⟩
          · rw [si_other _ _ _ _ (by omega), sr_other _ _ _ (by omega), sr_other _ _ _ (by omega), ro_o (by omega) (by omega)]
            exact hV r hr
          · rw [si_other _ _ _ _ (by omega), sr_other _ _ _ (by omega), sr_other _ _ _ (by omega), ro_o (by omega) (by omega)]
            exact hO c (by omega) (by omega) (by omega)
          · rw [si_other _ _ _ _ (by decide), sr_other _ _ _ (by decide), sr_other _ _ _ (by decide), si_same, upd_s]
          · rw [si_other _ _ _ _ (by decide), sr_other _ _ _ (by decide), sr_same]
            rfl
          · rw [si_other _ _ _ _ (by decide), sr_same]
            rfl
          · rw [si_same, upd_s]
      | false =>
        rw [hY, if_neg Bool.false_ne_true] at g5
        refine ⟨g5.1.trans ?_, ?_⟩
        · unfold txX
          rw [if_neg (by rw [x1, hY]; exact Bool.false_ne_true), x2 hY, hp g4]
        · rw [g5.2]
          refine ⟨fun r hr => ?_, fun c hc => ?_, ?_, fun _ => ⟨?_, ?_, ?_⟩, fun z => absurd z (by decide)⟩
          · rw [ro_o (by omega) (by omega)]
            exact hV r hr
          · rw [ro_o (by omega) (by omega)]
            exact hO c (by omega) (by omega) (by omega)
          · rw [si_same, upd_s]
          · rw [ro_o (by decide) (by decide)]
            exact hO 1 (by decide) (by decide) (by decide)
          · rw [ro_o (by decide) (by decide)]
            exact hO 2 (by decide) (by decide) (by decide)
          · rw [ro_o (by decide) (by decide)]
            exact hO 3 (by decide) (by decide) (by decide)
    · obtain ⟨S, a, b, tk, v, h, o, u, H, C, e1, e2, e3, e4, e5⟩ := (g.2 hn).2
      exact ⟨_, nm2, sk2, st, e1, TN_txM b4 e2 e3 e4⟩
    · obtain ⟨ν2, nm3, sk3, st3, rfl, hb⟩ := hb
      exact ⟨a, V, a.1 4, a.1 5, ν2, U, nm3, sk3, st3, form_of ha.1, rfl, text_rel r b3 hn ha hb⟩
  · have en : n = 6 := by omega
    subst en
    refine ⟨-4, 52, 5, PC μ0 V, PN ν0 U, by decide, by decide, CT.mono h7 (QI.mono fun x m g => ?_), CT.mono h8 (QI.mono fun x m g => ⟨(g.1 rfl).1, pn_a (g.1 rfl).2⟩), fun a b => INV_of r⟩
    rw [if_neg (by decide)] at g
    exact ⟨g.1, pc_a g.2⟩
