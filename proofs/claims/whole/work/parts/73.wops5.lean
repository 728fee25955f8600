theorem nar_b : ∀ y, y < 100 → narF 0 (nI y) = nI y := by decide +kernel
theorem film_19 {B : BK} {μ : PM} {V : VW} {s h nj : Nat} : ∀ m, (filmM B μ V s h nj m).1 19 = upd (μ.1 19) s 0
  | 0 => rfl
  | m + 1 => by
    show (wrM (filmM B μ V s h nj m) s nj (nI m) (yF B V m h)).1 19 = _
    rw [wrM_o (by decide), film_19 m]
theorem film_20 {B : BK} {μ : PM} {V : VW} {s h nj : Nat} : ∀ m, (filmM B μ V s h nj m).1 20 = upd (μ.1 20) s (nI nj)
  | 0 => rfl
  | m + 1 => by
    show (wrM (filmM B μ V s h nj m) s nj (nI m) (yF B V m h)).1 20 = _
    rw [wrM_o (by decide), film_20 m]
theorem film_21 {B : BK} {μ : PM} {V : VW} {s h nj : Nat} (hj : nj ≤ 5) : ∀ m, m ≤ nj → ∀ x, (filmM B μ V s h nj m).1 21 x = if 40 * s ≤ x ∧ x < 40 * s + 40 then (if x - 40 * s < m then yF B V (x - 40 * s) h else 0) else μ.1 21 x
  | 0, _, x => by
    show (if 40 * s ≤ x ∧ x < 40 * s + 40 then 0 else μ.1 21 x) = _
    by_cases q : 40 * s ≤ x ∧ x < 40 * s + 40
    · rw [if_pos q, if_pos q, if_neg (by omega)]
    · rw [if_neg q, if_neg q]
  | m + 1, hm, x => by
    show (wrM (filmM B μ V s h nj m) s nj (nI m) (yF B V m h)).1 21 x = _
    obtain ⟨y, hy, ey⟩ := yF_b B V m h
    have hin : inF (nI m) 0 (nI nj - 1) = true := by
      obtain ⟨n, rfl⟩ : ∃ n, nj = n + 1 := ⟨nj - 1, by omega⟩
      rw [nI_sub1]
      unfold inF
      rw [Bool.and_eq_true, decide_eq_true_eq, decide_eq_true_eq]
      exact ⟨nI_pos' (by omega), nI_le (by omega) (by omega)⟩
    unfold wrM
    rw [if_pos hin, si_same, film_19, upd_s]
    have hc : (nI m).toNatClampNeg = m := nI_clamp (by omega)
    rw [hc]
    by_cases q : x = 40 * s + m
    · subst q
      rw [upd_s, if_pos (by omega), if_pos (by omega), show 40 * s + m - 40 * s = m by omega, ey]
      exact nar_b y (by omega)
    · rw [upd_o _ _ q, film_21 hj m (by omega) x]
      by_cases q1 : 40 * s ≤ x ∧ x < 40 * s + 40
      · rw [if_pos q1, if_pos q1]
        by_cases q2 : x - 40 * s < m
        · rw [if_pos q2, if_pos (by omega)]
        · rw [if_neg q2, if_neg (by omega)]
      · rw [if_neg q1, if_neg q1]
theorem IS_film {B : BK} {μ ν : PM} {V U : VW} {s h nj nh : Nat} (hS : IS μ ν) (e : EqV nj nh V U) (hj : nj ≤ 5) (hh : h < nh) : IS (filmM B μ V s h nj nj) (sr (si (si ν 10 s 0) 11 s (nI nj)) 12 (fiC B U (ν.1 12) s h nj 40)) := by
  obtain ⟨h1, h2, h3, h4⟩ := hS
  refine ⟨?_, ?_, ?_, ?_⟩
  · rw [film_19, h1]
    rfl
  · rw [film_20, h2]
    rfl
  · funext x
    rw [film_21 hj nj (Nat.le_refl _)]
    show _ = (if 40 * s ≤ x ∧ x < 40 * s + 40 then (if x - 40 * s < nj then yF B U (x - 40 * s) h else 0) else ν.1 12 x)
    rw [h3]
    by_cases q1 : 40 * s ≤ x ∧ x < 40 * s + 40
    · rw [if_pos q1, if_pos q1]
      by_cases q2 : x - 40 * s < nj
      · rw [if_pos q2, if_pos q2, yF_c e q2 hh]
      · rw [if_neg q2, if_neg q2]
    · rw [if_neg q1, if_neg q1]
  · intro x hx
    rw [film_20]
    by_cases q : x = s
    · subst q
      rw [upd_s]
      exact ⟨nj, by omega, rfl⟩
    · rw [upd_o _ _ q]
      exact h4 x hx
theorem OP_film {l : Launch} {s h : Int32} : OPI l yX7_film cX7_film 4 yX8_film cX8_film 4 [.int s, .int h] := by
  rintro μ ν ⟨μ0, V, nm, sk, ν0, U, nm2, sk2, st, rfl, rfl, r⟩
  obtain ⟨nj, nh, hA, hB, hT, hW, hS, hI⟩ := id r
  have e := hA.2.2.2.2.1
  refine ⟨filmX V s h, 6, 6, PC (filmS (bk μ0) μ0 V nj s h) V, PN (fiM (bk μ0) ν0 U nj s h) U, by decide, by decide, CT.mono (T_X7_film r.okC hA.1 hA.2.1 hA.2.2.1 hA.2.2.2.1) (QI.mono fun x m g => ⟨g.1, pc_b g.2⟩), CT.mono (T_X8_film r.okL hA.u1 hA.2.1 hA.u5 hA.2.2.2.1) (QI.mono fun x m g => ⟨g.1.trans (filmX_c e _ _).symm, pn_b g.2⟩), fun a b => INV_of ?_⟩
  unfold filmS fiM
  rw [← hrF_c e]
  split
  · split
    · rename_i q
      exact REL_s r (fun c h1 h2 h3 => filmM_o h1 h2 h3 _) (fun c h1 h2 h3 => by rw [sr_other _ _ _ h3, si_other _ _ _ _ h2, si_other _ _ _ _ h1]) (IS_film hS e hA.2.1 (hr_cl hA.2.2.1 hA.2.2.2.1 q))
    · exact r
  · exact r
theorem wr_cm2 {μ : PM} {V K : VW} : wr (wr μ 22 V) 42 K = wr (wr μ 42 K) 22 V := by
  refine PM_ext (fun c => ?_) rfl
  show (if 42 ≤ c ∧ c < 42 + 10 then K (c - 42) else if 22 ≤ c ∧ c < 22 + 10 then V (c - 22) else μ.1 c) = if 22 ≤ c ∧ c < 22 + 10 then V (c - 22) else if 42 ≤ c ∧ c < 42 + 10 then K (c - 42) else μ.1 c
  by_cases q : 42 ≤ c ∧ c < 42 + 10
  · rw [if_pos q, if_neg (by omega), if_pos q]
  · rw [if_neg q, if_neg q]
theorem m42 {μ : PM} {V : VW} {nm sk : Nat → Int32} : sc (wr μ 22 V) nm sk = sc (wr (wr μ 22 V) 42 (kpV μ)) nm sk := by
  rw [wr_cm2, show wr μ 42 (kpV μ) = μ from wr_self]
theorem cpV_e {nj nh : Nat} {V K : VW} (h1 : nj ≤ 5) (h2 : nh ≤ 6) : EqV nj nh (cpV V K) V := by
  refine ⟨⟨rfl, rfl, rfl, rfl⟩, fun j hj => ?_, fun h hh => ?_⟩
  · show (if j < 5 then V 1 j else _) = _ ∧ (if j < 5 then V 2 j else _) = _ ∧ (if j < 5 then V 3 j else _) = _
    rw [if_pos (by omega), if_pos (by omega), if_pos (by omega)]
    exact ⟨rfl, rfl, rfl⟩
  · show (if h < 6 then V 4 h else _) = _ ∧ (if h < 6 then V 5 h else _) = _ ∧ (if h < 6 then V 6 h else _) = _ ∧ (if h < 6 then V 7 h else _) = _ ∧ (if h < 6 then V 8 h else _) = _
    rw [if_pos (by omega), if_pos (by omega), if_pos (by omega), if_pos (by omega), if_pos (by omega)]
    exact ⟨rfl, rfl, rfl, rfl, rfl⟩
theorem cpV_9 {V K : VW} {k : Nat} (h : k < 16) : cpV V K 9 k = V 9 k := by
  show (if k < 16 then V 9 k else _) = _
  rw [if_pos h]
theorem im_e {nj nh : Nat} {ν : PM} {U : VW} (h1 : nj ≤ 5) (h2 : nh ≤ 6) : EqV nj nh (bkV (sr (imH ν U) 9 (imP U (ν.1 9) 5 30 16)) U) U := by
  have hx : ∀ x h, x < 5 → h < 6 → bkV (sr (imH ν U) 9 (imP U (ν.1 9) 5 30 16)) U (4 + x) h = U (4 + x) h := by
    intro x h hx hh
    rw [bkV_h hx hh]
    show (if 5 + (5 * h + x) < 5 then _ else if 5 + (5 * h + x) < 35 then (if 5 + (5 * h + x) < 5 + 30 then U (4 + (5 + (5 * h + x) - 5) % 5) ((5 + (5 * h + x) - 5) / 5) else _) else _) = _
    rw [if_neg (by omega), if_pos (by omega), if_pos (by omega), show (5 + (5 * h + x) - 5) % 5 = x by omega, show (5 + (5 * h + x) - 5) / 5 = h by omega]
  refine ⟨⟨rfl, rfl, rfl, rfl⟩, fun j hj => ⟨rfl, rfl, ?_⟩, fun h hh => ⟨hx 0 h (by decide) (by omega), hx 1 h (by decide) (by omega), hx 2 h (by decide) (by omega), hx 3 h (by decide) (by omega), hx 4 h (by decide) (by omega)⟩⟩
  rw [bkV_3 (by omega)]
  show (if j < 5 then (if j < 5 then U 3 j else _) else _) = _
  rw [if_pos (by omega), if_pos (by omega)]
theorem im_9 {ν : PM} {U : VW} {k : Nat} (h : k < 16) : bkV (sr (imH ν U) 9 (imP U (ν.1 9) 5 30 16)) U 9 k = U 9 k := by
  rw [bkV_9 h]
  show (if 35 + k < 5 then _ else if 35 + k < 35 then _ else if 35 + k < 35 + 16 then U 9 (35 + k - 35) else _) = _
  rw [if_neg (by omega), if_neg (by omega), if_pos (by omega), show 35 + k - 35 = k by omega]
theorem OP_image {l : Launch} : OPI l yX7_image cX7_image 1 yX8_image cX8_image 2 [] := by
  rintro μ ν ⟨μ0, V, nm, sk, ν0, U, nm2, sk2, st, rfl, rfl, r⟩
  obtain ⟨nj, nh, hA, hB, hT, hW, hS, hI⟩ := id r
  have e := hA.2.2.2.2.1
  refine ⟨V 0 1, 2, 1, PC (si (wr μ0 42 (cpV V (kpV μ0))) 0 5 1) V, PN (sr (imH ν0 U) 9 (imP U (ν0.1 9) 5 30 16)) U, by decide, by decide, ?_, CT.mono T_X8_image (QI.mono fun x m g => ⟨g.1.trans e.1.1.symm, pn_a g.2⟩), fun a b => INV_of ?_⟩
  · rw [m42]
    refine CT.mono T_X7_image (QI.mono fun x m g => ⟨g.1, pc_a (nm := nm) (sk := sk) (g.2.trans ?_)⟩)
    rw [wr_cm2, si_sc (by decide) (by decide), si_wrO (by omega)]
  · obtain ⟨n, b1, b2, b3, b4, b5, ⟨t, b6, b8⟩, b7⟩ := id hB
    have hk : ∀ r, r < 10 → kpV (si (wr μ0 42 (cpV V (kpV μ0))) 0 5 1) r = cpV V (kpV μ0) r := by
      intro r hr
      show (si (wr μ0 42 (cpV V (kpV μ0))) 0 5 1).1 (42 + r) = _
      rw [si_other _ _ _ _ (by omega), rd_wr hr]
    have hK : IA nj nh (kpV (si (wr μ0 42 (cpV V (kpV μ0))) 0 5 1)) U := by
      refine IA_V hA ?_ ?_
      · have c := cpV_e (nj := nj) (nh := nh) (V := V) (K := kpV μ0) hA.2.1 hA.2.2.2.1
        unfold EqV
        rw [hk 0 (by decide), hk 1 (by decide), hk 2 (by decide), hk 3 (by decide), hk 4 (by decide), hk 5 (by decide), hk 6 (by decide), hk 7 (by decide), hk 8 (by decide)]
        exact c
      · intro k hk9
        rw [hk 9 (by decide), cpV_9 hk9]
    have hc (x : Nat) (h1 : x ≠ 0) (h2 : x < 42) : (si (wr μ0 42 (cpV V (kpV μ0))) 0 5 1).1 x = μ0.1 x := by
      rw [si_other _ _ _ _ h1, rd_wrO (by omega)]
    refine ⟨nj, nh, hA, IB_c hB (hc 1 (by decide) (by decide)) (hc 2 (by decide) (by decide)) (hc 3 (by decide) (by decide)) rfl rfl rfl, ?_, hW, ?_, Or.inr ⟨rfl, rfl, nj, nh, Nat.le_refl _, IA_U hK (im_e hA.2.1 hA.2.2.2.1) (fun k hk => im_9 hk), n, t, by rw [hc 1 (by decide) (by decide)]; exact b3, b2, b6, by rw [hk 0 (by decide)]; exact b8⟩⟩
    · obtain ⟨q, t1, t2, t3, t4⟩ := hT
      exact ⟨q, t1, by rw [hc 6 (by decide) (by decide)]; exact t2, t3, fun i => by rw [hc 7 (by decide) (by decide)]; exact t4 i⟩
    · obtain ⟨s1, s2, s3, s4⟩ := hS
      refine ⟨by rw [hc 19 (by decide) (by decide)]; exact s1, by rw [hc 20 (by decide) (by decide)]; exact s2, by rw [hc 21 (by decide) (by decide)]; exact s3, fun s hs => by rw [hc 20 (by decide) (by decide)]; exact s4 s hs⟩
theorem OP_back {l : Launch} : OPI l yX7_back cX7_back 1 yX8_back cX8_back 2 [] := by
  rintro μ ν ⟨μ0, V, nm, sk, ν0, U, nm2, sk2, st, rfl, rfl, r⟩
  obtain ⟨nj, nh, hA, hB, hT, hW, hS, hI⟩ := id r
  have h7 := T_X7_back (l := l) (μ := μ0) (V := V) (K := kpV μ0) (nm := nm) (sk := sk)
  rw [show wr μ0 42 (kpV μ0) = μ0 from wr_self] at h7
  rcases id hI with ⟨i1, i2⟩ | ⟨i1, i2, kj, kh, i3, i4, n, t, i5, i6, i7, i8⟩
  · refine ⟨-3, 2, 1, PC μ0 V, PN ν0 U, by decide, by decide, CT.mono h7 (QI.mono fun x m g => ?_), CT.mono T_X8_back (QI.mono fun x m g => ?_), fun a b => INV_of r⟩
    · rw [if_pos i1, if_pos i1] at g
      exact ⟨g.1, pc_a g.2⟩
    · rw [if_pos i2, if_pos i2] at g
      exact ⟨g.1, pn_a g.2⟩
  · have z1 : ¬ μ0.1 0 5 = 0 := by rw [i1]; decide
    have z2 : ¬ ν0.1 0 14 = 0 := by rw [i2]; decide
    have hA2 : IA kj kh (cpV (kpV μ0) V) (bkV ν0 U) := IA_V i4 (cpV_e i4.2.1 i4.2.2.2.1) (fun k hk => cpV_9 hk)
    refine ⟨kpV μ0 0 1, 2, 1, PC μ0 (cpV (kpV μ0) V), PN ν0 (bkV ν0 U), by decide, by decide, CT.mono h7 (QI.mono fun x m g => ?_), CT.mono T_X8_back (QI.mono fun x m g => ?_), fun a b => INV_of ?_⟩
    · rw [if_neg z1, if_neg z1] at g
      exact ⟨g.1, pc_a g.2⟩
    · rw [if_neg z2, if_neg z2] at g
      exact ⟨g.1.trans i4.2.2.2.2.1.1.1.symm, pn_a g.2⟩
    · obtain ⟨n', b1, b2, b3, b4, b5, b6, b7⟩ := hB
      have en : n' = n := (nI_eq (by omega) (by omega)).1 (b3.symm.trans i5)
      subst en
      exact ⟨kj, kh, hA2, ⟨n', b1, b2, b3, b4, b5, ⟨t, i7, i8⟩, b7⟩, hT, hW, hS, Or.inr ⟨i1, i2, kj, kh, Nat.le_refl _, IA_bk i4 (fun _ _ => ⟨rfl, rfl⟩), n', t, i5, i6, i7, i8⟩⟩
