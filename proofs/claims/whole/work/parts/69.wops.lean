/-! ONE CALL ON BOTH, of what changes the world -/
theorem vu_ne {V : VW} {r j r' j' : Nat} {v : Int32} (h : r' = r → j' ≠ j) : vu V r j v r' j' = V r' j' := by
  rw [vu_at]
  by_cases q : r' = r
  · rw [if_pos q, if_neg (h q), q]
  · rw [if_neg q]
theorem IA_vu {nj nh r i : Nat} {V U : VW} {v : Int32} (h : IA nj nh V U) (h0 : r = 0 → i = 13 ∨ i = 12) (c1 : r ≠ 1) (c3 : r ≠ 3) (c5 : r = 5 → ∃ a, a ≤ 9999 ∧ v = nI a) (c7 : r = 7 → ∃ z, z < 2 ^ nj ∧ v = nI z) (c12 : r = 0 → i = 12 → ∃ d, d ≤ 99 ∧ v = nI d) : IA nj nh (vu V r i v) (vu U r i v) := by
  obtain ⟨a1, a2, a3, a4, e, a6, a7, a8, a9, a10, a11⟩ := h
  refine ⟨?_, a2, ?_, a4, vu_c e, fun k hk => vu_e (a6 k hk), ?_, ?_, ?_, ?_, ?_⟩
  · rw [vu_ne (fun q => by have := h0 q.symm; omega)]
    exact a1
  · rw [vu_ne (fun q => by have := h0 q.symm; omega)]
    exact a3
  · intro x hx
    by_cases q : 5 = r ∧ x = i
    · obtain ⟨q1, q2⟩ := q
      subst q1
      subst q2
      rw [vu_at, if_pos rfl, if_pos rfl]
      exact c5 rfl
    · rw [vu_ne (fun q1 q2 => q ⟨q1, q2⟩)]
      exact a7 x hx
  · intro x hx
    rw [vu_ne (fun q => absurd q.symm c3)]
    exact a8 x hx
  · intro x hx
    by_cases q : 7 = r ∧ x = i
    · obtain ⟨q1, q2⟩ := q
      subst q1
      subst q2
      rw [vu_at, if_pos rfl, if_pos rfl]
      exact c7 rfl
    · rw [vu_ne (fun q1 q2 => q ⟨q1, q2⟩)]
      exact a9 x hx
  · intro x hx
    rw [vu_ne (fun q => absurd q.symm c1)]
    exact a10 x hx
  · by_cases q : 0 = r ∧ 12 = i
    · obtain ⟨q1, q2⟩ := q
      subst q1
      subst q2
      rw [vu_at, if_pos rfl, if_pos rfl]
      exact c12 rfl rfl
    · rw [vu_ne (fun q1 q2 => q ⟨q1, q2⟩)]
      exact a11
theorem IA_U {nj nh : Nat} {V U U2 : VW} (h : IA nj nh V U) (e : EqV nj nh U2 U) (g : ∀ k, k < 16 → U2 9 k = U 9 k) : IA nj nh V U2 := by
  obtain ⟨a1, a2, a3, a4, e1, a6, a7, a8, a9, a10, a11⟩ := h
  refine ⟨a1, a2, a3, a4, EqV_trans e1 (EqV_symm e), fun k hk => (a6 k hk).trans (g k hk).symm, ?_, ?_, ?_, ?_, ?_⟩
  · intro x hx
    rw [(e.2.2 x hx).2.1]
    exact a7 x hx
  · intro x hx
    rw [(e.2.1 x hx).2.2]
    exact a8 x hx
  · intro x hx
    rw [(e.2.2 x hx).2.2.2.1]
    exact a9 x hx
  · intro x hx
    rw [(e.2.1 x hx).1]
    exact a10 x hx
  · rw [e.1.2.2.1]
    exact a11
theorem IA_V {nj nh : Nat} {V U V2 : VW} (h : IA nj nh V U) (e : EqV nj nh V2 V) (g : ∀ k, k < 16 → V2 9 k = V 9 k) : IA nj nh V2 U := by
  obtain ⟨a1, a2, a3, a4, e1, a6, a7, a8, a9, a10, a11⟩ := h
  exact ⟨e.1.1.trans a1, a2, e.1.2.1.trans a3, a4, EqV_trans e e1, fun k hk => (g k hk).trans (a6 k hk), a7, a8, a9, a10, a11⟩
theorem bkV_3 {ν : PM} {U : VW} {j : Nat} (h : j < 5) : bkV ν U 3 j = ν.1 9 j := by
  show (if j < 5 then ν.1 9 j else _) = _
  rw [if_pos h]
theorem bkV_h {ν : PM} {U : VW} {x h : Nat} (hx : x < 5) (h6 : h < 6) : bkV ν U (4 + x) h = ν.1 9 (5 + (5 * h + x)) := by
  show (if 4 + x = 3 then _ else if 4 ≤ 4 + x ∧ 4 + x ≤ 8 then (if 5 * h + (4 + x - 4) < 30 then ν.1 9 (5 + (5 * h + (4 + x - 4))) else _) else _) = _
  rw [if_neg (by omega), if_pos (by omega), if_pos (by omega), show 4 + x - 4 = x by omega]
theorem bkV_9 {ν : PM} {U : VW} {k : Nat} (h : k < 16) : bkV ν U 9 k = ν.1 9 (35 + k) := by
  show (if k < 16 then ν.1 9 (35 + k) else _) = _
  rw [if_pos h]
theorem bkV_e {kj kh : Nat} {ν : PM} {U U2 : VW} (h1 : kj ≤ 5) (h2 : kh ≤ 6) (e : ∀ j, j < kj → U2 1 j = U 1 j ∧ U2 2 j = U 2 j) : EqV kj kh (bkV ν U2) (bkV ν U) :=
  ⟨⟨rfl, rfl, rfl, rfl⟩, fun j hj => ⟨(e j hj).1, (e j hj).2, by rw [bkV_3 (by omega), bkV_3 (by omega)]⟩, fun h hh => ⟨by rw [bkV_h (x := 0) (by decide) (by omega), bkV_h (x := 0) (by decide) (by omega)], by rw [bkV_h (x := 1) (by decide) (by omega), bkV_h (x := 1) (by decide) (by omega)], by rw [bkV_h (x := 2) (by decide) (by omega), bkV_h (x := 2) (by decide) (by omega)], by rw [bkV_h (x := 3) (by decide) (by omega), bkV_h (x := 3) (by decide) (by omega)], by rw [bkV_h (x := 4) (by decide) (by omega), bkV_h (x := 4) (by decide) (by omega)]⟩⟩
theorem IA_bk {kj kh : Nat} {ν : PM} {K U U2 : VW} (h : IA kj kh K (bkV ν U)) (e : ∀ j, j < kj → U2 1 j = U 1 j ∧ U2 2 j = U 2 j) : IA kj kh K (bkV ν U2) :=
  IA_U h (bkV_e h.2.1 h.2.2.2.1 e) (fun k hk => by rw [bkV_9 hk, bkV_9 hk])
theorem II_w {nj nj2 : Nat} {μ ν : PM} {U U2 : VW} (hI : II nj μ ν U) (hle : nj ≤ nj2) (hk : ∀ j, j < nj → U2 1 j = U 1 j ∧ U2 2 j = U 2 j) : II nj2 μ ν U2 := by
  rcases hI with h | ⟨h1, h2, kj, kh, h3, h4, h5⟩
  · exact Or.inl h
  · exact Or.inr ⟨h1, h2, kj, kh, by omega, IA_bk h4 (fun j hj => hk j (by omega)), h5⟩
theorem IB_w {μ ν : PM} {V V2 : VW} (h : IB μ ν V) (e : V2 0 13 = V 0 13) : IB μ ν V2 := by
  obtain ⟨n, h1, h2, h3, h4, h5, ⟨t, h6, h7⟩, h8⟩ := h
  exact ⟨n, h1, h2, h3, h4, h5, ⟨t, h6, e.trans h7⟩, h8⟩
theorem sub_n {a b : Nat} (h : b ≤ a) : nI a - nI b = nI (a - b) := by
  have := nI_add (a - b) b
  rw [show a - b + b = a by omega] at this
  rw [← this, Int32.add_sub_cancel]
theorem mul_n (a b : Nat) : nI a * nI b = nI (a * b) := (Int32.ofNat_mul a b).symm
theorem div_n {m : Nat} (hm : m < 2 ^ 31) : nI m / 100 = nI (m / 100) := by
  apply Int32.toInt_inj.mp
  rw [Int32.toInt_div_of_ne_right _ _ (by decide), nI_toInt hm, nI_toInt (by omega)]
  show ((m : Nat) : Int).tdiv 100 = ((m / 100 : Nat) : Int)
  rfl
theorem fade_b {B : BK} {V : VW} {h a : Nat} (ha : a ≤ 9999) (e : V 5 h = nI a) : ∃ z, z ≤ 9999 ∧ V 5 h - fadeF B V h = nI z := by
  obtain ⟨s, hs, es⟩ : ∃ s, s ≤ 100 ∧ saysF B V 1 0 0 h = nI s := by
    unfold saysF boundF
    rw [if_pos rfl]
    split
    · exact ⟨0, by decide, rfl⟩
    · rename_i q
      split
      · exact ⟨100, by decide, rfl⟩
      · rename_i r
        obtain ⟨z, hz, e⟩ := nI_of q
        refine ⟨z, ?_, e⟩
        rw [e] at r
        exact (nI_leI (b := 100) hz (by decide)).mp (Int32.not_lt.mp r)
  have hm : a * s ≤ a * 100 := Nat.mul_le_mul_left a hs
  unfold fadeF
  rw [es, e, mul_n, div_n (by omega), sub_n (by omega)]
  exact ⟨_, by omega, rfl⟩
theorem IA_ng {B : BK} {nj nh : Nat} : ∀ (m h : Nat) (V U : VW), h + m ≤ nh → IA nj nh V U → IA nj nh (ngV B m h V) (ngV B m h U)
  | 0, _, _, _, _, a => a
  | m + 1, h, V, U, hm, a => by
    have e := a.2.2.2.2.1
    have ev : V 5 h - fadeF B V h = U 5 h - fadeF B U h := by rw [(e.2.2 h (by omega)).2.1, fadeF_c e (show h < nh by omega)]
    obtain ⟨z, hz, ez⟩ := a.2.2.2.2.2.2.1 h (by omega)
    unfold ngV
    rw [ev]
    exact IA_ng m (h + 1) _ _ (by omega) (IA_vu a (fun q => by omega) (by omega) (by omega) (fun _ => fade_b hz ez) (fun q => by omega) (fun q => by omega))
theorem ngX_c {B : BK} {nj nh : Nat} : ∀ (m h : Nat) (V U : VW) (s : Int32), h + m ≤ nh → EqV nj nh V U → ngX B m h V s = ngX B m h U s
  | 0, _, _, _, _, _, _ => rfl
  | m + 1, h, V, U, s, hm, e => by
    have ef := fadeF_c (B := B) e (show h < nh by omega)
    unfold ngX
    rw [(e.2.2 h (by omega)).2.1, ef]
    exact ngX_c m (h + 1) _ _ _ (by omega) (vu_c e)
theorem ngV_r {B : BK} {r : Nat} (hr : r ≠ 5) : ∀ (m h : Nat) (V : VW), ngV B m h V r = V r
  | 0, _, _ => rfl
  | m + 1, h, V => by
    unfold ngV
    rw [ngV_r hr m, vu_other _ _ _ _ hr]
theorem R_night {B : BK} {μ ν : PM} {V U : VW} {nj nh : Nat} (hA : IA nj nh V U) (hB : IB μ ν V) (hT : IT μ ν) (hW : IW ν) (hS : IS μ ν) (hI : II nj μ ν U) : REL μ (nightV B V nh) ν (nightV B U nh) := by
  have e := hA.2.2.2.2.1
  obtain ⟨d, hd, ed⟩ := hA.2.2.2.2.2.2.2.2.2.2
  unfold nightV
  rw [e.1.2.2.1]
  by_cases q : U 0 12 < 99
  · have hd2 : d < 99 := by
      rw [ed] at q
      exact (nI_ltI (b := 99) (by omega) (by decide)).1 q
    rw [if_pos q, if_pos q]
    unfold dayV
    have g := IA_ng (B := B) nh 0 V U (by omega) hA
    have c : ngV B nh 0 V 0 12 = ngV B nh 0 U 0 12 := g.2.2.2.2.1.1.2.2.1
    rw [c]
    refine ⟨nj, nh, IA_vu g (fun _ => Or.inr rfl) (by omega) (by omega) (fun q => by omega) (fun q => by omega) (fun _ _ => ⟨d + 1, by omega, ?_⟩), IB_w hB ?_, hT, hW, hS, II_w hI (Nat.le_refl _) (fun j _ => ⟨?_, ?_⟩)⟩
    · rw [ngV_r (by omega), ed, nI_1]
    · rw [vu_ne (fun _ => by omega), ngV_r (by omega)]
    · rw [vu_ne (fun _ => by omega), ngV_r (by omega)]
    · rw [vu_ne (fun _ => by omega), ngV_r (by omega)]
  · rw [if_neg q, if_neg q]
    exact ⟨nj, nh, hA, hB, hT, hW, hS, hI⟩
theorem OP_night {l : Launch} : OPI l yX7_night cX7_night 4 yX8_night cX8_night 4 [] := by
  rintro μ ν ⟨μ0, V, nm, sk, ν0, U, nm2, sk2, st, rfl, rfl, r⟩
  obtain ⟨nj, nh, hA, hB, hT, hW, hS, hI⟩ := id r
  have e := hA.2.2.2.2.1
  refine ⟨nightX (bk μ0) V nh, 6, 5, PC μ0 (nightV (bk μ0) V nh), PN ν0 (nightV (bk μ0) U nh), by decide, by decide, ?_, ?_, fun a b => INV_of (R_night hA hB hT hW hS hI)⟩
  · exact CT.mono (T_X7_night r.okC hA.2.2.1 hA.2.2.2.1) (QI.mono fun x m h => ⟨h.1, pc_b h.2⟩)
  · refine CT.mono (T_X8_night r.okL hA.u5 hA.2.2.2.1 ?_) (QI.mono fun x m h => ⟨h.1.trans ?_, pn_b h.2⟩)
    · intro q
      obtain ⟨d, hd, ed⟩ := hA.2.2.2.2.2.2.2.2.2.2
      rw [ed] at q ⊢
      rcases Nat.lt_or_ge d 99 with w | w
      · exact nI_lt (b := 99) w (by decide)
      · exact absurd (by rw [show d = 99 by omega]; rfl) q
    · unfold nightX
      rw [e.1.2.2.1, ngX_c nh 0 V U 0 (by omega) e]
theorem OP_force {l : Launch} {t : Int32} : OPI l yX7_force cX7_force 3 yX8_force cX8_force 3 [.int t] := by
  rintro μ ν ⟨μ0, V, nm, sk, ν0, U, nm2, sk2, st, rfl, rfl, r⟩
  obtain ⟨nj, nh, hA, hB, hT, hW, hS, hI⟩ := id r
  obtain ⟨n, b1, b2, b3, b4, b5, b6, b7⟩ := id hB
  have e := hA.2.2.2.2.1
  refine ⟨(if inF t 0 (nI n - 1) then V 0 13 else -2), 2, 2, PC μ0 (if inF t 0 (nI n - 1) then vu V 0 13 t else V), PN ν0 (if inF t 0 (nI n - 1) then vu U 0 13 t else U), by decide, by decide, ?_, ?_, fun a b => INV_of ?_⟩
  · exact CT.mono (T_X7_force b3) (QI.mono fun x m h => ⟨h.1, pc_a h.2⟩)
  · exact CT.mono (T_X8_force b4) (QI.mono fun x m h => ⟨h.1.trans (by rw [e.1.2.2.2]), pn_a h.2⟩)
  · by_cases q : inF t 0 (nI n - 1) = true
    · rw [if_pos q, if_pos q]
      obtain ⟨k, hk, rfl⟩ := in_true q (by omega)
      exact ⟨nj, nh, IA_vu hA (fun _ => Or.inl rfl) (by omega) (by omega) (fun q => by omega) (fun q => by omega) (fun _ q => by omega), ⟨n, b1, b2, b3, b4, b5, ⟨k, hk, by rw [vu_at, if_pos rfl, if_pos rfl]⟩, b7⟩, hT, hW, hS, II_w hI (Nat.le_refl _) (fun j _ => ⟨rfl, rfl⟩)⟩
    · rw [if_neg q, if_neg q]
      exact r
theorem OP_rate {l : Launch} {a b v : Int32} : OPI l yX7_rate cX7_rate 6 yX8_rate cX8_rate 5 [.int a, .int b, .int v] := by
  rintro μ ν ⟨μ0, V, nm, sk, ν0, U, nm2, sk2, st, rfl, rfl, r⟩
  obtain ⟨nj, nh, hA, hB, hT, hW, hS, hI⟩ := id r
  have hk : rateOK a b = true → 4 * cl a + cl b < 16 := by
    intro q
    unfold rateOK at q
    simp only [Bool.and_eq_true] at q
    have := tw_cl q.1
    have := tw_cl q.2.1
    omega
  refine ⟨rateX V a b v, 3, 3, PC μ0 (rateV V a b v), PN ν0 (rateV U a b v), by decide, by decide, CT.mono T_X7_rate (QI.mono fun x m h => ⟨h.1, pc_a h.2⟩), CT.mono T_X8_rate (QI.mono fun x m h => ⟨h.1.trans ?_, pn_a h.2⟩), fun a b => INV_of ?_⟩
  · unfold rateX
    by_cases q : rateOK a b = true
    · rw [if_pos q, if_pos q, hA.2.2.2.2.2.1 _ (hk q)]
    · rw [if_neg q, if_neg q]
  · unfold rateV
    split
    · split
      · exact ⟨nj, nh, IA_vu hA (fun q => by omega) (by omega) (by omega) (fun q => by omega) (fun q => by omega) (fun q => by omega), IB_w hB rfl, hT, hW, hS, II_w hI (Nat.le_refl _) (fun j _ => ⟨rfl, rfl⟩)⟩
      · exact r
    · exact r
