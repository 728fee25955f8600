/-! WHAT THE CLASS'S MEMORY AND THE MODEL'S HOLD OF EACH OTHER -/
def IA (nj nh : Nat) (V U : VW) : Prop := V 0 1 = nI nj ∧ nj ≤ 5 ∧ V 0 5 = nI nh ∧ nh ≤ 6 ∧ EqV nj nh V U ∧ (∀ k, k < 16 → V 9 k = U 9 k) ∧ (∀ h, h < nh → ∃ a, a ≤ 9999 ∧ U 5 h = nI a) ∧ (∀ j, j < nj → ∃ b, b ≤ 99 ∧ U 3 j = nI b) ∧ (∀ h, h < nh → ∃ z, z < 2 ^ nj ∧ U 7 h = nI z) ∧ (∀ j, j < nj → ∃ k, k ≤ 5 ∧ U 1 j = nI k) ∧ ∃ d, d ≤ 99 ∧ U 0 12 = nI d
def IB (μ ν : PM) (V : VW) : Prop := ∃ n, 1 ≤ n ∧ n ≤ 6 ∧ μ.1 1 0 = nI n ∧ ν.1 0 12 = nI n ∧ bookOK n (μ.1 3) ∧ (∃ t, t < n ∧ V 0 13 = nI t) ∧ ∀ t, t < n → ∀ p, p < 3 → relC ν (bk μ) t p
def IT (μ ν : PM) : Prop := ∃ q, q ≤ 160 ∧ μ.1 6 0 = nI q ∧ ν.1 0 9 = nI q ∧ ∀ i, μ.1 7 i = ν.1 6 i ∧ (i < q → ∃ z, z < 256 ∧ ν.1 6 i = nI z)
def IW (ν : PM) : Prop := ∀ j, j < 96 → ν.1 14 j = mwds.getD j 0
def IS (μ ν : PM) : Prop := μ.1 19 = ν.1 10 ∧ μ.1 20 = ν.1 11 ∧ μ.1 21 = ν.1 12 ∧ shOK μ
def kpV (μ : PM) : VW := fun r => μ.1 (42 + r)
def II (nj : Nat) (μ ν : PM) (U : VW) : Prop := (μ.1 0 5 = 0 ∧ ν.1 0 14 = 0) ∨ (μ.1 0 5 = 1 ∧ ν.1 0 14 = 1 ∧ ∃ kj kh, kj ≤ nj ∧ IA kj kh (kpV μ) (bkV ν U) ∧ ∃ n t, μ.1 1 0 = nI n ∧ n ≤ 6 ∧ t < n ∧ kpV μ 0 13 = nI t)
def REL (μ : PM) (V : VW) (ν : PM) (U : VW) : Prop := ∃ nj nh, IA nj nh V U ∧ IB μ ν V ∧ IT μ ν ∧ IW ν ∧ IS μ ν ∧ II nj μ ν U
def INV (μ ν : PM) : Prop := ∃ μ0 V nm sk ν0 U nm2 sk2 st, μ = sc (wr μ0 22 V) nm sk ∧ ν = mm ν0 U nm2 sk2 st 0 ∧ REL μ0 V ν0 U
def SameC (μ μ2 : PM) : Prop := μ2.1 0 5 = μ.1 0 5 ∧ μ2.1 6 0 = μ.1 6 0 ∧ μ2.1 1 = μ.1 1 ∧ μ2.1 2 = μ.1 2 ∧ μ2.1 3 = μ.1 3 ∧ μ2.1 7 = μ.1 7 ∧ μ2.1 19 = μ.1 19 ∧ μ2.1 20 = μ.1 20 ∧ μ2.1 21 = μ.1 21 ∧ kpV μ2 = kpV μ
def SameN (ν ν2 : PM) : Prop := (ν2.1 0 9 = ν.1 0 9 ∧ ν2.1 0 12 = ν.1 0 12 ∧ ν2.1 0 14 = ν.1 0 14 ∧ ν2.1 0 15 = ν.1 0 15 ∧ ν2.1 0 16 = ν.1 0 16 ∧ ν2.1 0 17 = ν.1 0 17 ∧ ν2.1 0 18 = ν.1 0 18) ∧ ν2.1 6 = ν.1 6 ∧ ν2.1 7 = ν.1 7 ∧ ν2.1 8 = ν.1 8 ∧ ν2.1 9 = ν.1 9 ∧ ν2.1 10 = ν.1 10 ∧ ν2.1 11 = ν.1 11 ∧ ν2.1 12 = ν.1 12 ∧ ν2.1 14 = ν.1 14
theorem SameC.rfl' (μ : PM) : SameC μ μ := ⟨rfl, rfl, rfl, rfl, rfl, rfl, rfl, rfl, rfl, rfl⟩
theorem SameN.rfl' (ν : PM) : SameN ν ν := ⟨⟨rfl, rfl, rfl, rfl, rfl, rfl, rfl⟩, rfl, rfl, rfl, rfl, rfl, rfl, rfl, rfl⟩
theorem relC_s {μ ν μ2 ν2 : PM} (h : SameC μ μ2) (g : SameN ν ν2) {t p : Nat} (r : relC ν (bk μ) t p) : relC ν2 (bk μ2) t p := by
  obtain ⟨_, _, _, h2, h3, _⟩ := h
  obtain ⟨_, _, g7, g8, _⟩ := g
  unfold relC bk at r ⊢
  rw [h2, h3, g7, g8]
  exact r
theorem REL.same {μ ν μ2 ν2 : PM} {V U : VW} (h : SameC μ μ2) (g : SameN ν ν2) (r : REL μ V ν U) : REL μ2 V ν2 U := by
  obtain ⟨nj, nh, a, ⟨n, b1, b2', b3, b4, b5, b6, b7⟩, ⟨q, t1, t2, t3, t4⟩, w, ⟨s1, s2, s3, s4⟩, i⟩ := r
  have h' := h
  have g' := g
  obtain ⟨hk, hz, h1, h2, h3, h7, h19, h20, h21, hK⟩ := h
  obtain ⟨⟨g9, g12, g14, g15, g16, g17, g18⟩, c6, c7, c8, c9, c10, c11, c12, c14⟩ := g
  have hb : ∀ U, bkV ν2 U = bkV ν U := fun U => by
    unfold bkV bkV0
    rw [c9, g15, g16, g17, g18]
  refine ⟨nj, nh, a, ⟨n, b1, b2', by rw [h1]; exact b3, by rw [g12]; exact b4, by rw [h3]; exact b5, b6, fun t ht p hp => relC_s h' g' (b7 t ht p hp)⟩, ⟨q, t1, by rw [hz]; exact t2, by rw [g9]; exact t3, fun i => by rw [h7, c6]; exact t4 i⟩, fun j hj => by rw [c14]; exact w j hj, ⟨by rw [h19, c10]; exact s1, by rw [h20, c11]; exact s2, by rw [h21, c12]; exact s3, fun s hs => by rw [h20]; exact s4 s hs⟩, ?_⟩
  unfold II
  rw [hk, g14, hK, hb, h1]
  exact i
def PC (μ : PM) (V : VW) (m : PM) : Prop := ∃ μ2 nm sk, SameC μ μ2 ∧ m = sc (wr μ2 22 V) nm sk
def PN (ν : PM) (U : VW) (m : PM) : Prop := ∃ ν2 nm sk st, SameN ν ν2 ∧ m = mm ν2 U nm sk st 0
theorem INV_of {μ ν m1 m2 : PM} {V U : VW} (r : REL μ V ν U) (h1 : PC μ V m1) (h2 : PN ν U m2) : INV m1 m2 := by
  obtain ⟨μ2, nm, sk, s1, rfl⟩ := h1
  obtain ⟨ν2, nm2, sk2, st, s2, rfl⟩ := h2
  exact ⟨μ2, V, nm, sk, ν2, U, nm2, sk2, st, rfl, rfl, r.same s1 s2⟩
theorem SameC_32 {μ : PM} {T : VW} : SameC μ (wr μ 32 T) := ⟨rfl, rfl, rfl, rfl, rfl, rfl, rfl, rfl, rfl, funext fun r => by
  show (wr μ 32 T).1 (42 + r) = μ.1 (42 + r)
  exact rd_wrO (by omega)⟩
theorem pc_a {μ m : PM} {V : VW} {nm sk : Nat → Int32} (h : m = sc (wr μ 22 V) nm sk) : PC μ V m := ⟨μ, nm, sk, SameC.rfl' μ, h⟩
theorem pc_b {μ m : PM} {V : VW} (h : ∃ nm sk, m = sc (wr μ 22 V) nm sk) : PC μ V m := by
  obtain ⟨nm, sk, h⟩ := h
  exact pc_a h
theorem pc_c {μ m : PM} {V : VW} (h : ∃ T nm sk, m = sc (wr (wr μ 22 V) 32 T) nm sk) : PC μ V m := by
  obtain ⟨T, nm, sk, h⟩ := h
  exact ⟨wr μ 32 T, nm, sk, SameC_32, by rw [h, wr_comm]⟩
theorem m32 {μ : PM} {V : VW} {nm sk : Nat → Int32} : sc (wr μ 22 V) nm sk = sc (wr (wr μ 22 V) 32 (fun r => μ.1 (32 + r))) nm sk := by
  have h : wr (wr μ 22 V) 32 (fun r => μ.1 (32 + r)) = wr μ 22 V := by
    rw [← wr_comm]
    rw [show wr μ 32 (fun r => μ.1 (32 + r)) = μ from wr_self]
  rw [h]
theorem pn_a {ν m : PM} {U : VW} {nm sk st : Nat → Int32} (h : m = mm ν U nm sk st 0) : PN ν U m := ⟨ν, nm, sk, st, SameN.rfl' ν, h⟩
theorem pn_b {ν m : PM} {U : VW} {st : Nat → Int32} (h : ∃ nm sk, m = mm ν U nm sk st 0) : PN ν U m := by
  obtain ⟨nm, sk, h⟩ := h
  exact pn_a h
theorem pn_c {ν m : PM} {U : VW} (h : ∃ nm sk st, m = mm ν U nm sk st 0) : PN ν U m := by
  obtain ⟨nm, sk, st, h⟩ := h
  exact pn_a h
theorem pn_s {ν m : PM} {U : VW} {nm sk st : Nat → Int32} (h : ∃ mo, m = mm (si ν 0 38 mo) U nm sk st 0) : PN ν U m := by
  obtain ⟨mo, h⟩ := h
  exact ⟨si ν 0 38 mo, nm, sk, st, ⟨⟨rfl, rfl, rfl, rfl, rfl, rfl, rfl⟩, rfl, rfl, rfl, rfl, rfl, rfl, rfl, rfl⟩, h⟩
theorem pn_g {ν m : PM} {U : VW} {nm sk st : Nat → Int32} (h : ∃ g d, m = mm (gM ν g d) U nm sk st 0) : PN ν U m := by
  obtain ⟨g, d, h⟩ := h
  exact ⟨gM ν g d, nm, sk, st, ⟨⟨rfl, rfl, rfl, rfl, rfl, rfl, rfl⟩, rfl, rfl, rfl, rfl, rfl, rfl, rfl, rfl⟩, h⟩
theorem pn_f {ν m : PM} {U : VW} (h : ∃ f nm sk st, m = mm (sr ν 19 f) U nm sk st 0) : PN ν U m := by
  obtain ⟨f, nm, sk, st, h⟩ := h
  exact ⟨sr ν 19 f, nm, sk, st, ⟨⟨rfl, rfl, rfl, rfl, rfl, rfl, rfl⟩, rfl, rfl, rfl, rfl, rfl, rfl, rfl, rfl⟩, h⟩
/-- ONE CALL ON BOTH: the same answer, and what they hold of each other goes on -/
def OPI (l : Launch) (y1 : MethodName) (c1 : ByteArray) (m1 : Nat) (y2 : MethodName) (c2 : ByteArray) (m2 : Nat) (as : List Value) : Prop := ∀ μ ν, INV μ ν → ∃ (v : Int32) (k1 k2 : Nat) (P1 P2 : PM → Prop), k1 ≤ 60 ∧ k2 ≤ 60 ∧ CT l SC y1 c1 m1 (some .int) k1 (.ref 0 :: as) μ (QI fun x m => x = v ∧ P1 m) ∧ CT l SM y2 c2 m2 (some .int) k2 (.ref 0 :: as) ν (QI fun x m => x = v ∧ P2 m) ∧ ∀ a b, P1 a → P2 b → INV a b
def OPL (l : Launch) (y1 : MethodName) (c1 : ByteArray) (m1 : Nat) (y2 : MethodName) (c2 : ByteArray) (m2 : Nat) (as : List Value) : Prop := ∀ μ ν, INV μ ν → ∃ (v : Int64) (k1 k2 : Nat) (P1 P2 : PM → Prop), k1 ≤ 60 ∧ k2 ≤ 60 ∧ CT l SC y1 c1 m1 (some .long) k1 (.ref 0 :: as) μ (QL fun x m => x = v ∧ P1 m) ∧ CT l SM y2 c2 m2 (some .long) k2 (.ref 0 :: as) ν (QL fun x m => x = v ∧ P2 m) ∧ ∀ a b, P1 a → P2 b → INV a b
theorem QI.mono {R S : Int32 → PM → Prop} (h : ∀ x m, R x m → S x m) : ∀ r m, QI R r m → QI S r m := by
  rintro r m ⟨x, e, g⟩
  exact ⟨x, e, h x m g⟩
theorem QL.mono {R S : Int64 → PM → Prop} (h : ∀ x m, R x m → S x m) : ∀ r m, QL R r m → QL S r m := by
  rintro r m ⟨x, e, g⟩
  exact ⟨x, e, h x m g⟩
/-- what a call needs of the two -/
theorem REL.okC {μ ν : PM} {V U : VW} (r : REL μ V ν U) : okC μ V := by
  obtain ⟨_, _, _, ⟨n, b1, b2', b3, b4, b5, ⟨t, b6, b8⟩, b7⟩, _⟩ := r
  exact ⟨n, t, b3, b5, b6, b8⟩
theorem REL.okL {μ ν : PM} {V U : VW} (r : REL μ V ν U) : okL ν (bk μ) U := by
  obtain ⟨_, _, ⟨_, _, _, _, ae, _⟩, ⟨n, b1, b2', b3, b4, b5, ⟨t, b6, b8⟩, b7⟩, _⟩ := r
  exact ⟨t, by omega, by rw [← ae.1.2.2.2]; exact b8, fun p hp => b7 t b6 p hp⟩
theorem IA.pw {nj nh : Nat} {V U : VW} (h : IA nj nh V U) : ∀ j k, j < nj → k < nh → pwOK U j k := fun j k hj hk => ⟨h.2.2.2.2.2.2.1 k hk, h.2.2.2.2.2.2.2.1 j hj⟩
theorem IA.u1 {nj nh : Nat} {V U : VW} (h : IA nj nh V U) : U 0 1 = nI nj := h.2.2.2.2.1.1.1 ▸ h.1
theorem IA.u5 {nj nh : Nat} {V U : VW} (h : IA nj nh V U) : U 0 5 = nI nh := h.2.2.2.2.1.1.2.1 ▸ h.2.2.1
