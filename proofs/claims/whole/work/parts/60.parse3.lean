/-! rows of signs of one rank -/
def lpG (ki : Nat → Int32) (acc : Int32 → Bool) (sub : RS → Bool × RS) (cof : Int32 → Int32) : Nat → RS → Bool × RS
  | 0, s => (true, s)
  | m + 1, s => if acc (ki s.1) = true then (if (sub (tkS s)).1 = true then lpG ki acc sub cof m (wrS (cof (ki s.1)) (sub (tkS s)).2) else (false, (sub (tkS s)).2)) else (true, s)
theorem lpS_G {ki : Nat → Int32} {kd c : Int32} {sub : RS → Bool × RS} : ∀ (m : Nat) (s : RS), lpS ki kd sub c m s = lpG ki (fun k => decide (k = kd)) sub (fun _ => c) m s
  | 0, _ => rfl
  | m + 1, s => by
    unfold lpS lpG
    rw [lpS_G m]
    rfl
theorem lpP_G {ki : Nat → Int32} {sub : RS → Bool × RS} : ∀ (m : Nat) (s : RS), lpP ki sub m s = lpG ki (fun k => decide (k = 43) || decide (k = 45)) sub (fun k => if decide (k = 43) = true then -16 else -17) m s
  | 0, _ => rfl
  | m + 1, s => by
    unfold lpP lpG
    rw [lpP_G m]
    rfl
/-- what the loop needs of each kind of sign -/
def ACC (r rs : Int32) (tls : Int32) (md : Bool) (k c : Int32) : Prop := tOf k ≠ 59 ∧ tOf k ≠ 41 ∧ k ≠ 14 ∧ sgF (tOf k) = mcF c ∧ mcF c ≠ -1 ∧ lsF (mcF c) = r ∧ rkF (mcF c) = r ∧ r ≠ 4 ∧ opF (mcF c) = 0 ∧ ¬ -6 ≤ c ∧ ¬ -11 ≤ c ∧ encF c (mcF c) ∧ r < rs ∧ r < tls ∧ (if md = true then decide (mcF c ≤ 12) = true else decide (mcF c ≤ 12) = false)
theorem btO_ne {s : Int32} {hs : List Int32} (h : rkF s ≠ 4) : btO s hs = true := by
  cases hs with
  | nil => rfl
  | cons x t =>
    show (!(decide (rkF s = 4) && _)) = true
    rw [decide_eq_false h]
    rfl
theorem loop_c {ki nu : Nat → Int32} {D : Nat → List MT} {tk : Nat → MT} {nt : Nat} (ht : TOK ki nu D tk nt) {sub : RS → Bool × RS} {acc : Int32 → Bool} {cof : Int32 → Int32} {op K Ks : Nat} {r rs tls : Int32} {stS : Int32 → Prop} {cp mds : Bool}
    (hsub : CLM ki D nt sub op rs tls Ks stS cp mds) (hacc : ∀ k, acc k = true → ACC r rs tls mds k (cof k)) (hK : Ks + 1 ≤ K) {hs : List Int32} (htop : topLt r hs) (hmd : mds = true ∨ mds = false) {R : Bool × List MT × List Int32} {i0 : Nat} {code0 : List Int32} (hc0 : code0.length ≤ i0) :
    ∀ (m i : Nat) (seg h2 w2 : List Int32) (o2 : Int32), i < nt → nt - i ≤ m → i0 < i → seg.length + i0 ≤ i → SegK K seg → simR R (eL (D i) false true h2 o2 w2) → unw r h2 o2 w2 = (hs, nI op, (code0 ++ seg).map mcF) → stS (ki i) → (cp = true → ki i = 60 ∨ ki i = 61 → ∃ x, simR (eL (D i) false true h2 o2 w2) (false, D i, x)) →
      RES ki D nt (lpG ki acc sub cof m (i, code0 ++ seg)) R i0 code0 r hs op K (fun k => stS k ∧ acc k = false) cp
  | 0, i, _, _, _, _, hi, hm, _, _, _, _, _, _, _ => absurd hm (by omega)
  | m + 1, i, seg, h2, w2, o2, hi, hm, hii, hsl, hsk, hR, hu, hst, hcp => by
    obtain ⟨g1, g2, g3, g4, g5⟩ := id ht
    obtain ⟨m1, m2, m3, m4, m5⟩ := g4 i hi
    have hDi := g5 i hi
    cases ha : acc (ki i) with
    | false =>
      have e : lpG ki acc sub cof (m + 1) (i, code0 ++ seg) = (true, (i, code0 ++ seg)) := by
        show (if acc (ki i) = true then _ else _) = _
        rw [ha, if_neg Bool.false_ne_true]
      rw [e]
      exact RES_t hii hi hsl hsk ⟨h2, o2, w2, hR, by rw [hu, unw_top htop], ⟨hst, ha⟩, hcp⟩
    | true =>
      obtain ⟨a1, a2, a3, a4, a5, a6, a7, a8, a9, a10, a11, a12, a13, a14, a15⟩ := hacc _ ha
      have hi1 := nt_1 ht hi a3
      have hT : sgF (tk i).2.2.1 = mcF (cof (ki i)) := by rw [m2]; exact a4
      have hE : eL (D i) false true h2 o2 w2 = eL (D (i + 1)) true (decide (mcF (cof (ki i)) ≤ 12)) (mcF (cof (ki i)) :: hs) (nI op) ((code0 ++ seg).map mcF) := by
        rw [hDi]
        exact eF_go (by rw [m2]; exact a1) (by rw [m2]; exact a2) hT a5 a6 hu (btO_ne (by rw [a7]; exact a8))
      have htl : topLt tls (mcF (cof (ki i)) :: hs) := by
        show rkF _ < tls
        rw [a7]
        exact a14
      have hmn : MNC mds (decide (mcF (cof (ki i)) ≤ 12)) (ki (i + 1)) := by
        unfold MNC
        rcases hmd with q | q
        · rw [q, if_pos rfl] at a15 ⊢
          exact a15
        · rw [q, if_neg Bool.false_ne_true] at a15 ⊢
          rw [a15]
          exact fun z => absurd z Bool.false_ne_true
      have hs1 := hsub (i + 1) (code0 ++ seg) (mcF (cof (ki i)) :: hs) _ hi1 (by rw [List.length_append]; omega) htl hmn
      obtain ⟨⟨b, j, c2⟩, hp⟩ : ∃ p, p = sub (i + 1, code0 ++ seg) := ⟨_, rfl⟩
      rw [← hp] at hs1
      have e : lpG ki acc sub cof (m + 1) (i, code0 ++ seg) = if b = true then lpG ki acc sub cof m (wrS (cof (ki i)) (j, c2)) else (false, (j, c2)) := by
        show (if acc (ki i) = true then (if (sub (i + 1, code0 ++ seg)).1 = true then lpG ki acc sub cof m (wrS (cof (ki i)) (sub (i + 1, code0 ++ seg)).2) else (false, (sub (i + 1, code0 ++ seg)).2)) else _) = _
        rw [ha, if_pos rfl, ← hp]
      rw [e]
      cases b with
      | false =>
        rw [if_neg Bool.false_ne_true]
        obtain ⟨b1, x, b2⟩ := hs1.1 rfl
        exact RES_f b1 (hR.trans ((simR.of hE).trans b2))
      | true =>
        rw [if_pos rfl]
        obtain ⟨seg2, s1, s2, s3, s4, s5, h3, o3, w3, t1, t2, t3, t4⟩ := hs1.2 rfl
        change c2 = code0 ++ seg ++ seg2 at s1
        change i + 1 < j at s2
        change j < nt at s3
        change seg2.length + (i + 1) ≤ j at s4
        change simR _ (eL (D j) false true h3 o3 w3) at t1
        change stS (ki j) at t3
        change cp = true → ki j = 60 ∨ ki j = 61 → ∃ x, simR (eL (D j) false true h3 o3 w3) (false, D j, x) at t4
        subst s1
        have hlen : (code0 ++ seg ++ seg2).length < 160 := by
          rw [List.length_append, List.length_append]
          omega
        rw [wr_ok hlen, show code0 ++ seg ++ seg2 ++ [cof (ki i)] = code0 ++ (seg ++ seg2 ++ [cof (ki i)]) by simp only [List.append_assoc]]
        refine loop_c ht hsub hacc hK htop hmd hc0 m j _ h3 w3 o3 s3 (by omega) (by omega) (by rw [List.length_append, List.length_append]; simp only [List.length_cons, List.length_nil]; omega) (SegK.bin hsk s5 hK a10 a11 a12) (hR.trans ((simR.of hE).trans t1)) ?_ t3 t4
        rw [unw_le (Int32.le_of_lt a13) t2, unw_ps (by rw [a7]; exact Int32.le_refl _), a9, Int32.sub_zero, unw_top htop, ← map_p]
        simp only [List.append_assoc]
theorem seq_c {ki nu : Nat → Int32} {D : Nat → List MT} {tk : Nat → MT} {nt : Nat} (ht : TOK ki nu D tk nt) {sub : RS → Bool × RS} {acc : Int32 → Bool} {cof : Int32 → Int32} {op K Ks : Nat} {r rs tls : Int32} {stS : Int32 → Prop} {cp mds : Bool}
    (hsub : CLM ki D nt sub op rs tls Ks stS cp mds) (hacc : ∀ k, acc k = true → ACC r rs tls mds k (cof k)) (hK : Ks + 1 ≤ K) (hmd : mds = true ∨ mds = false) (hrs : r ≤ rs) (htl : ∀ hs, topLt r hs → topLt tls hs) : CLM ki D nt (fun s => if (sub s).1 = true then lpG ki acc sub cof 160 (sub s).2 else (false, (sub s).2)) op r r K (fun k => stS k ∧ acc k = false) cp mds := by
  intro i code hs mn hi hc htop hm
  have h1 := hsub i code hs mn hi hc (htl hs htop) hm
  obtain ⟨⟨b, j, c2⟩, hp⟩ : ∃ p, p = sub (i, code) := ⟨_, rfl⟩
  rw [← hp] at h1
  show RES ki D nt (if (sub (i, code)).1 = true then lpG ki acc sub cof 160 (sub (i, code)).2 else (false, (sub (i, code)).2)) _ i code r hs op K _ cp
  rw [← hp]
  show RES ki D nt (if b = true then lpG ki acc sub cof 160 (j, c2) else (false, (j, c2))) _ i code r hs op K _ cp
  cases b with
  | false =>
    rw [if_neg Bool.false_ne_true]
    obtain ⟨b1, x, b2⟩ := h1.1 rfl
    exact RES_f b1 b2
  | true =>
    rw [if_pos rfl]
    obtain ⟨seg, s1, s2, s3, s4, s5, h2, o2, w2, t1, t2, t3, t4⟩ := h1.2 rfl
    change c2 = code ++ seg at s1
    change i < j at s2
    subst s1
    have hle := ht.1
    refine loop_c ht hsub hacc hK htop hmd hc 160 j seg h2 w2 o2 s3 (by omega) s2 s4 (SegK.mono s5 (by omega)) t1 ?_ t3 t4
    rw [unw_le hrs t2, unw_top htop]
