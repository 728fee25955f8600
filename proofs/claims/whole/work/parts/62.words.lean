/-! the tokens of the two -/
def mwds : List Int32 := [121, 105, 101, 108, 100, 115, 32, 32, 102, 97, 100, 101, 115, 32, 32, 32, 109, 105, 110, 100, 115, 32, 32, 32, 116, 111, 108, 100, 32, 32, 32, 32, 104, 117, 109, 111, 117, 114, 32, 32, 109, 111, 114, 101, 32, 32, 32, 32, 100, 97, 121, 32, 32, 32, 32, 32, 112, 117, 114, 115, 101, 32, 32, 32, 104, 101, 97, 114, 101, 114, 32, 32, 111, 114, 32, 32, 32, 32, 32, 32, 97, 110, 100, 32, 32, 32, 32, 32, 110, 111, 116, 32, 32, 32, 32, 32]
def wTb : List (Nat × Nat) := [(0, 6), (7, 5), (13, 5), (19, 2), (22, 3), (26, 3), (30, 4), (35, 6), (42, 4), (47, 3), (51, 5), (57, 6)]
def wPm (k : Nat) : Nat := [0, 1, 2, 6, 7, 8, 9, 10, 11, 3, 4, 5].getD k 0
def wE (i : Nat) : Nat × Nat := wTb.getD i (0, 0)
def MMw (f : Nat → Int32) (a b : Nat) (p : Nat × Nat) : Prop := p.2 = b - a ∧ sameG f p.1 a p.2 0 = true
theorem scan_all {p : Int32 → Bool} {f : Nat → Int32} : ∀ (m a x : Nat), a ≤ x → x < scanF p f m a → p (f x) = true
  | 0, a, x, h1, h2 => absurd h2 (by show ¬ x < a; omega)
  | m + 1, a, x, h1, h2 => by
    unfold scanF at h2
    by_cases e : p (f a) = true
    · rw [if_pos e] at h2
      by_cases q : x = a
      · rw [q]; exact e
      · exact scan_all m (a + 1) x (by omega) h2
    · rw [if_neg e] at h2
      omega
theorem sameG_iff {f : Nat → Int32} {st a : Nat} : ∀ (m i : Nat), sameG f st a m i = true ↔ ∀ j, j < m → sch 2 (st + (i + j)) = f (a + (i + j))
  | 0, _ => ⟨fun _ j h => absurd h (Nat.not_lt_zero j), fun _ => rfl⟩
  | m + 1, i => by
    unfold sameG
    have ih := sameG_iff (f := f) (st := st) (a := a) m (i + 1)
    by_cases e : sch 2 (st + i) = f (a + i)
    · rw [if_pos e, ih]
      refine ⟨fun h j hj => ?_, fun h j hj => ?_⟩
      · cases j with
        | zero => exact e
        | succ j =>
          have g := h j (by omega)
          rw [show i + 1 + j = i + (j + 1) by omega] at g
          exact g
      · have g := h (j + 1) (by omega)
        rw [show i + (j + 1) = i + 1 + j by omega] at g
        exact g
    · rw [if_neg e]
      exact ⟨fun h => absurd h Bool.false_ne_true, fun h => absurd (h 0 (Nat.succ_pos m)) e⟩
theorem lkG_iff {wd f : Nat → Int32} {k a b : Nat} : ∀ (m c : Nat), lkG wd f k a b m c = true ↔ ∀ j, j < m → wd (8 * k + (c + j)) = if a + (c + j) < b then f (a + (c + j)) else 32
  | 0, _ => ⟨fun _ j h => absurd h (Nat.not_lt_zero j), fun _ => rfl⟩
  | m + 1, c => by
    unfold lkG
    have ih := lkG_iff (wd := wd) (f := f) (k := k) (a := a) (b := b) m (c + 1)
    by_cases e : wd (8 * k + c) = if a + c < b then f (a + c) else 32
    · rw [if_pos e, ih]
      refine ⟨fun h j hj => ?_, fun h j hj => ?_⟩
      · cases j with
        | zero => exact e
        | succ j =>
          have g := h j (by omega)
          rw [show c + 1 + j = c + (j + 1) by omega] at g
          exact g
      · have g := h (j + 1) (by omega)
        rw [show c + (j + 1) = c + 1 + j by omega] at g
        exact g
    · rw [if_neg e]
      exact ⟨fun h => absurd h Bool.false_ne_true, fun h => absurd (h 0 (Nat.succ_pos m)) e⟩
theorem wordG_run {f : Nat → Int32} {a b st w m : Nat} : ∀ (k i : Nat), (∀ j, j < k → sch 2 (i + j) ≠ 32) → wordG f a b (k + m) i st w = wordG f a b m (i + k) st w
  | 0, i, _ => by rw [Nat.zero_add, Nat.add_zero]
  | k + 1, i, h => by
    rw [show k + 1 + m = (k + m) + 1 by omega]
    show (if sch 2 i = 32 then _ else wordG f a b (k + m) (i + 1) st w) = _
    rw [if_neg (show ¬ sch 2 i = 32 from h 0 (Nat.succ_pos k)), wordG_run k (i + 1) (fun j hj => by rw [show i + 1 + j = i + (j + 1) by omega]; exact h (j + 1) (by omega)), show i + 1 + k = i + (k + 1) by omega]
theorem wordG_one {f : Nat → Int32} {a b : Nat} (st ln m w : Nat) (h1 : ∀ j, j < ln → sch 2 (st + j) ≠ 32) (h2 : sch 2 (st + ln) = 32) : wordG f a b (ln + (m + 1)) st st w = if (st + ln - st = b - a ∧ sameG f st a (st + ln - st) 0 = true) then w else wordG f a b m (st + ln + 1) (st + ln + 1) (w + 1) := by
  rw [wordG_run ln st h1]
  show (if sch 2 (st + ln) = 32 then _ else _) = _
  rw [if_pos h2]
def wr12 (f : Nat → Int32) (a b : Nat) : List (Nat × Nat) → Nat → Nat
  | [], _ => 0
  | p :: r, w => if p.2 = b - a ∧ sameG f p.1 a p.2 0 = true then w else wr12 f a b r (w + 1)
theorem wordG_12 {f : Nat → Int32} {a b : Nat} : wordG f a b 64 0 0 1 = wr12 f a b wTb 1 := by
  rw [show (64 : Nat) = 6 + (57 + 1) from rfl, wordG_one 0 6 57 1 (by decide) (by decide)]
  rw [show (57 : Nat) = 5 + (51 + 1) from rfl, wordG_one 7 5 51 2 (by decide) (by decide)]
  rw [show (51 : Nat) = 5 + (45 + 1) from rfl, wordG_one 13 5 45 3 (by decide) (by decide)]
  rw [show (45 : Nat) = 2 + (42 + 1) from rfl, wordG_one 19 2 42 4 (by decide) (by decide)]
  rw [show (42 : Nat) = 3 + (38 + 1) from rfl, wordG_one 22 3 38 5 (by decide) (by decide)]
  rw [show (38 : Nat) = 3 + (34 + 1) from rfl, wordG_one 26 3 34 6 (by decide) (by decide)]
  rw [show (34 : Nat) = 4 + (29 + 1) from rfl, wordG_one 30 4 29 7 (by decide) (by decide)]
  rw [show (29 : Nat) = 6 + (22 + 1) from rfl, wordG_one 35 6 22 8 (by decide) (by decide)]
  rw [show (22 : Nat) = 4 + (17 + 1) from rfl, wordG_one 42 4 17 9 (by decide) (by decide)]
  rw [show (17 : Nat) = 3 + (13 + 1) from rfl, wordG_one 47 3 13 10 (by decide) (by decide)]
  rw [show (13 : Nat) = 5 + (7 + 1) from rfl, wordG_one 51 5 7 11 (by decide) (by decide)]
  rw [show (7 : Nat) = 6 + (0 + 1) from rfl, wordG_one 57 6 0 12 (by decide) (by decide)]
  rfl
theorem wr12_or {f : Nat → Int32} {a b : Nat} : ∀ (tb : List (Nat × Nat)) (w : Nat), ((∀ p ∈ tb, ¬ MMw f a b p) ∧ wr12 f a b tb w = 0) ∨ ∃ i p, tb[i]? = some p ∧ MMw f a b p ∧ wr12 f a b tb w = w + i
  | [], _ => Or.inl ⟨fun p h => absurd h List.not_mem_nil, rfl⟩
  | p :: r, w => by
    by_cases e : MMw f a b p
    · exact Or.inr ⟨0, p, rfl, e, if_pos e⟩
    · have e2 : wr12 f a b (p :: r) w = wr12 f a b r (w + 1) := if_neg e
      rw [e2]
      rcases wr12_or r (w + 1) with ⟨h1, h2⟩ | ⟨i, q, h1, h2, h3⟩
      · refine Or.inl ⟨fun q hq => ?_, h2⟩
        rcases List.mem_cons.mp hq with g | g
        · rw [g]; exact e
        · exact h1 q g
      · exact Or.inr ⟨i + 1, q, by rw [List.getElem?_cons_succ]; exact h1, h2, by rw [h3]; omega⟩
theorem mwF_or {wd f : Nat → Int32} {a b : Nat} : ∀ (m k : Nat), ((∀ j, k ≤ j → j < k + m → ¬ (decide (b - a ≤ 8) && lkG wd f j a b 8 0) = true) ∧ mwF wd f a b m k = 12) ∨ ∃ j, k ≤ j ∧ j < k + m ∧ (decide (b - a ≤ 8) && lkG wd f j a b 8 0) = true ∧ mwF wd f a b m k = j
  | 0, k => Or.inl ⟨fun j h1 h2 => absurd h2 (by omega), rfl⟩
  | m + 1, k => by
    by_cases e : (decide (b - a ≤ 8) && lkG wd f k a b 8 0) = true
    · exact Or.inr ⟨k, Nat.le_refl _, by omega, e, if_pos e⟩
    · have e2 : mwF wd f a b (m + 1) k = mwF wd f a b m (k + 1) := if_neg e
      rw [e2]
      rcases mwF_or m (k + 1) with ⟨h1, h2⟩ | ⟨j, h1, h2, h3, h4⟩
      · refine Or.inl ⟨fun j g1 g2 => ?_, h2⟩
        by_cases q : j = k
        · rw [q]; exact e
        · exact h1 j (by omega) (by omega)
      · exact Or.inr ⟨j, by omega, by omega, h3, h4⟩
theorem wTab : ∀ k, k < 12 → (wE (wPm k)).2 ≤ 8 ∧ wPm k < 12 := by decide +kernel
theorem wPad : ∀ k, k < 12 → ∀ c, c < 8 → mwds.getD (8 * k + c) 0 = if c < (wE (wPm k)).2 then sch 2 ((wE (wPm k)).1 + c) else 32 := by decide +kernel
theorem wLet : ∀ k, k < 12 → ∀ c, c < 8 → c < (wE (wPm k)).2 → sch 2 ((wE (wPm k)).1 + c) ≠ 32 := by decide +kernel
theorem wUniq : ∀ i, i < 12 → ∀ k, k < 12 → (wE i).2 = (wE k).2 → (∀ c, c < 8 → c < (wE i).2 → sch 2 ((wE i).1 + c) = sch 2 ((wE k).1 + c)) → i = k := by decide +kernel
theorem wLen : ∀ i, i < 12 → (wE i).2 ≤ 8 := by decide +kernel
theorem lk_eq {wd f : Nat → Int32} {a b k : Nat} (hwd : ∀ j, j < 96 → wd j = mwds.getD j 0) (hlet : ∀ x, a ≤ x → x < b → f x ≠ 32) (hab : a ≤ b) (hk : k < 12) : (decide (b - a ≤ 8) && lkG wd f k a b 8 0) = true ↔ MMw f a b (wE (wPm k)) := by
  have hT := wTab k hk
  unfold MMw
  rw [Bool.and_eq_true, decide_eq_true_eq, lkG_iff, sameG_iff]
  have hpad : ∀ c, c < 8 → wd (8 * k + (0 + c)) = if c < (wE (wPm k)).2 then sch 2 ((wE (wPm k)).1 + c) else 32 := fun c hc => by
    rw [Nat.zero_add, hwd _ (by omega)]
    exact wPad k hk c hc
  constructor
  · rintro ⟨h8, h⟩
    have hl : (wE (wPm k)).2 = b - a := by
      rcases Nat.lt_trichotomy (wE (wPm k)).2 (b - a) with g | g | g
      · have e := h (wE (wPm k)).2 (by omega)
        rw [hpad _ (by omega), if_neg (by omega), Nat.zero_add, if_pos (by omega)] at e
        exact absurd e.symm (hlet _ (by omega) (by omega))
      · exact g
      · have e := h (b - a) (by omega)
        rw [hpad _ (by omega), if_pos g, Nat.zero_add, if_neg (by omega)] at e
        exact absurd e (wLet k hk _ (by omega) g)
    refine ⟨hl, fun j hj => ?_⟩
    have e := h j (by omega)
    rw [hpad _ (by omega), if_pos hj, Nat.zero_add, if_pos (by omega)] at e
    rw [Nat.zero_add]
    exact e
  · rintro ⟨hl, h⟩
    refine ⟨by omega, fun j hj => ?_⟩
    rw [hpad j hj, Nat.zero_add]
    by_cases g : j < (wE (wPm k)).2
    · rw [if_pos g, if_pos (by omega)]
      have e := h j g
      rw [Nat.zero_add] at e
      exact e
    · rw [if_neg g, if_neg (by omega)]
theorem MM_uniq {f : Nat → Int32} {a b i k : Nat} (hi : i < 12) (hk : k < 12) (h1 : MMw f a b (wE i)) (h2 : MMw f a b (wE k)) : i = k := by
  refine wUniq i hi k hk (h1.1.trans h2.1.symm) (fun c _ hc => ?_)
  have e1 := (sameG_iff _ _).mp h1.2 c hc
  have e2 := (sameG_iff _ _).mp h2.2 c (by rw [h2.1, ← h1.1]; exact hc)
  rw [Nat.zero_add] at e1 e2
  exact e1.trans e2.symm
theorem wInv : ∀ i, i < 12 → ∃ k, k < 12 ∧ wPm k = i := by decide +kernel
theorem wMd : ∀ k, k < 12 → nI (1 + wPm k) ∈ kds ∧ tkW k = tOf (nI (1 + wPm k)) ∧ (inF (nI (1 + wPm k)) 1 3 = true → vlW k = nI (1 + wPm k) - 1) ∧ (inF (nI (1 + wPm k)) 7 12 = true → vlW k = nI (1 + wPm k) - 7) ∧ nI (1 + wPm k) ≠ 13 := by decide +kernel
theorem word_md {wd f : Nat → Int32} {a b : Nat} (hwd : ∀ j, j < 96 → wd j = mwds.getD j 0) (hlet : ∀ x, a ≤ x → x < b → f x ≠ 32) (hab : a ≤ b) (num : Int32) : mdR (nI (wordG f a b 64 0 0 1)) num (tkW (mwF wd f a b 12 0)) (vlW (mwF wd f a b 12 0)) := by
  rw [wordG_12]
  rcases wr12_or (f := f) (a := a) (b := b) wTb 1 with ⟨h1, h2⟩ | ⟨i, p, h1, h2, h3⟩
  · rcases mwF_or (wd := wd) (f := f) (a := a) (b := b) 12 0 with ⟨g1, g2⟩ | ⟨k, g1, g2, g3, g4⟩
    · rw [h2, g2]
      exact ⟨by decide, by decide, fun h => absurd h (by decide), fun h => absurd h (by decide), fun h => absurd h (by decide)⟩
    · have hk : k < 12 := by omega
      have hm := (lk_eq hwd hlet hab hk).mp g3
      have hin : ∀ i, i < 12 → wE i ∈ wTb := by decide +kernel
      exact absurd hm (h1 _ (hin _ (wTab k hk).2))
  · have hi : i < 12 := (List.getElem?_eq_some_iff.mp h1).1
    have hp : p = wE i := by
      unfold wE
      rw [List.getD_eq_getElem?_getD, h1]
      rfl
    subst hp
    obtain ⟨k, hk, hki⟩ := wInv i hi
    rcases mwF_or (wd := wd) (f := f) (a := a) (b := b) 12 0 with ⟨g1, g2⟩ | ⟨k2, g1, g2, g3, g4⟩
    · exact absurd ((lk_eq hwd hlet hab hk).mpr (by rw [hki]; exact h2)) (g1 k (Nat.zero_le _) (by omega))
    · have hk2 : k2 < 12 := by omega
      have hm := (lk_eq hwd hlet hab hk2).mp g3
      have e := MM_uniq hi (wTab k2 hk2).2 h2 hm
      subst e
      rw [h3, g4]
      obtain ⟨d1, d2, d3, d4, d5⟩ := wMd k2 hk2
      exact ⟨d1, d2, d3, d4, fun h => absurd h d5⟩
