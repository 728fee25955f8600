/-! the model's reading of an E against the class's: states of signs -/
def simR (a b : Bool × List MT × List Int32) : Prop := a.1 = b.1 ∧ a.2.1 = b.2.1 ∧ (a.1 = true → a.2.2 = b.2.2)
theorem simR.rfl' (a : Bool × List MT × List Int32) : simR a a := ⟨rfl, rfl, fun _ => rfl⟩
theorem simR.trans {a b c : Bool × List MT × List Int32} (h : simR a b) (g : simR b c) : simR a c := ⟨h.1.trans g.1, h.2.1.trans g.2.1, fun e => (h.2.2 e).trans (g.2.2 (h.1.symm.trans e))⟩
theorem simR.of {a b : Bool × List MT × List Int32} (h : a = b) : simR a b := h ▸ simR.rfl' a
def topLt (r : Int32) : List Int32 → Prop
  | [] => True
  | s :: _ => rkF s < r
theorem unw_top {r : Int32} {hs : List Int32} {o : Int32} {w : List Int32} (h : topLt r hs) : unw r hs o w = (hs, o, w) := by
  cases hs with
  | nil => rfl
  | cons s t =>
    show (if r ≤ rkF s then _ else _) = _
    rw [if_neg (Int32.not_le.mpr h)]
theorem unw_unw {l r : Int32} (h : l ≤ r) : ∀ (hs : List Int32) (o : Int32) (w : List Int32), unw l (unw r hs o w).1 (unw r hs o w).2.1 (unw r hs o w).2.2 = unw l hs o w
  | [], _, _ => rfl
  | s :: t, o, w => by
    by_cases e : r ≤ rkF s
    · have e1 : unw r (s :: t) o w = unw r t (o - opF s) (w ++ [s]) := by
        show (if r ≤ rkF s then _ else _) = _
        rw [if_pos e]
      have e2 : unw l (s :: t) o w = unw l t (o - opF s) (w ++ [s]) := by
        show (if l ≤ rkF s then _ else _) = _
        rw [if_pos (Int32.le_trans h e)]
      rw [e1, e2]
      exact unw_unw h t _ _
    · have e1 : unw r (s :: t) o w = (s :: t, o, w) := by
        show (if r ≤ rkF s then _ else _) = _
        rw [if_neg e]
      rw [e1]
theorem unw_le {l r : Int32} (h : l ≤ r) {h1 h2 : List Int32} {o1 o2 : Int32} {w1 w2 : List Int32} (e : unw r h1 o1 w1 = unw r h2 o2 w2) : unw l h1 o1 w1 = unw l h2 o2 w2 := by
  rw [← unw_unw h h1 o1 w1, ← unw_unw h h2 o2 w2, e]
theorem unw_ps {r s : Int32} {hs w : List Int32} {o : Int32} (h : r ≤ rkF s) : unw r (s :: hs) o w = unw r hs (o - opF s) (w ++ [s]) := by
  show (if r ≤ rkF s then _ else _) = _
  rw [if_pos h]
/-- what waits to be chosen doesn't matter behind a value -/
theorem eL_mn : ∀ (ts : List MT) (m1 m2 : Bool) (hs : List Int32) (o : Int32) (w : List Int32), eL ts false m1 hs o w = eL ts false m2 hs o w
  | [], _, _, _, _, _ => rfl
  | t :: ts, m1, m2, hs, o, w => by
    unfold eL
    rw [if_neg Bool.false_ne_true, if_neg Bool.false_ne_true]
    by_cases h1 : t.2.2.1 = 59
    · rw [if_pos h1, if_pos h1]
    · rw [if_neg h1, if_neg h1]
      by_cases h2 : t.2.2.1 = 41
      · rw [if_pos h2, if_pos h2]
        cases (unw 1 hs o w).1 with
        | nil => rfl
        | cons x h3 => exact eL_mn ts m1 m2 _ _ _
      · rw [if_neg h2, if_neg h2]
/-- one step behind a value -/
theorem eF_59 {t : MT} {ts : List MT} {mn : Bool} {hs w : List Int32} {o : Int32} (h : t.2.2.1 = 59) : eL (t :: ts) false mn hs o w = ((unw 1 hs o w).1.isEmpty, t :: ts, (unw 1 hs o w).2.2) := by
  unfold eL
  rw [if_neg Bool.false_ne_true, if_pos h]
theorem eF_41e {t : MT} {ts : List MT} {mn : Bool} {hs w : List Int32} {o : Int32} (h : t.2.2.1 = 41) (e : (unw 1 hs o w).1 = []) : eL (t :: ts) false mn hs o w = (false, t :: ts, (unw 1 hs o w).2.2) := by
  unfold eL
  rw [if_neg Bool.false_ne_true, if_neg (by rw [h]; decide), if_pos h, e]
theorem eF_41 {t : MT} {ts : List MT} {mn : Bool} {hs w h2 w2 : List Int32} {o o2 x : Int32} (h : t.2.2.1 = 41) (e : unw 1 hs o w = (x :: h2, o2, w2)) : eL (t :: ts) false mn hs o w = eL ts false mn (unw 7 h2 (o2 - 1) w2).1 (unw 7 h2 (o2 - 1) w2).2.1 (unw 7 h2 (o2 - 1) w2).2.2 := by
  conv => lhs; unfold eL
  rw [if_neg Bool.false_ne_true, if_neg (by rw [h]; decide), if_pos h, e]
theorem eF_no {t : MT} {ts : List MT} {mn : Bool} {hs w : List Int32} {o : Int32} (h1 : ¬ t.2.2.1 = 59) (h2 : ¬ t.2.2.1 = 41) (h3 : sgF t.2.2.1 = -1) : eL (t :: ts) false mn hs o w = (false, t :: ts, w) := by
  unfold eL
  rw [if_neg Bool.false_ne_true, if_neg h1, if_neg h2, if_pos h3]
theorem eF_bad {t : MT} {ts : List MT} {mn : Bool} {hs w : List Int32} {o sg : Int32} (h1 : ¬ t.2.2.1 = 59) (h2 : ¬ t.2.2.1 = 41) (h3 : sgF t.2.2.1 = sg) (h4 : ¬ sg = -1) (h5 : btO sg (unw (lsF sg) hs o w).1 = false) : eL (t :: ts) false mn hs o w = (false, t :: ts, (unw (lsF sg) hs o w).2.2) := by
  unfold eL
  rw [if_neg Bool.false_ne_true, if_neg h1, if_neg h2, h3, if_neg h4, h5, if_neg Bool.false_ne_true]
theorem eF_go {t : MT} {ts : List MT} {mn : Bool} {hs w h2' w2 : List Int32} {o o2 sg l : Int32} (h1 : ¬ t.2.2.1 = 59) (h2 : ¬ t.2.2.1 = 41) (h3 : sgF t.2.2.1 = sg) (h4 : ¬ sg = -1) (hl : lsF sg = l) (e : unw l hs o w = (h2', o2, w2)) (h5 : btO sg h2' = true) : eL (t :: ts) false mn hs o w = eL ts true (decide (sg ≤ 12)) (sg :: h2') o2 w2 := by
  conv => lhs; unfold eL
  rw [if_neg Bool.false_ne_true, if_neg h1, if_neg h2, h3, if_neg h4, hl, e]
  show (if btO sg h2' = true then _ else _) = _
  rw [if_pos h5]
/-- one step where a value is wanted -/
theorem eT_num {t : MT} {ts : List MT} {mn : Bool} {hs w : List Int32} {o c : Int32} (h : (t.2.2.1 = 1 ∧ c = 100000 + t.2.2.2) ∨ (t.2.2.1 = 2 ∧ c = t.2.2.2)) : eL (t :: ts) true mn hs o w = eL ts false mn (unw 7 hs o (w ++ [c])).1 (unw 7 hs o (w ++ [c])).2.1 (unw 7 hs o (w ++ [c])).2.2 := by
  conv => lhs; unfold eL
  rcases h with ⟨h, e⟩ | ⟨h, e⟩
  · rw [if_pos rfl, if_pos (Or.inl h), if_pos h, ← e]
  · rw [if_pos rfl, if_pos (Or.inr h), if_neg (by rw [h]; decide), ← e]
theorem eT_not {t : MT} {ts : List MT} {hs w : List Int32} {o : Int32} (h : t.2.2.1 = 6) : eL (t :: ts) true true hs o w = if o = 5 then (false, t :: ts, w) else eL ts true true (13 :: hs) (o + 1) w := by
  conv => lhs; unfold eL
  rw [if_pos rfl, if_neg (by rw [h]; decide), if_pos ⟨h, rfl⟩]
theorem eT_neg {t : MT} {ts : List MT} {mn : Bool} {hs w : List Int32} {o : Int32} (h : t.2.2.1 = 45) : eL (t :: ts) true mn hs o w = if o = 5 then (false, t :: ts, w) else eL ts true false (19 :: hs) (o + 1) w := by
  conv => lhs; unfold eL
  rw [if_pos rfl, if_neg (by rw [h]; decide), if_neg (fun g => absurd (h.symm.trans g.1) (by decide)), if_pos h]
theorem eT_par {t : MT} {ts : List MT} {mn : Bool} {hs w : List Int32} {o : Int32} (h : t.2.2.1 = 40) : eL (t :: ts) true mn hs o w = if o = 5 then (false, t :: ts, w) else eL ts true true (0 :: hs) (o + 1) w := by
  conv => lhs; unfold eL
  rw [if_pos rfl, if_neg (by rw [h]; decide), if_neg (fun g => absurd (h.symm.trans g.1) (by decide)), if_neg (by rw [h]; decide), if_pos h]
theorem eT_no {t : MT} {ts : List MT} {mn : Bool} {hs w : List Int32} {o : Int32} (h1 : ¬ t.2.2.1 = 1) (h2 : ¬ t.2.2.1 = 2) (h3 : mn = true → ¬ t.2.2.1 = 6) (h4 : ¬ t.2.2.1 = 45) (h5 : ¬ t.2.2.1 = 40) : eL (t :: ts) true mn hs o w = (false, t :: ts, w) := by
  unfold eL
  rw [if_pos rfl, if_neg (fun g => g.elim h1 h2), if_neg (fun g => h3 g.2 g.1), if_neg h4, if_neg h5]
/-- the class's step and the model's code -/
def mcF (c : Int32) : Int32 := if 0 ≤ c then c + 100000 else if -6 ≤ c then -1 - c else if c = -10 then 13 else if c = -11 then 19 else if c = -12 then 11 else if c = -13 then 12 else if c = -14 then 14 else if c = -15 then 15 else if c = -16 then 16 else if c = -17 then 17 else 18
def dpR : List Int32 → Nat → Option Nat
  | [], d => some d
  | c :: cs, d => if -6 ≤ c then (if d < 64 then dpR cs (d + 1) else none) else if -11 ≤ c then (if 1 ≤ d then dpR cs d else none) else (if 2 ≤ d then dpR cs (d - 1) else none)
theorem dpR_app : ∀ (a b : List Int32) (d : Nat), dpR (a ++ b) d = (dpR a d).bind (dpR b)
  | [], _, _ => rfl
  | c :: cs, b, d => by
    show (if -6 ≤ c then (if d < 64 then dpR (cs ++ b) (d + 1) else none) else if -11 ≤ c then (if 1 ≤ d then dpR (cs ++ b) d else none) else (if 2 ≤ d then dpR (cs ++ b) (d - 1) else none)) = (if -6 ≤ c then (if d < 64 then dpR cs (d + 1) else none) else if -11 ≤ c then (if 1 ≤ d then dpR cs d else none) else (if 2 ≤ d then dpR cs (d - 1) else none)).bind (dpR b)
    rw [dpR_app cs b, dpR_app cs b, dpR_app cs b]
    split
    · split <;> rfl
    · split
      · split <;> rfl
      · split <;> rfl
/-- a run of steps: each is one that both know, and it puts one value on the stack, with room for K -/
def SegK (K : Nat) (seg : List Int32) : Prop := (∀ c ∈ seg, encF c (mcF c)) ∧ ∀ d, d + K ≤ 64 → dpR seg d = some (d + 1)
theorem SegK.mono {K K2 : Nat} {seg : List Int32} (h : SegK K seg) (hk : K ≤ K2) : SegK K2 seg := ⟨h.1, fun d hd => h.2 d (by omega)⟩
theorem SegK.one {c : Int32} (h : -6 ≤ c) (e : encF c (mcF c)) : SegK 1 [c] := by
  refine ⟨fun x hx => by rw [List.mem_singleton.mp hx]; exact e, fun d hd => ?_⟩
  show (if -6 ≤ c then (if d < 64 then some (d + 1) else none) else _) = _
  rw [if_pos h, if_pos (by omega)]
theorem SegK.un {K : Nat} {seg : List Int32} {c : Int32} (h : SegK K seg) (h1 : ¬ -6 ≤ c) (h2 : -11 ≤ c) (e : encF c (mcF c)) : SegK K (seg ++ [c]) := by
  refine ⟨fun x hx => ?_, fun d hd => ?_⟩
  · rcases List.mem_append.mp hx with g | g
    · exact h.1 x g
    · rw [List.mem_singleton.mp g]; exact e
  · rw [dpR_app, h.2 d hd]
    show (if -6 ≤ c then _ else if -11 ≤ c then (if 1 ≤ d + 1 then some (d + 1) else none) else _) = _
    rw [if_neg h1, if_pos h2, if_pos (by omega)]
theorem SegK.bin {K K2 : Nat} {a b : List Int32} {c : Int32} (h : SegK K a) (g : SegK K2 b) (hk : K2 + 1 ≤ K) (h1 : ¬ -6 ≤ c) (h2 : ¬ -11 ≤ c) (e : encF c (mcF c)) : SegK K (a ++ b ++ [c]) := by
  refine ⟨fun x hx => ?_, fun d hd => ?_⟩
  · rcases List.mem_append.mp hx with q | q
    · rcases List.mem_append.mp q with q | q
      · exact h.1 x q
      · exact g.1 x q
    · rw [List.mem_singleton.mp q]; exact e
  · rw [dpR_app, dpR_app, h.2 d hd]
    show (dpR b (d + 1)).bind (dpR [c]) = _
    rw [g.2 (d + 1) (by omega)]
    show (if -6 ≤ c then _ else if -11 ≤ c then _ else (if 2 ≤ d + 1 + 1 then some (d + 1 + 1 - 1) else none)) = _
    rw [if_neg h1, if_neg h2, if_pos (by omega)]
    rfl
theorem enc_b {c k : Int32} (h : mcF c = k) (h2 : (c = -10 ∧ k = 13) ∨ (c = -11 ∧ k = 19) ∨ (c = -12 ∧ k = 11) ∨ (c = -13 ∧ k = 12) ∨ (c = -14 ∧ k = 14) ∨ (c = -15 ∧ k = 15) ∨ (c = -16 ∧ k = 16) ∨ (c = -17 ∧ k = 17) ∨ (c = -18 ∧ k = 18)) : encF c (mcF c) := by
  rw [h]
  exact Or.inr (Or.inr h2)
