/-! views of a world, scratch rows -/
abbrev VW : Type := Nat → Nat → Int32
def wr (μ : PM) (w : Nat) (V : VW) : PM := (fun c => if w ≤ c ∧ c < w + 10 then V (c - w) else μ.1 c, μ.2)
def sc (μ : PM) (nm sk : Nat → Int32) : PM := (fun c => if c = 4 then nm else if c = 5 then sk else μ.1 c, μ.2)
def vu (V : VW) (r j : Nat) (v : Int32) : VW := fun r' => if r' = r then upd (V r) j v else V r'
theorem PM_ext {a b : PM} (h1 : ∀ c, a.1 c = b.1 c) (h2 : a.2 = b.2) : a = b := Prod.ext (funext h1) h2
theorem isW_ge {w : Nat} (h : isW w) : 22 ≤ w := by rcases h with rfl | rfl | rfl <;> decide
theorem rd_nm {μ : PM} {nm sk : Nat → Int32} : (sc μ nm sk).1 4 = nm := rfl
theorem rd_sk {μ : PM} {nm sk : Nat → Int32} : (sc μ nm sk).1 5 = sk := rfl
theorem rd_sc {μ : PM} {nm sk : Nat → Int32} {c : Nat} (h4 : c ≠ 4) (h5 : c ≠ 5) : (sc μ nm sk).1 c = μ.1 c := by
  show (if c = 4 then nm else if c = 5 then sk else μ.1 c) = μ.1 c
  rw [if_neg h4, if_neg h5]
theorem rd_wr {μ : PM} {w : Nat} {V : VW} {r : Nat} (hr : r < 10) : (wr μ w V).1 (w + r) = V r := by
  show (if w ≤ w + r ∧ w + r < w + 10 then V (w + r - w) else μ.1 (w + r)) = V r
  rw [if_pos ⟨by omega, by omega⟩, Nat.add_sub_cancel_left]
theorem rd_wrO {μ : PM} {w : Nat} {V : VW} {c : Nat} (h : c < w ∨ w + 10 ≤ c) : (wr μ w V).1 c = μ.1 c := by
  show (if w ≤ c ∧ c < w + 10 then V (c - w) else μ.1 c) = μ.1 c
  rw [if_neg (by omega)]
theorem rdw {μ : PM} {w : Nat} {V : VW} {nm sk : Nat → Int32} {r : Nat} (hw : isW w) (hr : r < 10) : (sc (wr μ w V) nm sk).1 (w + r) = V r := by
  have := isW_ge hw
  rw [rd_sc (by omega) (by omega), rd_wr hr]
theorem rdw0 {μ : PM} {w : Nat} {V : VW} {nm sk : Nat → Int32} (hw : isW w) : (sc (wr μ w V) nm sk).1 w = V 0 := rdw (r := 0) hw (by decide)
theorem rdO {μ : PM} {w : Nat} {V : VW} {nm sk : Nat → Int32} {c : Nat} (hw : isW w) (hc : c < 4) : (sc (wr μ w V) nm sk).1 c = μ.1 c := by
  have := isW_ge hw
  rw [rd_sc (by omega) (by omega), rd_wrO (by omega)]
theorem sc_sc {μ : PM} {a b c d : Nat → Int32} : sc (sc μ a b) c d = sc μ c d := by
  refine PM_ext (fun x => ?_) rfl
  show (if x = 4 then c else if x = 5 then d else if x = 4 then a else if x = 5 then b else μ.1 x) = if x = 4 then c else if x = 5 then d else μ.1 x
  by_cases h4 : x = 4
  · rw [if_pos h4, if_pos h4]
  · rw [if_neg h4, if_neg h4, if_neg h4]
    by_cases h5 : x = 5
    · rw [if_pos h5, if_pos h5]
    · rw [if_neg h5, if_neg h5, if_neg h5]
theorem si_nm {μ : PM} {nm sk : Nat → Int32} {j : Nat} {v : Int32} : si (sc μ nm sk) 4 j v = sc μ (upd nm j v) sk := by
  refine PM_ext (fun x => ?_) rfl
  by_cases h : x = 4
  · subst h; rfl
  · rw [si_other _ _ _ _ h]
    show (if x = 4 then nm else if x = 5 then sk else μ.1 x) = if x = 4 then upd nm j v else if x = 5 then sk else μ.1 x
    rw [if_neg h, if_neg h]
theorem si_sk {μ : PM} {nm sk : Nat → Int32} {j : Nat} {v : Int32} : si (sc μ nm sk) 5 j v = sc μ nm (upd sk j v) := by
  refine PM_ext (fun x => ?_) rfl
  by_cases h : x = 5
  · subst h; rfl
  · rw [si_other _ _ _ _ h]
    show (if x = 4 then nm else if x = 5 then sk else μ.1 x) = if x = 4 then nm else if x = 5 then upd sk j v else μ.1 x
    rw [if_neg h, if_neg h]
theorem si_sc {μ : PM} {nm sk : Nat → Int32} {c j : Nat} {v : Int32} (h4 : c ≠ 4) (h5 : c ≠ 5) : si (sc μ nm sk) c j v = sc (si μ c j v) nm sk := by
  refine PM_ext (fun x => ?_) rfl
  by_cases h : x = c
  · subst h
    rw [si_same, rd_sc h4 h5, rd_sc h4 h5, si_same]
  · rw [si_other _ _ _ _ h]
    show (if x = 4 then nm else if x = 5 then sk else μ.1 x) = if x = 4 then nm else if x = 5 then sk else (si μ c j v).1 x
    rw [si_other _ _ _ _ h]
theorem si_wr {μ : PM} {w r j : Nat} {V : VW} {v : Int32} (hr : r < 10) : si (wr μ w V) (w + r) j v = wr μ w (vu V r j v) := by
  refine PM_ext (fun x => ?_) rfl
  by_cases h : x = w + r
  · subst h
    rw [si_same, rd_wr hr, rd_wr hr]
    unfold vu
    rw [if_pos rfl]
  · rw [si_other _ _ _ _ h]
    show (if w ≤ x ∧ x < w + 10 then V (x - w) else μ.1 x) = if w ≤ x ∧ x < w + 10 then vu V r j v (x - w) else μ.1 x
    by_cases hx : w ≤ x ∧ x < w + 10
    · rw [if_pos hx, if_pos hx]
      unfold vu
      rw [if_neg (by omega)]
    · rw [if_neg hx, if_neg hx]
theorem siw {μ : PM} {w r j : Nat} {V : VW} {nm sk : Nat → Int32} {v : Int32} (hw : isW w) (hr : r < 10) : si (sc (wr μ w V) nm sk) (w + r) j v = sc (wr μ w (vu V r j v)) nm sk := by
  have := isW_ge hw
  rw [si_sc (by omega) (by omega), si_wr hr]
theorem siw0 {μ : PM} {w j : Nat} {V : VW} {nm sk : Nat → Int32} {v : Int32} (hw : isW w) : si (sc (wr μ w V) nm sk) w j v = sc (wr μ w (vu V 0 j v)) nm sk := siw (r := 0) hw (by decide)
theorem wr_wr {μ : PM} {w : Nat} {V W : VW} : wr (wr μ w V) w W = wr μ w W := by
  refine PM_ext (fun x => ?_) rfl
  show (if w ≤ x ∧ x < w + 10 then W (x - w) else if w ≤ x ∧ x < w + 10 then V (x - w) else μ.1 x) = if w ≤ x ∧ x < w + 10 then W (x - w) else μ.1 x
  by_cases hx : w ≤ x ∧ x < w + 10
  · rw [if_pos hx, if_pos hx]
  · rw [if_neg hx, if_neg hx, if_neg hx]
theorem wr_self {μ : PM} {w : Nat} : wr μ w (fun r => μ.1 (w + r)) = μ := by
  refine PM_ext (fun x => ?_) rfl
  show (if w ≤ x ∧ x < w + 10 then μ.1 (w + (x - w)) else μ.1 x) = μ.1 x
  by_cases hx : w ≤ x ∧ x < w + 10
  · rw [if_pos hx, show w + (x - w) = x by omega]
  · rw [if_neg hx]
theorem sc_self {μ : PM} : sc μ (μ.1 4) (μ.1 5) = μ := by
  refine PM_ext (fun x => ?_) rfl
  show (if x = 4 then μ.1 4 else if x = 5 then μ.1 5 else μ.1 x) = μ.1 x
  by_cases h4 : x = 4
  · rw [if_pos h4, h4]
  · rw [if_neg h4]
    by_cases h5 : x = 5
    · rw [if_pos h5, h5]
    · rw [if_neg h5]
theorem vu_same (V : VW) (r j : Nat) (v : Int32) : vu V r j v r = upd (V r) j v := if_pos rfl
theorem vu_other (V : VW) (r j : Nat) (v : Int32) {r' : Nat} (h : r' ≠ r) : vu V r j v r' = V r' := if_neg h
/-! the law's texts: steps for a stack -/
def joinF (c a b : Int32) : Int32 :=
  if c = -12 then (if a ≠ 0 ∨ b ≠ 0 then 1 else 0) else if c = -13 then (if a ≠ 0 ∧ b ≠ 0 then 1 else 0) else if c = -14 then (if a < b then 1 else 0) else if c = -15 then (if a = b then 1 else 0)
  else if c = -16 then a + b else if c = -17 then a - b else a * b
def stepL (nm : Nat → Int32) (c : Int32) (s : List Int32) : List Int32 :=
  if -6 ≤ c then (if s.length < 64 then (if 0 ≤ c then c else nm (-1 - c).toNatClampNeg) :: s else s)
  else if -11 ≤ c then (match s with | [] => [] | a :: r => (if c = -11 then -a else if a = 0 then 1 else 0) :: r)
  else (match s with | b :: a :: r => joinF c a b :: r | q => q)
def runL (st nm : Nat → Int32) : Nat → Nat → List Int32 → List Int32
  | _, 0, s => s
  | i, n + 1, s => runL st nm (i + 1) n (stepL nm (st i) s)
/-- the stack's row holds the list: its head at the top -/
def stk (f : Nat → Int32) : List Int32 → Prop
  | [] => True
  | a :: r => f r.length = a ∧ stk f r
theorem stk_upd {f : Nat → Int32} {j : Nat} {v : Int32} : ∀ {s : List Int32}, s.length ≤ j → stk f s → stk (upd f j v) s
  | [], _, _ => trivial
  | a :: r, h, hs => by
    have hl : r.length < j := h
    refine ⟨?_, stk_upd (by omega) hs.2⟩
    rw [← hs.1]
    show (if r.length = j then v else f r.length) = f r.length
    rw [if_neg (by omega)]
theorem stk_push {f : Nat → Int32} {v : Int32} {s : List Int32} (hs : stk f s) : stk (upd f s.length v) (v :: s) :=
  ⟨if_pos rfl, stk_upd (Nat.le_refl _) hs⟩
theorem stepL_len {nm : Nat → Int32} {c : Int32} {s : List Int32} (h : s.length ≤ 64) : (stepL nm c s).length ≤ 64 := by
  unfold stepL
  split
  · split
    · simp only [List.length_cons]; omega
    · exact h
  · split
    · split
      · exact h
      · exact h
    · split
      · simp only [List.length_cons] at h ⊢; omega
      · exact h
def lawE (ends : Nat → Int32) (t p : Nat) : Nat := (ends (3 * t + p)).toNatClampNeg
def lawB (ends : Nat → Int32) (t p : Nat) : Nat := if p = 0 then 0 else lawE ends t (p - 1)
def lawF (st ends nm : Nat → Int32) (t p : Nat) : Int32 := (runL st nm (160 * t + lawB ends t p) (lawE ends t p - lawB ends t p) []).headD 0
/-- the kept texts are in order -/
def bookOK (size : Nat) (ends : Nat → Int32) : Prop := size ≤ 6 ∧ ∀ t p, t < size → p < 3 → ends (3 * t + p) = nI (lawE ends t p) ∧ lawE ends t p ≤ 160
