/-! the model's memory over a view -/
def hl (V : VW) : Nat → Int32 := fun x => V (4 + x % 5) (x / 5)
def c0 (f : Nat → Int32) (V : VW) (sn : Int32) : Nat → Int32 := fun j => if j = 0 then V 0 1 else if j = 4 then V 0 5 else if j = 6 then V 0 12 else if j = 13 then V 0 13 else if j = 36 then sn else f j
def mm (μ : PM) (V : VW) (nm sk st : Nat → Int32) (sn : Int32) : PM := (fun c => if c = 0 then c0 (μ.1 0) V sn else if c = 1 then V 1 else if c = 2 then V 2 else if c = 3 then V 3 else if c = 4 then hl V else if c = 5 then V 9 else if c = 16 then sk else if c = 17 then nm else if c = 18 then st else μ.1 c, μ.2)
theorem hl_o {V : VW} {r j : Nat} {v : Int32} (h : r < 4 ∨ r = 9) : hl (vu V r j v) = hl V := funext fun x => congrFun (vu_other V r j v (show 4 + x % 5 ≠ r by omega)) (x / 5)
theorem hl_at {V : VW} {h i : Nat} (hi : i < 5) : hl V (5 * h + i) = V (4 + i) h := by
  unfold hl
  rw [show (5 * h + i) % 5 = i by omega, show (5 * h + i) / 5 = h by omega]
theorem hl_u {V : VW} {h i : Nat} {v : Int32} (hi : i < 5) : upd (hl V) (5 * h + i) v = hl (vu V (4 + i) h v) := by
  funext x
  by_cases e : x = 5 * h + i
  · subst e
    rw [upd_s, hl_at hi, vu_at, if_pos rfl, if_pos rfl]
  · rw [upd_o _ _ e]
    unfold hl
    rw [vu_at]
    by_cases q : 4 + x % 5 = 4 + i
    · rw [if_pos q, if_neg (by omega), q]
    · rw [if_neg q]
theorem m_1 {μ : PM} {V : VW} {nm sk st : Nat → Int32} {sn v : Int32} {j : Nat} : si (mm μ V nm sk st sn) 1 j v = mm μ (vu V 1 j v) nm sk st sn := by
  refine PM_ext (fun x => ?_) rfl
  by_cases e : x = 1
  · subst e; rfl
  · rw [si_other _ _ _ _ e]
    show (if x = 0 then c0 (μ.1 0) V sn else if x = 1 then V 1 else if x = 2 then V 2 else if x = 3 then V 3 else if x = 4 then hl V else if x = 5 then V 9 else if x = 16 then sk else if x = 17 then nm else if x = 18 then st else μ.1 x) = (if x = 0 then c0 (μ.1 0) (vu V 1 j v) sn else if x = 1 then (vu V 1 j v) 1 else if x = 2 then (vu V 1 j v) 2 else if x = 3 then (vu V 1 j v) 3 else if x = 4 then hl (vu V 1 j v) else if x = 5 then (vu V 1 j v) 9 else if x = 16 then sk else if x = 17 then nm else if x = 18 then st else μ.1 x)
    rw [hl_o (by decide), if_neg e, if_neg e]
    rfl
theorem m_2 {μ : PM} {V : VW} {nm sk st : Nat → Int32} {sn v : Int32} {j : Nat} : si (mm μ V nm sk st sn) 2 j v = mm μ (vu V 2 j v) nm sk st sn := by
  refine PM_ext (fun x => ?_) rfl
  by_cases e : x = 2
  · subst e; rfl
  · rw [si_other _ _ _ _ e]
    show (if x = 0 then c0 (μ.1 0) V sn else if x = 1 then V 1 else if x = 2 then V 2 else if x = 3 then V 3 else if x = 4 then hl V else if x = 5 then V 9 else if x = 16 then sk else if x = 17 then nm else if x = 18 then st else μ.1 x) = (if x = 0 then c0 (μ.1 0) (vu V 2 j v) sn else if x = 1 then (vu V 2 j v) 1 else if x = 2 then (vu V 2 j v) 2 else if x = 3 then (vu V 2 j v) 3 else if x = 4 then hl (vu V 2 j v) else if x = 5 then (vu V 2 j v) 9 else if x = 16 then sk else if x = 17 then nm else if x = 18 then st else μ.1 x)
    rw [hl_o (by decide), if_neg e, if_neg e]
    rfl
theorem m_3 {μ : PM} {V : VW} {nm sk st : Nat → Int32} {sn v : Int32} {j : Nat} : si (mm μ V nm sk st sn) 3 j v = mm μ (vu V 3 j v) nm sk st sn := by
  refine PM_ext (fun x => ?_) rfl
  by_cases e : x = 3
  · subst e; rfl
  · rw [si_other _ _ _ _ e]
    show (if x = 0 then c0 (μ.1 0) V sn else if x = 1 then V 1 else if x = 2 then V 2 else if x = 3 then V 3 else if x = 4 then hl V else if x = 5 then V 9 else if x = 16 then sk else if x = 17 then nm else if x = 18 then st else μ.1 x) = (if x = 0 then c0 (μ.1 0) (vu V 3 j v) sn else if x = 1 then (vu V 3 j v) 1 else if x = 2 then (vu V 3 j v) 2 else if x = 3 then (vu V 3 j v) 3 else if x = 4 then hl (vu V 3 j v) else if x = 5 then (vu V 3 j v) 9 else if x = 16 then sk else if x = 17 then nm else if x = 18 then st else μ.1 x)
    rw [hl_o (by decide), if_neg e, if_neg e]
    rfl
theorem m_5 {μ : PM} {V : VW} {nm sk st : Nat → Int32} {sn v : Int32} {j : Nat} : si (mm μ V nm sk st sn) 5 j v = mm μ (vu V 9 j v) nm sk st sn := by
  refine PM_ext (fun x => ?_) rfl
  by_cases e : x = 5
  · subst e; rfl
  · rw [si_other _ _ _ _ e]
    show (if x = 0 then c0 (μ.1 0) V sn else if x = 1 then V 1 else if x = 2 then V 2 else if x = 3 then V 3 else if x = 4 then hl V else if x = 5 then V 9 else if x = 16 then sk else if x = 17 then nm else if x = 18 then st else μ.1 x) = (if x = 0 then c0 (μ.1 0) (vu V 9 j v) sn else if x = 1 then (vu V 9 j v) 1 else if x = 2 then (vu V 9 j v) 2 else if x = 3 then (vu V 9 j v) 3 else if x = 4 then hl (vu V 9 j v) else if x = 5 then (vu V 9 j v) 9 else if x = 16 then sk else if x = 17 then nm else if x = 18 then st else μ.1 x)
    rw [hl_o (by decide), if_neg e, if_neg e]
    rfl
theorem m_16 {μ : PM} {V : VW} {nm sk st : Nat → Int32} {sn v : Int32} {j : Nat} : si (mm μ V nm sk st sn) 16 j v = mm μ V nm (upd sk j v) st sn := by
  refine PM_ext (fun x => ?_) rfl
  by_cases e : x = 16
  · subst e; rfl
  · rw [si_other _ _ _ _ e]
    show (if x = 0 then c0 (μ.1 0) V sn else if x = 1 then V 1 else if x = 2 then V 2 else if x = 3 then V 3 else if x = 4 then hl V else if x = 5 then V 9 else if x = 16 then sk else if x = 17 then nm else if x = 18 then st else μ.1 x) = (if x = 0 then c0 (μ.1 0) V sn else if x = 1 then V 1 else if x = 2 then V 2 else if x = 3 then V 3 else if x = 4 then hl V else if x = 5 then V 9 else if x = 16 then (upd sk j v) else if x = 17 then nm else if x = 18 then st else μ.1 x)
    rw [if_neg e, if_neg e]
theorem m_17 {μ : PM} {V : VW} {nm sk st : Nat → Int32} {sn v : Int32} {j : Nat} : si (mm μ V nm sk st sn) 17 j v = mm μ V (upd nm j v) sk st sn := by
  refine PM_ext (fun x => ?_) rfl
  by_cases e : x = 17
  · subst e; rfl
  · rw [si_other _ _ _ _ e]
    show (if x = 0 then c0 (μ.1 0) V sn else if x = 1 then V 1 else if x = 2 then V 2 else if x = 3 then V 3 else if x = 4 then hl V else if x = 5 then V 9 else if x = 16 then sk else if x = 17 then nm else if x = 18 then st else μ.1 x) = (if x = 0 then c0 (μ.1 0) V sn else if x = 1 then V 1 else if x = 2 then V 2 else if x = 3 then V 3 else if x = 4 then hl V else if x = 5 then V 9 else if x = 16 then sk else if x = 17 then (upd nm j v) else if x = 18 then st else μ.1 x)
    rw [if_neg e, if_neg e]
theorem m_18 {μ : PM} {V : VW} {nm sk st : Nat → Int32} {sn v : Int32} {j : Nat} : si (mm μ V nm sk st sn) 18 j v = mm μ V nm sk (upd st j v) sn := by
  refine PM_ext (fun x => ?_) rfl
  by_cases e : x = 18
  · subst e; rfl
  · rw [si_other _ _ _ _ e]
    show (if x = 0 then c0 (μ.1 0) V sn else if x = 1 then V 1 else if x = 2 then V 2 else if x = 3 then V 3 else if x = 4 then hl V else if x = 5 then V 9 else if x = 16 then sk else if x = 17 then nm else if x = 18 then st else μ.1 x) = (if x = 0 then c0 (μ.1 0) V sn else if x = 1 then V 1 else if x = 2 then V 2 else if x = 3 then V 3 else if x = 4 then hl V else if x = 5 then V 9 else if x = 16 then sk else if x = 17 then nm else if x = 18 then (upd st j v) else μ.1 x)
    rw [if_neg e, if_neg e]
theorem m_6 {μ : PM} {V : VW} {nm sk st : Nat → Int32} {sn v : Int32} {j : Nat} : si (mm μ V nm sk st sn) 6 j v = mm (si μ 6 j v) V nm sk st sn := by
  refine PM_ext (fun x => ?_) rfl
  by_cases e : x = 6
  · subst e; rfl
  · rw [si_other _ _ _ _ e]
    show (if x = 0 then c0 (μ.1 0) V sn else if x = 1 then V 1 else if x = 2 then V 2 else if x = 3 then V 3 else if x = 4 then hl V else if x = 5 then V 9 else if x = 16 then sk else if x = 17 then nm else if x = 18 then st else μ.1 x) = (if x = 0 then c0 ((si μ 6 j v).1 0) V sn else if x = 1 then V 1 else if x = 2 then V 2 else if x = 3 then V 3 else if x = 4 then hl V else if x = 5 then V 9 else if x = 16 then sk else if x = 17 then nm else if x = 18 then st else (si μ 6 j v).1 x)
    rw [si_other _ _ _ _ e]
    rfl
theorem m_7 {μ : PM} {V : VW} {nm sk st : Nat → Int32} {sn v : Int32} {j : Nat} : si (mm μ V nm sk st sn) 7 j v = mm (si μ 7 j v) V nm sk st sn := by
  refine PM_ext (fun x => ?_) rfl
  by_cases e : x = 7
  · subst e; rfl
  · rw [si_other _ _ _ _ e]
    show (if x = 0 then c0 (μ.1 0) V sn else if x = 1 then V 1 else if x = 2 then V 2 else if x = 3 then V 3 else if x = 4 then hl V else if x = 5 then V 9 else if x = 16 then sk else if x = 17 then nm else if x = 18 then st else μ.1 x) = (if x = 0 then c0 ((si μ 7 j v).1 0) V sn else if x = 1 then V 1 else if x = 2 then V 2 else if x = 3 then V 3 else if x = 4 then hl V else if x = 5 then V 9 else if x = 16 then sk else if x = 17 then nm else if x = 18 then st else (si μ 7 j v).1 x)
    rw [si_other _ _ _ _ e]
    rfl
theorem m_8 {μ : PM} {V : VW} {nm sk st : Nat → Int32} {sn v : Int32} {j : Nat} : si (mm μ V nm sk st sn) 8 j v = mm (si μ 8 j v) V nm sk st sn := by
  refine PM_ext (fun x => ?_) rfl
  by_cases e : x = 8
  · subst e; rfl
  · rw [si_other _ _ _ _ e]
    show (if x = 0 then c0 (μ.1 0) V sn else if x = 1 then V 1 else if x = 2 then V 2 else if x = 3 then V 3 else if x = 4 then hl V else if x = 5 then V 9 else if x = 16 then sk else if x = 17 then nm else if x = 18 then st else μ.1 x) = (if x = 0 then c0 ((si μ 8 j v).1 0) V sn else if x = 1 then V 1 else if x = 2 then V 2 else if x = 3 then V 3 else if x = 4 then hl V else if x = 5 then V 9 else if x = 16 then sk else if x = 17 then nm else if x = 18 then st else (si μ 8 j v).1 x)
    rw [si_other _ _ _ _ e]
    rfl
theorem m_9 {μ : PM} {V : VW} {nm sk st : Nat → Int32} {sn v : Int32} {j : Nat} : si (mm μ V nm sk st sn) 9 j v = mm (si μ 9 j v) V nm sk st sn := by
  refine PM_ext (fun x => ?_) rfl
  by_cases e : x = 9
  · subst e; rfl
  · rw [si_other _ _ _ _ e]
    show (if x = 0 then c0 (μ.1 0) V sn else if x = 1 then V 1 else if x = 2 then V 2 else if x = 3 then V 3 else if x = 4 then hl V else if x = 5 then V 9 else if x = 16 then sk else if x = 17 then nm else if x = 18 then st else μ.1 x) = (if x = 0 then c0 ((si μ 9 j v).1 0) V sn else if x = 1 then V 1 else if x = 2 then V 2 else if x = 3 then V 3 else if x = 4 then hl V else if x = 5 then V 9 else if x = 16 then sk else if x = 17 then nm else if x = 18 then st else (si μ 9 j v).1 x)
    rw [si_other _ _ _ _ e]
    rfl
theorem m_10 {μ : PM} {V : VW} {nm sk st : Nat → Int32} {sn v : Int32} {j : Nat} : si (mm μ V nm sk st sn) 10 j v = mm (si μ 10 j v) V nm sk st sn := by
  refine PM_ext (fun x => ?_) rfl
  by_cases e : x = 10
  · subst e; rfl
  · rw [si_other _ _ _ _ e]
    show (if x = 0 then c0 (μ.1 0) V sn else if x = 1 then V 1 else if x = 2 then V 2 else if x = 3 then V 3 else if x = 4 then hl V else if x = 5 then V 9 else if x = 16 then sk else if x = 17 then nm else if x = 18 then st else μ.1 x) = (if x = 0 then c0 ((si μ 10 j v).1 0) V sn else if x = 1 then V 1 else if x = 2 then V 2 else if x = 3 then V 3 else if x = 4 then hl V else if x = 5 then V 9 else if x = 16 then sk else if x = 17 then nm else if x = 18 then st else (si μ 10 j v).1 x)
    rw [si_other _ _ _ _ e]
    rfl
theorem m_11 {μ : PM} {V : VW} {nm sk st : Nat → Int32} {sn v : Int32} {j : Nat} : si (mm μ V nm sk st sn) 11 j v = mm (si μ 11 j v) V nm sk st sn := by
  refine PM_ext (fun x => ?_) rfl
  by_cases e : x = 11
  · subst e; rfl
  · rw [si_other _ _ _ _ e]
    show (if x = 0 then c0 (μ.1 0) V sn else if x = 1 then V 1 else if x = 2 then V 2 else if x = 3 then V 3 else if x = 4 then hl V else if x = 5 then V 9 else if x = 16 then sk else if x = 17 then nm else if x = 18 then st else μ.1 x) = (if x = 0 then c0 ((si μ 11 j v).1 0) V sn else if x = 1 then V 1 else if x = 2 then V 2 else if x = 3 then V 3 else if x = 4 then hl V else if x = 5 then V 9 else if x = 16 then sk else if x = 17 then nm else if x = 18 then st else (si μ 11 j v).1 x)
    rw [si_other _ _ _ _ e]
    rfl
theorem m_12 {μ : PM} {V : VW} {nm sk st : Nat → Int32} {sn v : Int32} {j : Nat} : si (mm μ V nm sk st sn) 12 j v = mm (si μ 12 j v) V nm sk st sn := by
  refine PM_ext (fun x => ?_) rfl
  by_cases e : x = 12
  · subst e; rfl
  · rw [si_other _ _ _ _ e]
    show (if x = 0 then c0 (μ.1 0) V sn else if x = 1 then V 1 else if x = 2 then V 2 else if x = 3 then V 3 else if x = 4 then hl V else if x = 5 then V 9 else if x = 16 then sk else if x = 17 then nm else if x = 18 then st else μ.1 x) = (if x = 0 then c0 ((si μ 12 j v).1 0) V sn else if x = 1 then V 1 else if x = 2 then V 2 else if x = 3 then V 3 else if x = 4 then hl V else if x = 5 then V 9 else if x = 16 then sk else if x = 17 then nm else if x = 18 then st else (si μ 12 j v).1 x)
    rw [si_other _ _ _ _ e]
    rfl
theorem m_13 {μ : PM} {V : VW} {nm sk st : Nat → Int32} {sn v : Int32} {j : Nat} : si (mm μ V nm sk st sn) 13 j v = mm (si μ 13 j v) V nm sk st sn := by
  refine PM_ext (fun x => ?_) rfl
  by_cases e : x = 13
  · subst e; rfl
  · rw [si_other _ _ _ _ e]
    show (if x = 0 then c0 (μ.1 0) V sn else if x = 1 then V 1 else if x = 2 then V 2 else if x = 3 then V 3 else if x = 4 then hl V else if x = 5 then V 9 else if x = 16 then sk else if x = 17 then nm else if x = 18 then st else μ.1 x) = (if x = 0 then c0 ((si μ 13 j v).1 0) V sn else if x = 1 then V 1 else if x = 2 then V 2 else if x = 3 then V 3 else if x = 4 then hl V else if x = 5 then V 9 else if x = 16 then sk else if x = 17 then nm else if x = 18 then st else (si μ 13 j v).1 x)
    rw [si_other _ _ _ _ e]
    rfl
theorem m_14 {μ : PM} {V : VW} {nm sk st : Nat → Int32} {sn v : Int32} {j : Nat} : si (mm μ V nm sk st sn) 14 j v = mm (si μ 14 j v) V nm sk st sn := by
  refine PM_ext (fun x => ?_) rfl
  by_cases e : x = 14
  · subst e; rfl
  · rw [si_other _ _ _ _ e]
    show (if x = 0 then c0 (μ.1 0) V sn else if x = 1 then V 1 else if x = 2 then V 2 else if x = 3 then V 3 else if x = 4 then hl V else if x = 5 then V 9 else if x = 16 then sk else if x = 17 then nm else if x = 18 then st else μ.1 x) = (if x = 0 then c0 ((si μ 14 j v).1 0) V sn else if x = 1 then V 1 else if x = 2 then V 2 else if x = 3 then V 3 else if x = 4 then hl V else if x = 5 then V 9 else if x = 16 then sk else if x = 17 then nm else if x = 18 then st else (si μ 14 j v).1 x)
    rw [si_other _ _ _ _ e]
    rfl
theorem m_15 {μ : PM} {V : VW} {nm sk st : Nat → Int32} {sn v : Int32} {j : Nat} : si (mm μ V nm sk st sn) 15 j v = mm (si μ 15 j v) V nm sk st sn := by
  refine PM_ext (fun x => ?_) rfl
  by_cases e : x = 15
  · subst e; rfl
  · rw [si_other _ _ _ _ e]
    show (if x = 0 then c0 (μ.1 0) V sn else if x = 1 then V 1 else if x = 2 then V 2 else if x = 3 then V 3 else if x = 4 then hl V else if x = 5 then V 9 else if x = 16 then sk else if x = 17 then nm else if x = 18 then st else μ.1 x) = (if x = 0 then c0 ((si μ 15 j v).1 0) V sn else if x = 1 then V 1 else if x = 2 then V 2 else if x = 3 then V 3 else if x = 4 then hl V else if x = 5 then V 9 else if x = 16 then sk else if x = 17 then nm else if x = 18 then st else (si μ 15 j v).1 x)
    rw [si_other _ _ _ _ e]
    rfl
theorem m_19 {μ : PM} {V : VW} {nm sk st : Nat → Int32} {sn v : Int32} {j : Nat} : si (mm μ V nm sk st sn) 19 j v = mm (si μ 19 j v) V nm sk st sn := by
  refine PM_ext (fun x => ?_) rfl
  by_cases e : x = 19
  · subst e; rfl
  · rw [si_other _ _ _ _ e]
    show (if x = 0 then c0 (μ.1 0) V sn else if x = 1 then V 1 else if x = 2 then V 2 else if x = 3 then V 3 else if x = 4 then hl V else if x = 5 then V 9 else if x = 16 then sk else if x = 17 then nm else if x = 18 then st else μ.1 x) = (if x = 0 then c0 ((si μ 19 j v).1 0) V sn else if x = 1 then V 1 else if x = 2 then V 2 else if x = 3 then V 3 else if x = 4 then hl V else if x = 5 then V 9 else if x = 16 then sk else if x = 17 then nm else if x = 18 then st else (si μ 19 j v).1 x)
    rw [si_other _ _ _ _ e]
    rfl
theorem m_4 {μ : PM} {V : VW} {nm sk st : Nat → Int32} {sn v : Int32} {h i : Nat} (hi : i < 5) : si (mm μ V nm sk st sn) 4 (5 * h + i) v = mm μ (vu V (4 + i) h v) nm sk st sn := by
  have u : ∀ r, r < 4 ∨ r = 9 → vu V (4 + i) h v r = V r := fun r hr => vu_other V (4 + i) h v (by omega)
  refine PM_ext (fun x => ?_) rfl
  by_cases e : x = 4
  · subst e
    exact hl_u hi
  · rw [si_other _ _ _ _ e]
    show (if x = 0 then c0 (μ.1 0) V sn else if x = 1 then V 1 else if x = 2 then V 2 else if x = 3 then V 3 else if x = 4 then hl V else if x = 5 then V 9 else if x = 16 then sk else if x = 17 then nm else if x = 18 then st else μ.1 x) = (if x = 0 then c0 (μ.1 0) (vu V (4 + i) h v) sn else if x = 1 then (vu V (4 + i) h v) 1 else if x = 2 then (vu V (4 + i) h v) 2 else if x = 3 then (vu V (4 + i) h v) 3 else if x = 4 then hl (vu V (4 + i) h v) else if x = 5 then (vu V (4 + i) h v) 9 else if x = 16 then sk else if x = 17 then nm else if x = 18 then st else μ.1 x)
    rw [if_neg e, if_neg e, u 1 (by decide), u 2 (by decide), u 3 (by decide), u 9 (by decide)]
    unfold c0
    rw [u 0 (by decide)]
theorem m_0_0 {μ : PM} {V : VW} {nm sk st : Nat → Int32} {sn v : Int32} : si (mm μ V nm sk st sn) 0 0 v = mm μ (vu V 0 1 v) nm sk st sn := by
  refine PM_ext (fun x => ?_) rfl
  by_cases e : x = 0
  · subst e
    show upd (c0 (μ.1 0) V sn) 0 v = c0 (μ.1 0) (vu V 0 1 v) sn
    funext y
    by_cases q : y = 0
    · subst q; rfl
    · rw [upd_o _ _ q]
      unfold c0
      rw [if_neg q, if_neg q]
      rfl
  · rw [si_other _ _ _ _ e]
    show (if x = 0 then c0 (μ.1 0) V sn else if x = 1 then V 1 else if x = 2 then V 2 else if x = 3 then V 3 else if x = 4 then hl V else if x = 5 then V 9 else if x = 16 then sk else if x = 17 then nm else if x = 18 then st else μ.1 x) = (if x = 0 then c0 (μ.1 0) (vu V 0 1 v) sn else if x = 1 then (vu V 0 1 v) 1 else if x = 2 then (vu V 0 1 v) 2 else if x = 3 then (vu V 0 1 v) 3 else if x = 4 then hl (vu V 0 1 v) else if x = 5 then (vu V 0 1 v) 9 else if x = 16 then sk else if x = 17 then nm else if x = 18 then st else μ.1 x)
    rw [hl_o (by decide), if_neg e, if_neg e]
    rfl
theorem m_0_4 {μ : PM} {V : VW} {nm sk st : Nat → Int32} {sn v : Int32} : si (mm μ V nm sk st sn) 0 4 v = mm μ (vu V 0 5 v) nm sk st sn := by
  refine PM_ext (fun x => ?_) rfl
  by_cases e : x = 0
  · subst e
    show upd (c0 (μ.1 0) V sn) 4 v = c0 (μ.1 0) (vu V 0 5 v) sn
    funext y
    by_cases q : y = 4
    · subst q; rfl
    · rw [upd_o _ _ q]
      unfold c0
      rw [if_neg q, if_neg q]
      rfl
  · rw [si_other _ _ _ _ e]
    show (if x = 0 then c0 (μ.1 0) V sn else if x = 1 then V 1 else if x = 2 then V 2 else if x = 3 then V 3 else if x = 4 then hl V else if x = 5 then V 9 else if x = 16 then sk else if x = 17 then nm else if x = 18 then st else μ.1 x) = (if x = 0 then c0 (μ.1 0) (vu V 0 5 v) sn else if x = 1 then (vu V 0 5 v) 1 else if x = 2 then (vu V 0 5 v) 2 else if x = 3 then (vu V 0 5 v) 3 else if x = 4 then hl (vu V 0 5 v) else if x = 5 then (vu V 0 5 v) 9 else if x = 16 then sk else if x = 17 then nm else if x = 18 then st else μ.1 x)
    rw [hl_o (by decide), if_neg e, if_neg e]
    rfl
theorem m_0_6 {μ : PM} {V : VW} {nm sk st : Nat → Int32} {sn v : Int32} : si (mm μ V nm sk st sn) 0 6 v = mm μ (vu V 0 12 v) nm sk st sn := by
  refine PM_ext (fun x => ?_) rfl
  by_cases e : x = 0
  · subst e
    show upd (c0 (μ.1 0) V sn) 6 v = c0 (μ.1 0) (vu V 0 12 v) sn
    funext y
    by_cases q : y = 6
    · subst q; rfl
    · rw [upd_o _ _ q]
      unfold c0
      rw [if_neg q, if_neg q]
      rfl
  · rw [si_other _ _ _ _ e]
    show (if x = 0 then c0 (μ.1 0) V sn else if x = 1 then V 1 else if x = 2 then V 2 else if x = 3 then V 3 else if x = 4 then hl V else if x = 5 then V 9 else if x = 16 then sk else if x = 17 then nm else if x = 18 then st else μ.1 x) = (if x = 0 then c0 (μ.1 0) (vu V 0 12 v) sn else if x = 1 then (vu V 0 12 v) 1 else if x = 2 then (vu V 0 12 v) 2 else if x = 3 then (vu V 0 12 v) 3 else if x = 4 then hl (vu V 0 12 v) else if x = 5 then (vu V 0 12 v) 9 else if x = 16 then sk else if x = 17 then nm else if x = 18 then st else μ.1 x)
    rw [hl_o (by decide), if_neg e, if_neg e]
    rfl
theorem m_0_13 {μ : PM} {V : VW} {nm sk st : Nat → Int32} {sn v : Int32} : si (mm μ V nm sk st sn) 0 13 v = mm μ (vu V 0 13 v) nm sk st sn := by
  refine PM_ext (fun x => ?_) rfl
  by_cases e : x = 0
  · subst e
    show upd (c0 (μ.1 0) V sn) 13 v = c0 (μ.1 0) (vu V 0 13 v) sn
    funext y
    by_cases q : y = 13
    · subst q; rfl
    · rw [upd_o _ _ q]
      unfold c0
      rw [if_neg q, if_neg q]
      rfl
  · rw [si_other _ _ _ _ e]
    show (if x = 0 then c0 (μ.1 0) V sn else if x = 1 then V 1 else if x = 2 then V 2 else if x = 3 then V 3 else if x = 4 then hl V else if x = 5 then V 9 else if x = 16 then sk else if x = 17 then nm else if x = 18 then st else μ.1 x) = (if x = 0 then c0 (μ.1 0) (vu V 0 13 v) sn else if x = 1 then (vu V 0 13 v) 1 else if x = 2 then (vu V 0 13 v) 2 else if x = 3 then (vu V 0 13 v) 3 else if x = 4 then hl (vu V 0 13 v) else if x = 5 then (vu V 0 13 v) 9 else if x = 16 then sk else if x = 17 then nm else if x = 18 then st else μ.1 x)
    rw [hl_o (by decide), if_neg e, if_neg e]
    rfl
theorem m_0_36 {μ : PM} {V : VW} {nm sk st : Nat → Int32} {sn v : Int32} : si (mm μ V nm sk st sn) 0 36 v = mm μ V nm sk st v := by
  refine PM_ext (fun x => ?_) rfl
  by_cases e : x = 0
  · subst e
    show upd (c0 (μ.1 0) V sn) 36 v = c0 (μ.1 0) V v
    funext y
    by_cases q : y = 36
    · subst q; rfl
    · rw [upd_o _ _ q]
      unfold c0
      rw [if_neg q, if_neg q]
  · rw [si_other _ _ _ _ e]
    show (if x = 0 then c0 (μ.1 0) V sn else if x = 1 then V 1 else if x = 2 then V 2 else if x = 3 then V 3 else if x = 4 then hl V else if x = 5 then V 9 else if x = 16 then sk else if x = 17 then nm else if x = 18 then st else μ.1 x) = (if x = 0 then c0 (μ.1 0) V v else if x = 1 then V 1 else if x = 2 then V 2 else if x = 3 then V 3 else if x = 4 then hl V else if x = 5 then V 9 else if x = 16 then sk else if x = 17 then nm else if x = 18 then st else μ.1 x)
    rw [if_neg e, if_neg e]
theorem m_0 {μ : PM} {V : VW} {nm sk st : Nat → Int32} {sn v : Int32} {j : Nat} (h0 : j ≠ 0) (h4 : j ≠ 4) (h6 : j ≠ 6) (h13 : j ≠ 13) (h36 : j ≠ 36) : si (mm μ V nm sk st sn) 0 j v = mm (si μ 0 j v) V nm sk st sn := by
  refine PM_ext (fun x => ?_) rfl
  by_cases e : x = 0
  · subst e
    show upd (c0 (μ.1 0) V sn) j v = c0 (upd (μ.1 0) j v) V sn
    funext y
    by_cases q : y = j
    · subst q
      unfold c0
      rw [upd_s, if_neg h0, if_neg h4, if_neg h6, if_neg h13, if_neg h36, upd_s]
    · rw [upd_o _ _ q]
      unfold c0
      rw [upd_o _ _ q]
  · rw [si_other _ _ _ _ e]
    show (if x = 0 then c0 (μ.1 0) V sn else if x = 1 then V 1 else if x = 2 then V 2 else if x = 3 then V 3 else if x = 4 then hl V else if x = 5 then V 9 else if x = 16 then sk else if x = 17 then nm else if x = 18 then st else μ.1 x) = (if x = 0 then c0 ((si μ 0 j v).1 0) V sn else if x = 1 then V 1 else if x = 2 then V 2 else if x = 3 then V 3 else if x = 4 then hl V else if x = 5 then V 9 else if x = 16 then sk else if x = 17 then nm else if x = 18 then st else (si μ 0 j v).1 x)
    rw [if_neg e, if_neg e, si_other _ _ _ _ e]
/-- a step of the class's text against a code of the model's -/
def encF (c k : Int32) : Prop := (0 ≤ c ∧ c ≤ 9999 ∧ k = c + 100000) ∨ (-6 ≤ c ∧ c < 0 ∧ k = -1 - c) ∨ (c = -10 ∧ k = 13) ∨ (c = -11 ∧ k = 19) ∨ (c = -12 ∧ k = 11) ∨ (c = -13 ∧ k = 12) ∨ (c = -14 ∧ k = 14) ∨ (c = -15 ∧ k = 15) ∨ (c = -16 ∧ k = 16) ∨ (c = -17 ∧ k = 17) ∨ (c = -18 ∧ k = 18)
/-- a run of n steps from i on keeps to its stack, d high, and leaves one -/
def depF (st : Nat → Int32) : Nat → Nat → Nat → Prop
  | _, 0, d => d = 1
  | i, n + 1, d => if -6 ≤ st i then d < 64 ∧ depF st (i + 1) n (d + 1) else if -11 ≤ st i then 1 ≤ d ∧ depF st (i + 1) n d else 2 ≤ d ∧ depF st (i + 1) n (d - 1)
def twoF (k a b : Int32) : Int32 := if k = 11 then (if a = 0 then (if b = 0 then 0 else 1) else 1) else if k = 12 then (if a = 0 then 0 else if b = 0 then 0 else 1) else if k = 14 then (if a < b then 1 else 0) else if k = 15 then (if a = b then 1 else 0) else if k = 16 then a + b else if k = 17 then a - b else a * b
set_option maxHeartbeats 4000000 in
set_option maxRecDepth 100000 in
theorem T_X8_in {l : Launch} {Ω : SH} {v lo hi : Int32} {μ : PM} : CT l Ω yX8_in cX8_in 3 (some .boolean) 1 [.int v, .int lo, .int hi] μ (QI fun x m => x = b2 (inF v lo hi) ∧ m = μ) := by
  refine CT.of rfl (Nat.le_of_ble_eq_true rfl) ?_
  show PW l Ω RX8 cX8_in 3 (some .boolean) 1 _ 0 [(0, .int v), (1, .int lo), (2, .int hi)] [] μ
  refine pw_iload_n dX8_in_0 rfl rfl ?_
  refine pw_iload_n dX8_in_1 rfl rfl ?_
  refine pw_icmp_lt (tgt := 14) dX8_in_2 (by decide) (fun c_2 => ?_) (fun c_2 => ?_)
  · skip
    refine pw_iconst (v := 0) dX8_in_14 rfl ?_
    refine pw_zret dX8_in_15 rfl (by decide) ?_
    exact ⟨by unfold inF; rw [decide_eq_false (Int32.not_le.mpr c_2)]; rfl, rfl⟩
  · skip
    refine pw_iload_n dX8_in_5 rfl rfl ?_
    refine pw_iload_n dX8_in_6 rfl rfl ?_
    refine pw_icmp_gt (tgt := 14) dX8_in_7 (by decide) (fun c_7 => ?_) (fun c_7 => ?_)
    · skip
      refine pw_iconst (v := 0) dX8_in_14 rfl ?_
      refine pw_zret dX8_in_15 rfl (by decide) ?_
      exact ⟨by unfold inF; rw [decide_eq_false (Int32.not_le.mpr c_7)]; cases decide (lo ≤ v) <;> rfl, rfl⟩
    · skip
      refine pw_iconst (v := 1) dX8_in_10 rfl ?_
      refine pw_goto (tgt := 15) dX8_in_11 (by decide) ?_
      refine pw_zret dX8_in_15 rfl (by decide) ?_
      exact ⟨by unfold inF; rw [decide_eq_true (Int32.not_lt.mp c_2), decide_eq_true (Int32.not_lt.mp c_7)]; rfl, rfl⟩

set_option maxHeartbeats 4000000 in
set_option maxRecDepth 100000 in
theorem T_X8_within {l : Launch} {Ω : SH} {v lo hi : Int32} {μ : PM} : CT l Ω yX8_within cX8_within 3 (some .int) 1 [.int v, .int lo, .int hi] μ (QI fun x m => x = boundF v lo hi ∧ m = μ) := by
  refine CT.of rfl (Nat.le_of_ble_eq_true rfl) ?_
  show PW l Ω RX8 cX8_within 3 (some .int) 1 _ 0 [(0, .int v), (1, .int lo), (2, .int hi)] [] μ
  refine pw_iload_n dX8_within_0 rfl rfl ?_
  refine pw_iload_n dX8_within_1 rfl rfl ?_
  refine pw_icmp_ge (tgt := 9) dX8_within_2 (by decide) (fun c_2 => ?_) (fun c_2 => ?_)
  · skip
    refine pw_iload_n dX8_within_9 rfl rfl ?_
    refine pw_iload_n dX8_within_10 rfl rfl ?_
    refine pw_icmp_le (tgt := 18) dX8_within_11 (by decide) (fun c_11 => ?_) (fun c_11 => ?_)
    · skip
      refine pw_iload_n dX8_within_18 rfl rfl ?_
      refine pw_iret dX8_within_19 rfl ?_
      exact ⟨by unfold boundF; rw [if_neg (Int32.not_lt.mpr c_2), if_neg (Int32.not_lt.mpr c_11)], rfl⟩
    · skip
      refine pw_iload_n dX8_within_14 rfl rfl ?_
      refine pw_goto (tgt := 19) dX8_within_15 (by decide) ?_
      refine pw_iret dX8_within_19 rfl ?_
      exact ⟨by unfold boundF; rw [if_neg (Int32.not_lt.mpr c_2), if_pos (Int32.not_le.mp c_11)], rfl⟩
  · skip
    refine pw_iload_n dX8_within_5 rfl rfl ?_
    refine pw_goto (tgt := 19) dX8_within_6 (by decide) ?_
    refine pw_iret dX8_within_19 rfl ?_
    exact ⟨by unfold boundF; rw [if_pos (Int32.not_le.mp c_2)], rfl⟩

set_option maxHeartbeats 4000000 in
set_option maxRecDepth 100000 in
theorem T_X8_isByte {l : Launch} {Ω : SH} {v : Int32} {μ : PM} : CT l Ω yX8_isByte cX8_isByte 1 (some .boolean) 2 [.int v] μ (QI fun x m => x = b2 (inF v 0 255) ∧ m = μ) := by
  refine CT.of rfl (Nat.le_of_ble_eq_true rfl) ?_
  show PW l Ω RX8 cX8_isByte 1 (some .boolean) 2 _ 0 [(0, .int v)] [] μ
  refine pw_iload_n dX8_isByte_0 rfl rfl ?_
  refine pw_iconst (v := 0) dX8_isByte_1 rfl ?_
  refine pw_sipush (v := 255) dX8_isByte_2 rfl ?_
  refine pw_cSi dX8_isByte_5 ms_X8_78 T_X8_in rfl rfl (Nat.le_of_ble_eq_true rfl) (by decide) (fun x_5 m_5 h_5 => ?_)
  obtain ⟨rfl, rfl⟩ := h_5
  refine pw_zret dX8_isByte_8 rfl (b2_01 _) ?_
  exact ⟨rfl, rfl⟩

set_option maxHeartbeats 4000000 in
set_option maxRecDepth 100000 in
theorem T_X8_isJoke {l : Launch} {μ : PM} {V : VW} {nm sk st : Nat → Int32} {sn : Int32} {j : Int32} : CT l SM yX8_isJoke cX8_isJoke 2 (some .boolean) 2 [.ref 0, .int j] (mm μ V nm sk st sn) (QI fun x m => x = b2 (jkF V j) ∧ m = mm μ V nm sk st sn) := by
  refine CT.of rfl (Nat.le_of_ble_eq_true rfl) ?_
  show PW l SM RX8 cX8_isJoke 2 (some .boolean) 2 _ 0 [(0, .ref 0), (1, .int j)] [] (mm μ V nm sk st sn)
  refine pw_iload_n dX8_isJoke_0 rfl rfl ?_
  refine pw_iconst (v := 0) dX8_isJoke_1 rfl ?_
  refine pw_aload_n dX8_isJoke_2 rfl rfl ?_
  refine pw_getI dX8_isJoke_3 fa_X8_75 rfl ?_
  refine pw_iconst (v := 1) dX8_isJoke_6 rfl ?_
  refine pw_isub dX8_isJoke_7 ?_
  refine pw_cSi dX8_isJoke_8 ms_X8_78 T_X8_in rfl rfl (Nat.le_of_ble_eq_true rfl) (by decide) (fun x_8 m_8 h_8 => ?_)
  obtain ⟨rfl, rfl⟩ := h_8
  refine pw_zret dX8_isJoke_11 rfl (b2_01 _) ?_
  exact ⟨rfl, rfl⟩

set_option maxHeartbeats 4000000 in
set_option maxRecDepth 100000 in
theorem T_X8_isHearer {l : Launch} {μ : PM} {V : VW} {nm sk st : Nat → Int32} {sn : Int32} {j : Int32} : CT l SM yX8_isHearer cX8_isHearer 2 (some .boolean) 2 [.ref 0, .int j] (mm μ V nm sk st sn) (QI fun x m => x = b2 (hrF V j) ∧ m = mm μ V nm sk st sn) := by
  refine CT.of rfl (Nat.le_of_ble_eq_true rfl) ?_
  show PW l SM RX8 cX8_isHearer 2 (some .boolean) 2 _ 0 [(0, .ref 0), (1, .int j)] [] (mm μ V nm sk st sn)
  refine pw_iload_n dX8_isHearer_0 rfl rfl ?_
  refine pw_iconst (v := 0) dX8_isHearer_1 rfl ?_
  refine pw_aload_n dX8_isHearer_2 rfl rfl ?_
  refine pw_getI dX8_isHearer_3 fa_X8_82 rfl ?_
  refine pw_iconst (v := 1) dX8_isHearer_6 rfl ?_
  refine pw_isub dX8_isHearer_7 ?_
  refine pw_cSi dX8_isHearer_8 ms_X8_78 T_X8_in rfl rfl (Nat.le_of_ble_eq_true rfl) (by decide) (fun x_8 m_8 h_8 => ?_)
  obtain ⟨rfl, rfl⟩ := h_8
  refine pw_zret dX8_isHearer_11 rfl (b2_01 _) ?_
  exact ⟨rfl, rfl⟩

set_option maxHeartbeats 4000000 in
set_option maxRecDepth 100000 in
theorem T_X8_everybody {l : Launch} {μ : PM} {V : VW} {nm sk st : Nat → Int32} {sn : Int32}  : CT l SM yX8_everybody cX8_everybody 1 (some .int) 1 [.ref 0] (mm μ V nm sk st sn) (QI fun x m => x = allF V ∧ m = mm μ V nm sk st sn) := by
  refine CT.of rfl (Nat.le_of_ble_eq_true rfl) ?_
  show PW l SM RX8 cX8_everybody 1 (some .int) 1 _ 0 [(0, .ref 0)] [] (mm μ V nm sk st sn)
  refine pw_iconst (v := 1) dX8_everybody_0 rfl ?_
  refine pw_aload_n dX8_everybody_1 rfl rfl ?_
  refine pw_getI dX8_everybody_2 fa_X8_82 rfl ?_
  refine pw_ishl dX8_everybody_5 ?_
  refine pw_iconst (v := 1) dX8_everybody_6 rfl ?_
  refine pw_isub dX8_everybody_7 ?_
  refine pw_iret dX8_everybody_8 rfl ?_
  exact ⟨rfl, rfl⟩

set_option maxHeartbeats 4000000 in
set_option maxRecDepth 100000 in
theorem T_X8_areSome {l : Launch} {μ : PM} {V : VW} {nm sk st : Nat → Int32} {sn : Int32} {b : Int32} : CT l SM yX8_areSome cX8_areSome 2 (some .boolean) 2 [.ref 0, .int b] (mm μ V nm sk st sn) (QI fun x m => x = b2 (areF V b) ∧ m = mm μ V nm sk st sn) := by
  refine CT.of rfl (Nat.le_of_ble_eq_true rfl) ?_
  show PW l SM RX8 cX8_areSome 2 (some .boolean) 2 _ 0 [(0, .ref 0), (1, .int b)] [] (mm μ V nm sk st sn)
  refine pw_iload_n dX8_areSome_0 rfl rfl ?_
  refine pw_iconst (v := 0) dX8_areSome_1 rfl ?_
  refine pw_aload_n dX8_areSome_2 rfl rfl ?_
  refine pw_cVi dX8_areSome_3 mv_X8_85 ckModel T_X8_everybody rfl rfl (Nat.le_of_ble_eq_true rfl) (by decide) (fun x_3 m_3 h_3 => ?_)
  obtain ⟨rfl, rfl⟩ := h_3
  refine pw_cSi dX8_areSome_6 ms_X8_78 T_X8_in rfl rfl (Nat.le_of_ble_eq_true rfl) (by decide) (fun x_6 m_6 h_6 => ?_)
  obtain ⟨rfl, rfl⟩ := h_6
  refine pw_zret dX8_areSome_9 rfl (b2_01 _) ?_
  exact ⟨rfl, rfl⟩

set_option maxHeartbeats 4000000 in
set_option maxRecDepth 100000 in
theorem T_X8_count {l : Launch} {μ : PM} {V : VW} {nm sk st : Nat → Int32} {sn : Int32} {what : Int32} : CT l SM yX8_count cX8_count 2 (some .int) 1 [.ref 0, .int what] (mm μ V nm sk st sn) (QI fun x m => x = countF V (μ.1 0 12) (μ.1 0 9) what ∧ m = mm μ V nm sk st sn) := by
  refine CT.of rfl (Nat.le_of_ble_eq_true rfl) ?_
  show PW l SM RX8 cX8_count 2 (some .int) 1 _ 0 [(0, .ref 0), (1, .int what)] [] (mm μ V nm sk st sn)
  refine pw_iload_n dX8_count_0 rfl rfl ?_
  by_cases q_1_0 : what = 0
  · skip
    refine pw_tsIn (v := 0) (tgt := 40) dX8_count_1 q_1_0 (by decide) (by decide) rfl (by decide) ?_
    refine pw_aload_n dX8_count_40 rfl rfl ?_
    refine pw_getI dX8_count_41 fa_X8_75 rfl ?_
    refine pw_top (y := V 0 1) rfl ?_
    refine pw_iret dX8_count_44 rfl ?_
    exact ⟨by unfold countF; simp_all, rfl⟩
  by_cases q_1_1 : what = 1
  · skip
    refine pw_tsIn (v := 1) (tgt := 45) dX8_count_1 q_1_1 (by decide) (by decide) rfl (by decide) ?_
    refine pw_aload_n dX8_count_45 rfl rfl ?_
    refine pw_getI dX8_count_46 fa_X8_82 rfl ?_
    refine pw_top (y := V 0 5) rfl ?_
    refine pw_iret dX8_count_49 rfl ?_
    exact ⟨by unfold countF; simp_all, rfl⟩
  by_cases q_1_2 : what = 2
  · skip
    refine pw_tsIn (v := 2) (tgt := 50) dX8_count_1 q_1_2 (by decide) (by decide) rfl (by decide) ?_
    refine pw_aload_n dX8_count_50 rfl rfl ?_
    refine pw_getI dX8_count_51 fa_X8_88 rfl ?_
    refine pw_top (y := V 0 12) rfl ?_
    refine pw_iret dX8_count_54 rfl ?_
    exact ⟨by unfold countF; simp_all, rfl⟩
  by_cases q_1_3 : what = 3
  · skip
    refine pw_tsIn (v := 3) (tgt := 55) dX8_count_1 q_1_3 (by decide) (by decide) rfl (by decide) ?_
    refine pw_aload_n dX8_count_55 rfl rfl ?_
    refine pw_getI dX8_count_56 fa_X8_91 rfl ?_
    refine pw_top (y := μ.1 0 12) rfl ?_
    refine pw_iret dX8_count_59 rfl ?_
    exact ⟨by unfold countF; simp_all, rfl⟩
  by_cases q_1_4 : what = 4
  · skip
    refine pw_tsIn (v := 4) (tgt := 60) dX8_count_1 q_1_4 (by decide) (by decide) rfl (by decide) ?_
    refine pw_aload_n dX8_count_60 rfl rfl ?_
    refine pw_getI dX8_count_61 fa_X8_94 rfl ?_
    refine pw_top (y := V 0 13) rfl ?_
    refine pw_iret dX8_count_64 rfl ?_
    exact ⟨by unfold countF; simp_all, rfl⟩
  by_cases q_1_5 : what = 5
  · skip
    refine pw_tsIn (v := 5) (tgt := 65) dX8_count_1 q_1_5 (by decide) (by decide) rfl (by decide) ?_
    refine pw_aload_n dX8_count_65 rfl rfl ?_
    refine pw_getI dX8_count_66 fa_X8_67 rfl ?_
    refine pw_top (y := μ.1 0 9) rfl ?_
    refine pw_iret dX8_count_69 rfl ?_
    exact ⟨by unfold countF; simp_all, rfl⟩
  have zq_1_0 := lv_neT q_1_0 (a := 0) rfl
  have zq_1_1 := lv_neT q_1_1 (a := 1) rfl
  have zq_1_2 := lv_neT q_1_2 (a := 2) rfl
  have zq_1_3 := lv_neT q_1_3 (a := 3) rfl
  have zq_1_4 := lv_neT q_1_4 (a := 4) rfl
  have zq_1_5 := lv_neT q_1_5 (a := 5) rfl
  refine pw_tsOut (tgt := 70) dX8_count_1 (by omega) (by decide) ?_
  refine pw_bipush (v := (-2)) dX8_count_70 rfl ?_
  refine pw_iret dX8_count_72 rfl ?_
  exact ⟨by unfold countF; simp_all, rfl⟩

set_option maxHeartbeats 4000000 in
set_option maxRecDepth 100000 in
theorem T_X8_force {l : Launch} {μ : PM} {V : VW} {nm sk st : Nat → Int32} {sn : Int32} {n : Nat} {t : Int32} (hn : μ.1 0 12 = nI n) : CT l SM yX8_force cX8_force 3 (some .int) 2 [.ref 0, .int t] (mm μ V nm sk st sn) (QI fun x m => x = (if inF t 0 (nI n - 1) then V 0 13 else -2) ∧ m = mm μ (if inF t 0 (nI n - 1) then vu V 0 13 t else V) nm sk st sn) := by
  refine CT.of rfl (Nat.le_of_ble_eq_true rfl) ?_
  show PW l SM RX8 cX8_force 3 (some .int) 2 _ 0 [(0, .ref 0), (1, .int t)] [] (mm μ V nm sk st sn)
  refine pw_iload_n dX8_force_0 rfl rfl ?_
  refine pw_iconst (v := 0) dX8_force_1 rfl ?_
  refine pw_aload_n dX8_force_2 rfl rfl ?_
  refine pw_getI dX8_force_3 fa_X8_91 rfl ?_
  refine pw_top (y := nI n) hn ?_
  refine pw_iconst (v := 1) dX8_force_6 rfl ?_
  refine pw_isub dX8_force_7 ?_
  refine pw_cSi dX8_force_8 ms_X8_78 T_X8_in rfl rfl (Nat.le_of_ble_eq_true rfl) (by decide) (fun x_8 m_8 h_8 => ?_)
  obtain ⟨rfl, rfl⟩ := h_8
  refine pw_if_ne (tgt := 17) dX8_force_11 (by decide) (fun c_11 => ?_) (fun c_11 => ?_)
  · skip
    have hb_11 := b2_n c_11
    refine pw_aload_n dX8_force_17 rfl rfl ?_
    refine pw_getI dX8_force_18 fa_X8_94 rfl ?_
    refine pw_top (y := V 0 13) rfl ?_
    refine pw_istore_n (ls2 := [(2, _), (0, _), (1, _)]) dX8_force_21 rfl (by decide) rfl ?_
    refine pw_aload_n dX8_force_22 rfl rfl ?_
    refine pw_iload_n dX8_force_23 rfl rfl ?_
    refine pw_putI dX8_force_24 fa_X8_94 rfl ?_
    refine pw_mem m_0_13 ?_
    refine pw_iload_n dX8_force_27 rfl rfl ?_
    refine pw_iret dX8_force_28 rfl ?_
    exact ⟨by rw [if_pos hb_11], by rw [if_pos hb_11]⟩
  · skip
    have hb_11 := b2_0 c_11
    refine pw_bipush (v := (-2)) dX8_force_14 rfl ?_
    refine pw_iret dX8_force_16 rfl ?_
    exact ⟨by rw [hb_11]; rfl, by rw [hb_11]; rfl⟩

set_option maxHeartbeats 4000000 in
set_option maxRecDepth 100000 in
theorem T_X8_two {l : Launch} {Ω : SH} {k a b : Int32} {μ : PM} (hk : k = 11 ∨ k = 12 ∨ k = 14 ∨ k = 15 ∨ k = 16 ∨ k = 17 ∨ k = 18) : CT l Ω yX8_two cX8_two 3 (some .int) 1 [.int k, .int a, .int b] μ (QI fun x m => x = twoF k a b ∧ m = μ) := by
  refine CT.of rfl (Nat.le_of_ble_eq_true rfl) ?_
  show PW l Ω RX8 cX8_two 3 (some .int) 1 _ 0 [(0, .int k), (1, .int a), (2, .int b)] [] μ
  refine pw_iload_n dX8_two_0 rfl rfl ?_
  by_cases q_1_0 : k = 11
  · skip
    refine pw_tsIn (v := 11) (tgt := 44) dX8_two_1 q_1_0 (by decide) (by decide) rfl (by decide) ?_
    refine pw_iload_n dX8_two_44 rfl rfl ?_
    refine pw_if_ne (tgt := 52) dX8_two_45 (by decide) (fun c_45 => ?_) (fun c_45 => ?_)
    · skip
      refine pw_iconst (v := 1) dX8_two_52 rfl ?_
      refine pw_goto (tgt := 57) dX8_two_53 (by decide) ?_
      refine pw_iret dX8_two_57 rfl ?_
      exact ⟨by unfold twoF; simp_all, rfl⟩
    · skip
      refine pw_iload_n dX8_two_48 rfl rfl ?_
      refine pw_if_eq (tgt := 56) dX8_two_49 (by decide) (fun c_49 => ?_) (fun c_49 => ?_)
      · skip
        refine pw_iconst (v := 0) dX8_two_56 rfl ?_
        refine pw_iret dX8_two_57 rfl ?_
        exact ⟨by unfold twoF; simp_all, rfl⟩
      · skip
        refine pw_iconst (v := 1) dX8_two_52 rfl ?_
        refine pw_goto (tgt := 57) dX8_two_53 (by decide) ?_
        refine pw_iret dX8_two_57 rfl ?_
        exact ⟨by unfold twoF; simp_all, rfl⟩
  by_cases q_1_1 : k = 12
  · skip
    refine pw_tsIn (v := 12) (tgt := 58) dX8_two_1 q_1_1 (by decide) (by decide) rfl (by decide) ?_
    refine pw_iload_n dX8_two_58 rfl rfl ?_
    refine pw_if_eq (tgt := 70) dX8_two_59 (by decide) (fun c_59 => ?_) (fun c_59 => ?_)
    · skip
      refine pw_iconst (v := 0) dX8_two_70 rfl ?_
      refine pw_iret dX8_two_71 rfl ?_
      exact ⟨by unfold twoF; simp_all, rfl⟩
    · skip
      refine pw_iload_n dX8_two_62 rfl rfl ?_
      refine pw_if_eq (tgt := 70) dX8_two_63 (by decide) (fun c_63 => ?_) (fun c_63 => ?_)
      · skip
        refine pw_iconst (v := 0) dX8_two_70 rfl ?_
        refine pw_iret dX8_two_71 rfl ?_
        exact ⟨by unfold twoF; simp_all, rfl⟩
      · skip
        refine pw_iconst (v := 1) dX8_two_66 rfl ?_
        refine pw_goto (tgt := 71) dX8_two_67 (by decide) ?_
        refine pw_iret dX8_two_71 rfl ?_
        exact ⟨by unfold twoF; simp_all, rfl⟩
  by_cases q_1_2 : k = 13
  · skip
    refine pw_tsIn (v := 13) (tgt := 102) dX8_two_1 q_1_2 (by decide) (by decide) rfl (by decide) ?_
    refine pw_iload_n dX8_two_102 rfl rfl ?_
    refine pw_iload_n dX8_two_103 rfl rfl ?_
    refine pw_imul dX8_two_104 ?_
    refine pw_iret dX8_two_105 rfl ?_
    exact ⟨by unfold twoF; simp_all, rfl⟩
  by_cases q_1_3 : k = 14
  · skip
    refine pw_tsIn (v := 14) (tgt := 72) dX8_two_1 q_1_3 (by decide) (by decide) rfl (by decide) ?_
    refine pw_iload_n dX8_two_72 rfl rfl ?_
    refine pw_iload_n dX8_two_73 rfl rfl ?_
    refine pw_icmp_ge (tgt := 81) dX8_two_74 (by decide) (fun c_74 => ?_) (fun c_74 => ?_)
    · skip
      refine pw_iconst (v := 0) dX8_two_81 rfl ?_
      refine pw_iret dX8_two_82 rfl ?_
      exact ⟨by unfold twoF; simp_all, rfl⟩
    · skip
      refine pw_iconst (v := 1) dX8_two_77 rfl ?_
      refine pw_goto (tgt := 82) dX8_two_78 (by decide) ?_
      refine pw_iret dX8_two_82 rfl ?_
      exact ⟨by unfold twoF; simp_all, rfl⟩
  by_cases q_1_4 : k = 15
  · skip
    refine pw_tsIn (v := 15) (tgt := 83) dX8_two_1 q_1_4 (by decide) (by decide) rfl (by decide) ?_
    refine pw_iload_n dX8_two_83 rfl rfl ?_
    refine pw_iload_n dX8_two_84 rfl rfl ?_
    refine pw_icmp_ne (tgt := 92) dX8_two_85 (by decide) (fun c_85 => ?_) (fun c_85 => ?_)
    · skip
      refine pw_iconst (v := 0) dX8_two_92 rfl ?_
      refine pw_iret dX8_two_93 rfl ?_
      exact ⟨by unfold twoF; simp_all, rfl⟩
    · skip
      refine pw_iconst (v := 1) dX8_two_88 rfl ?_
      refine pw_goto (tgt := 93) dX8_two_89 (by decide) ?_
      refine pw_iret dX8_two_93 rfl ?_
      exact ⟨by unfold twoF; simp_all, rfl⟩
  by_cases q_1_5 : k = 16
  · skip
    refine pw_tsIn (v := 16) (tgt := 94) dX8_two_1 q_1_5 (by decide) (by decide) rfl (by decide) ?_
    refine pw_iload_n dX8_two_94 rfl rfl ?_
    refine pw_iload_n dX8_two_95 rfl rfl ?_
    refine pw_iadd dX8_two_96 ?_
    refine pw_iret dX8_two_97 rfl ?_
    exact ⟨by unfold twoF; simp_all, rfl⟩
  by_cases q_1_6 : k = 17
  · skip
    refine pw_tsIn (v := 17) (tgt := 98) dX8_two_1 q_1_6 (by decide) (by decide) rfl (by decide) ?_
    refine pw_iload_n dX8_two_98 rfl rfl ?_
    refine pw_iload_n dX8_two_99 rfl rfl ?_
    refine pw_isub dX8_two_100 ?_
    refine pw_iret dX8_two_101 rfl ?_
    exact ⟨by unfold twoF; simp_all, rfl⟩
  have zq_1_0 := lv_neT q_1_0 (a := 11) rfl
  have zq_1_1 := lv_neT q_1_1 (a := 12) rfl
  have zq_1_2 := lv_neT q_1_2 (a := 13) rfl
  have zq_1_3 := lv_neT q_1_3 (a := 14) rfl
  have zq_1_4 := lv_neT q_1_4 (a := 15) rfl
  have zq_1_5 := lv_neT q_1_5 (a := 16) rfl
  have zq_1_6 := lv_neT q_1_6 (a := 17) rfl
  refine pw_tsOut (tgt := 102) dX8_two_1 (by omega) (by decide) ?_
  refine pw_iload_n dX8_two_102 rfl rfl ?_
  refine pw_iload_n dX8_two_103 rfl rfl ?_
  refine pw_imul dX8_two_104 ?_
  refine pw_iret dX8_two_105 rfl ?_
  exact ⟨by unfold twoF; simp_all, rfl⟩

