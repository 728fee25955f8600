def xM (μ : PM) (a b t v h o u : Int32) (H C : Nat → Int32) : PM := (fun c => if c = 0 then (fun j => if j = 24 then a else if j = 25 then b else if j = 26 then t else if j = 27 then v else if j = 30 then h else if j = 31 then o else if j = 32 then u else μ.1 0 j) else if c = 7 then C else if c = 15 then H else μ.1 c, μ.2)
theorem tM_self {μ : PM} : xM μ (μ.1 0 24) (μ.1 0 25) (μ.1 0 26) (μ.1 0 27) (μ.1 0 30) (μ.1 0 31) (μ.1 0 32) (μ.1 15) (μ.1 7) = μ := by
  refine PM_ext (fun c => ?_) rfl
  show (if c = 0 then _ else if c = 7 then μ.1 7 else if c = 15 then μ.1 15 else μ.1 c) = μ.1 c
  by_cases h0 : c = 0
  · subst h0
    rw [if_pos rfl]
    funext j
    show (if j = 24 then μ.1 0 24 else if j = 25 then μ.1 0 25 else if j = 26 then μ.1 0 26 else if j = 27 then μ.1 0 27 else if j = 30 then μ.1 0 30 else if j = 31 then μ.1 0 31 else if j = 32 then μ.1 0 32 else μ.1 0 j) = μ.1 0 j
    by_cases e1 : j = 24
    · rw [if_pos e1, e1]
    · rw [if_neg e1]
      by_cases e2 : j = 25
      · rw [if_pos e2, e2]
      · rw [if_neg e2]
        by_cases e3 : j = 26
        · rw [if_pos e3, e3]
        · rw [if_neg e3]
          by_cases e4 : j = 27
          · rw [if_pos e4, e4]
          · rw [if_neg e4]
            by_cases e5 : j = 30
            · rw [if_pos e5, e5]
            · rw [if_neg e5]
              by_cases e6 : j = 31
              · rw [if_pos e6, e6]
              · rw [if_neg e6]
                by_cases e7 : j = 32
                · rw [if_pos e7, e7]
                · rw [if_neg e7]
  · rw [if_neg h0]
    by_cases h7 : c = 7
    · rw [if_pos h7, h7]
    · rw [if_neg h7]
      by_cases h15 : c = 15
      · rw [if_pos h15, h15]
      · rw [if_neg h15]
theorem t_24 {μ : PM} {V : VW} {nm sk st : Nat → Int32} {sn a b t v h o u x : Int32} {H C : Nat → Int32} : si (mm (xM μ a b t v h o u H C) V nm sk st sn) 0 24 x = mm (xM μ x b t v h o u H C) V nm sk st sn := by
  rw [m_0 (by decide) (by decide) (by decide) (by decide) (by decide)]
  congr 1
  refine PM_ext (fun c => ?_) rfl
  by_cases h0 : c = 0
  · subst h0
    rw [si_same]
    funext j
    by_cases e : j = 24
    · subst e; rw [upd_s]; rfl
    · rw [upd_o _ _ e]
      show (if j = 24 then a else if j = 25 then b else if j = 26 then t else if j = 27 then v else if j = 30 then h else if j = 31 then o else if j = 32 then u else μ.1 0 j) = (if j = 24 then x else if j = 25 then b else if j = 26 then t else if j = 27 then v else if j = 30 then h else if j = 31 then o else if j = 32 then u else μ.1 0 j)
      rw [if_neg e, if_neg e]
  · rw [si_other _ _ _ _ h0]
    show (if c = 0 then _ else _) = (if c = 0 then _ else _)
    rw [if_neg h0, if_neg h0]
theorem t_25 {μ : PM} {V : VW} {nm sk st : Nat → Int32} {sn a b t v h o u x : Int32} {H C : Nat → Int32} : si (mm (xM μ a b t v h o u H C) V nm sk st sn) 0 25 x = mm (xM μ a x t v h o u H C) V nm sk st sn := by
  rw [m_0 (by decide) (by decide) (by decide) (by decide) (by decide)]
  congr 1
  refine PM_ext (fun c => ?_) rfl
  by_cases h0 : c = 0
  · subst h0
    rw [si_same]
    funext j
    by_cases e : j = 25
    · subst e; rw [upd_s]; rfl
    · rw [upd_o _ _ e]
      show (if j = 24 then a else if j = 25 then b else if j = 26 then t else if j = 27 then v else if j = 30 then h else if j = 31 then o else if j = 32 then u else μ.1 0 j) = (if j = 24 then a else if j = 25 then x else if j = 26 then t else if j = 27 then v else if j = 30 then h else if j = 31 then o else if j = 32 then u else μ.1 0 j)
      simp only [if_neg e]
  · rw [si_other _ _ _ _ h0]
    show (if c = 0 then _ else _) = (if c = 0 then _ else _)
    rw [if_neg h0, if_neg h0]
theorem t_26 {μ : PM} {V : VW} {nm sk st : Nat → Int32} {sn a b t v h o u x : Int32} {H C : Nat → Int32} : si (mm (xM μ a b t v h o u H C) V nm sk st sn) 0 26 x = mm (xM μ a b x v h o u H C) V nm sk st sn := by
  rw [m_0 (by decide) (by decide) (by decide) (by decide) (by decide)]
  congr 1
  refine PM_ext (fun c => ?_) rfl
  by_cases h0 : c = 0
  · subst h0
    rw [si_same]
    funext j
    by_cases e : j = 26
    · subst e; rw [upd_s]; rfl
    · rw [upd_o _ _ e]
      show (if j = 24 then a else if j = 25 then b else if j = 26 then t else if j = 27 then v else if j = 30 then h else if j = 31 then o else if j = 32 then u else μ.1 0 j) = (if j = 24 then a else if j = 25 then b else if j = 26 then x else if j = 27 then v else if j = 30 then h else if j = 31 then o else if j = 32 then u else μ.1 0 j)
      simp only [if_neg e]
  · rw [si_other _ _ _ _ h0]
    show (if c = 0 then _ else _) = (if c = 0 then _ else _)
    rw [if_neg h0, if_neg h0]
theorem t_27 {μ : PM} {V : VW} {nm sk st : Nat → Int32} {sn a b t v h o u x : Int32} {H C : Nat → Int32} : si (mm (xM μ a b t v h o u H C) V nm sk st sn) 0 27 x = mm (xM μ a b t x h o u H C) V nm sk st sn := by
  rw [m_0 (by decide) (by decide) (by decide) (by decide) (by decide)]
  congr 1
  refine PM_ext (fun c => ?_) rfl
  by_cases h0 : c = 0
  · subst h0
    rw [si_same]
    funext j
    by_cases e : j = 27
    · subst e; rw [upd_s]; rfl
    · rw [upd_o _ _ e]
      show (if j = 24 then a else if j = 25 then b else if j = 26 then t else if j = 27 then v else if j = 30 then h else if j = 31 then o else if j = 32 then u else μ.1 0 j) = (if j = 24 then a else if j = 25 then b else if j = 26 then t else if j = 27 then x else if j = 30 then h else if j = 31 then o else if j = 32 then u else μ.1 0 j)
      simp only [if_neg e]
  · rw [si_other _ _ _ _ h0]
    show (if c = 0 then _ else _) = (if c = 0 then _ else _)
    rw [if_neg h0, if_neg h0]
theorem t_30 {μ : PM} {V : VW} {nm sk st : Nat → Int32} {sn a b t v h o u x : Int32} {H C : Nat → Int32} : si (mm (xM μ a b t v h o u H C) V nm sk st sn) 0 30 x = mm (xM μ a b t v x o u H C) V nm sk st sn := by
  rw [m_0 (by decide) (by decide) (by decide) (by decide) (by decide)]
  congr 1
  refine PM_ext (fun c => ?_) rfl
  by_cases h0 : c = 0
  · subst h0
    rw [si_same]
    funext j
    by_cases e : j = 30
    · subst e; rw [upd_s]; rfl
    · rw [upd_o _ _ e]
      show (if j = 24 then a else if j = 25 then b else if j = 26 then t else if j = 27 then v else if j = 30 then h else if j = 31 then o else if j = 32 then u else μ.1 0 j) = (if j = 24 then a else if j = 25 then b else if j = 26 then t else if j = 27 then v else if j = 30 then x else if j = 31 then o else if j = 32 then u else μ.1 0 j)
      simp only [if_neg e]
  · rw [si_other _ _ _ _ h0]
    show (if c = 0 then _ else _) = (if c = 0 then _ else _)
    rw [if_neg h0, if_neg h0]
theorem t_31 {μ : PM} {V : VW} {nm sk st : Nat → Int32} {sn a b t v h o u x : Int32} {H C : Nat → Int32} : si (mm (xM μ a b t v h o u H C) V nm sk st sn) 0 31 x = mm (xM μ a b t v h x u H C) V nm sk st sn := by
  rw [m_0 (by decide) (by decide) (by decide) (by decide) (by decide)]
  congr 1
  refine PM_ext (fun c => ?_) rfl
  by_cases h0 : c = 0
  · subst h0
    rw [si_same]
    funext j
    by_cases e : j = 31
    · subst e; rw [upd_s]; rfl
    · rw [upd_o _ _ e]
      show (if j = 24 then a else if j = 25 then b else if j = 26 then t else if j = 27 then v else if j = 30 then h else if j = 31 then o else if j = 32 then u else μ.1 0 j) = (if j = 24 then a else if j = 25 then b else if j = 26 then t else if j = 27 then v else if j = 30 then h else if j = 31 then x else if j = 32 then u else μ.1 0 j)
      simp only [if_neg e]
  · rw [si_other _ _ _ _ h0]
    show (if c = 0 then _ else _) = (if c = 0 then _ else _)
    rw [if_neg h0, if_neg h0]
theorem t_32 {μ : PM} {V : VW} {nm sk st : Nat → Int32} {sn a b t v h o u x : Int32} {H C : Nat → Int32} : si (mm (xM μ a b t v h o u H C) V nm sk st sn) 0 32 x = mm (xM μ a b t v h o x H C) V nm sk st sn := by
  rw [m_0 (by decide) (by decide) (by decide) (by decide) (by decide)]
  congr 1
  refine PM_ext (fun c => ?_) rfl
  by_cases h0 : c = 0
  · subst h0
    rw [si_same]
    funext j
    by_cases e : j = 32
    · subst e; rw [upd_s]; rfl
    · rw [upd_o _ _ e]
      show (if j = 24 then a else if j = 25 then b else if j = 26 then t else if j = 27 then v else if j = 30 then h else if j = 31 then o else if j = 32 then u else μ.1 0 j) = (if j = 24 then a else if j = 25 then b else if j = 26 then t else if j = 27 then v else if j = 30 then h else if j = 31 then o else if j = 32 then x else μ.1 0 j)
      simp only [if_neg e]
  · rw [si_other _ _ _ _ h0]
    show (if c = 0 then _ else _) = (if c = 0 then _ else _)
    rw [if_neg h0, if_neg h0]
theorem t_7 {μ : PM} {V : VW} {nm sk st : Nat → Int32} {sn a b t v h o u x : Int32} {H C : Nat → Int32} {j : Nat} : si (mm (xM μ a b t v h o u H C) V nm sk st sn) 7 j x = mm (xM μ a b t v h o u H (upd C j x)) V nm sk st sn := by
  rw [m_7]
  congr 1
  refine PM_ext (fun c => ?_) rfl
  by_cases h0 : c = 7
  · subst h0
    rw [si_same]
    rfl
  · rw [si_other _ _ _ _ h0]
    show (if c = 0 then _ else if c = 7 then C else if c = 15 then H else _) = (if c = 0 then _ else if c = 7 then upd C j x else if c = 15 then H else _)
    simp only [if_neg h0]
theorem t_15 {μ : PM} {V : VW} {nm sk st : Nat → Int32} {sn a b t v h o u x : Int32} {H C : Nat → Int32} {j : Nat} : si (mm (xM μ a b t v h o u H C) V nm sk st sn) 15 j x = mm (xM μ a b t v h o u (upd H j x) C) V nm sk st sn := by
  rw [m_15]
  congr 1
  refine PM_ext (fun c => ?_) rfl
  by_cases h0 : c = 15
  · subst h0
    rw [si_same]
    rfl
  · rw [si_other _ _ _ _ h0]
    show (if c = 0 then _ else if c = 7 then C else if c = 15 then H else _) = (if c = 0 then _ else if c = 7 then C else if c = 15 then upd H j x else _)
    simp only [if_neg h0]
def lkG (wd f : Nat → Int32) (k a b : Nat) : Nat → Nat → Bool
  | 0, _ => true
  | m + 1, c => if wd (8 * k + c) = (if a + c < b then f (a + c) else 32) then lkG wd f k a b m (c + 1) else false
def mwF (wd f : Nat → Int32) (a b : Nat) : Nat → Nat → Nat
  | 0, _ => 12
  | m + 1, k => if (decide (b - a ≤ 8) && lkG wd f k a b 8 0) = true then k else mwF wd f a b m (k + 1)
theorem mwF_le {wd f : Nat → Int32} {a b : Nat} : ∀ m k, k + m ≤ 12 → mwF wd f a b m k ≤ 12
  | 0, _, _ => Nat.le_refl _
  | m + 1, k, h => by
    unfold mwF
    split
    · omega
    · exact mwF_le m (k + 1) (by omega)
def skF (f : Nat → Int32) : Nat → Nat → Nat
  | 0, a => a
  | m + 1, a => if f a = 32 ∨ f a = 10 then skF f m (a + 1) else a
theorem skF_b {f : Nat → Int32} : ∀ m a, a ≤ skF f m a ∧ skF f m a ≤ a + m
  | 0, a => ⟨Nat.le_refl _, Nat.le_refl _⟩
  | m + 1, a => by
    have h := skF_b (f := f) m (a + 1)
    unfold skF
    split <;> omega
def nxQ (f : Nat → Int32) (n p : Nat) : Nat := skF f (n - p) p
def nxE (f : Nat → Int32) (n q : Nat) : Nat := if q = n then q else if letB (f q) then scanF letB f (n - q) q else if digB (f q) then scanF digB f (n - q) q else q + 1
def sgnB (c : Int32) : Bool := decide (c = 40) || (decide (c = 41) || (decide (c = 59) || (decide (c = 43) || (decide (c = 45) || (decide (c = 42) || (decide (c = 60) || decide (c = 61)))))))
def tkW (k : Nat) : Int32 := if k < 3 then 3 else if k < 9 then 2 else if k = 12 then -1 else nI 4 + nI k - nI 9
def vlW (k : Nat) : Int32 := if k < 3 then nI k else nI k - nI 3
def nvF (f : Nat → Int32) (q : Nat) : Nat → Int32
  | 0 => 0
  | i + 1 => if i < 4 then nI 10 * nvF f q i + f (q + i) - 48 else 0
def nxT (wd f : Nat → Int32) (n q : Nat) : Int32 := if q = n then 0 else if letB (f q) then tkW (mwF wd f q (nxE f n q) 12 0) else if digB (f q) then (if 4 < nxE f n q - q then -1 else 1) else if sgnB (f q) then f q else -1
def nxV (wd f : Nat → Int32) (n q : Nat) : Int32 := if q = n then 0 else if letB (f q) then vlW (mwF wd f q (nxE f n q) 12 0) else if digB (f q) then nvF f q (nxE f n q - q) else 0
theorem scan_b {p : Int32 → Bool} {f : Nat → Int32} : ∀ m a, a ≤ scanF p f m a ∧ scanF p f m a ≤ a + m
  | 0, a => ⟨Nat.le_refl _, Nat.le_refl _⟩
  | m + 1, a => by
    have h := scan_b (p := p) (f := f) m (a + 1)
    unfold scanF
    split <;> omega
theorem sw_n {p : Int32 → Bool} {f : Nat → Int32} {n r : Nat} (h : r < n) (e : p (f r) = true) : scanF p f (n - r) r = scanF p f (n - (r + 1)) (r + 1) := by
  rw [show n - r = (n - (r + 1)) + 1 by omega]
  show (if p (f r) then _ else _) = _
  rw [if_pos e]
theorem sw_e {p : Int32 → Bool} {f : Nat → Int32} {n r : Nat} (h : r < n) (e : p (f r) = false) : scanF p f (n - r) r = r := by
  rw [show n - r = (n - (r + 1)) + 1 by omega]
  show (if p (f r) then _ else _) = _
  rw [e, if_neg Bool.false_ne_true]
theorem sw_z {p : Int32 → Bool} {f : Nat → Int32} {n r : Nat} (h : n ≤ r) : scanF p f (n - r) r = r := by
  rw [show n - r = 0 by omega]
  rfl
set_option maxHeartbeats 4000000 in
set_option maxRecDepth 100000 in
theorem T_X8_wordFrom {l : Launch} {μ : PM} {V : VW} {nm sk st : Nat → Int32} {sn : Int32} {a b : Nat} (hab : a ≤ b) (hb : b ≤ 160) : CT l SM yX8_wordFrom cX8_wordFrom 6 (some .int) 1 [.ref 0, .int (nI a), .int (nI b)] (mm μ V nm sk st sn) (QI fun x m => x = nI (mwF (μ.1 14) (μ.1 6) a b 12 0) ∧ m = mm μ V nm sk st sn) := by
  refine CT.of rfl (Nat.le_of_ble_eq_true rfl) ?_
  show PW l SM RX8 cX8_wordFrom 6 (some .int) 1 _ 0 [(0, .ref 0), (1, .int (nI a)), (2, .int (nI b))] [] (mm μ V nm sk st sn)
  refine pw_iconst (v := 0) dX8_wordFrom_0 rfl ?_
  refine pw_istore_n (ls2 := [(3, _), (0, _), (1, _), (2, _)]) dX8_wordFrom_1 rfl (by decide) rfl ?_
  have L_2 : ∀ (fu_2 : Nat) (k : Nat), (k ≤ 12) → (mwF (μ.1 14) (μ.1 6) a b (12 - k) k = mwF (μ.1 14) (μ.1 6) a b 12 0) → 12 - k < fu_2 → PW l SM RX8 cX8_wordFrom 6 (some .int) 1 (QI fun x m => x = nI (mwF (μ.1 14) (μ.1 6) a b 12 0) ∧ m = mm μ V nm sk st sn) 2 [(0, .ref 0), (1, .int (nI a)), (2, .int (nI b)), (3, .int (nI k))] [] (mm μ V nm sk st sn) := by
    intro fu_2
    induction fu_2 with
    | zero =>
      intro k hk hx hm_2
      exact absurd hm_2 (Nat.not_lt_zero _)
    | succ fu_2 ih_2 =>
      intro k hk hx hm_2
      refine pw_iload_n dX8_wordFrom_2 rfl rfl ?_
      refine pw_bipush (v := 12) dX8_wordFrom_3 rfl ?_
      refine pw_icmp_ge (tgt := 101) dX8_wordFrom_5 (by decide) (fun c_5 => ?_) (fun c_5 => ?_)
      · skip
        have hge := nI_geD (n := 12) (by decide) c_5
        refine pw_bipush (v := 12) dX8_wordFrom_101 rfl ?_
        refine pw_iret dX8_wordFrom_103 rfl ?_
        exact ⟨by rw [← hx, show 12 - k = 0 by omega]; rfl, rfl⟩
      · skip
        have hlt := nI_ltD (n := 12) (by omega) c_5
        have hx2 := hx
        rw [show 12 - k = (12 - (k + 1)) + 1 by omega] at hx2
        change (if (decide (b - a ≤ 8) && lkG (μ.1 14) (μ.1 6) k a b 8 0) = true then k else mwF (μ.1 14) (μ.1 6) a b _ (k + 1)) = _ at hx2
        refine pw_iload_n dX8_wordFrom_8 rfl rfl ?_
        refine pw_iload_n dX8_wordFrom_9 rfl rfl ?_
        refine pw_isub dX8_wordFrom_10 ?_
        refine pw_top (y := nI (b - a)) (sub_nI (by omega)) ?_
        refine pw_bipush (v := 8) dX8_wordFrom_11 rfl ?_
        refine pw_icmp_gt (tgt := 20) dX8_wordFrom_13 (by decide) (fun c_13 => ?_) (fun c_13 => ?_)
        · skip
          have h8 : decide (b - a ≤ 8) = false := decide_eq_false (fun q => absurd c_13 (show ¬ (8 : Int32) < nI (b - a) from nI_nlt q (by decide)))
          refine pw_iconst (v := 0) dX8_wordFrom_20 rfl ?_
          refine pw_top (y := b2 (decide (b - a ≤ 8))) (by rw [h8]; rfl) ?_
          refine pw_istore (ls2 := [(4, _), (0, _), (1, _), (2, _), (3, _)]) dX8_wordFrom_21 (by decide) rfl ?_
          refine pw_iconst (v := 0) dX8_wordFrom_23 rfl ?_
          refine pw_istore (ls2 := [(5, _), (4, _), (0, _), (1, _), (2, _), (3, _)]) dX8_wordFrom_24 (by decide) rfl ?_
          have L_26 : ∀ (fu_26 : Nat) (c : Nat) (lk : Bool), (c ≤ 8) → ((lk && lkG (μ.1 14) (μ.1 6) k a b (8 - c) c) = (decide (b - a ≤ 8) && lkG (μ.1 14) (μ.1 6) k a b 8 0)) → 8 - c < fu_26 → PW l SM RX8 cX8_wordFrom 6 (some .int) 1 (QI fun x m => x = nI (mwF (μ.1 14) (μ.1 6) a b 12 0) ∧ m = mm μ V nm sk st sn) 26 [(0, .ref 0), (1, .int (nI a)), (2, .int (nI b)), (3, .int (nI k)), (4, .int (b2 lk)), (5, .int (nI c))] [] (mm μ V nm sk st sn) := by
            intro fu_26
            induction fu_26 with
            | zero =>
              intro c lk hc hy hm_26
              exact absurd hm_26 (Nat.not_lt_zero _)
            | succ fu_26 ih_26 =>
              intro c lk hc hy hm_26
              refine pw_iload dX8_wordFrom_26 rfl ?_
              refine pw_bipush (v := 8) dX8_wordFrom_28 rfl ?_
              refine pw_icmp_ge (tgt := 88) dX8_wordFrom_30 (by decide) (fun c_30 => ?_) (fun c_30 => ?_)
              · skip
                have hge8 := nI_geD (n := 8) (by decide) c_30
                rw [show 8 - c = 0 by omega] at hy
                change (lk && true) = _ at hy
                rw [Bool.and_true] at hy
                refine pw_iload dX8_wordFrom_88 rfl ?_
                refine pw_if_eq (tgt := 95) dX8_wordFrom_90 (by decide) (fun c_90 => ?_) (fun c_90 => ?_)
                · skip
                  have hf : (decide (b - a ≤ 8) && lkG (μ.1 14) (μ.1 6) k a b 8 0) = false := by rw [← hy]; exact b2_0 c_90
                  rw [hf, if_neg Bool.false_ne_true] at hx2
                  refine pw_iinc (ls2 := [(3, _), (0, _), (1, _), (2, _), (4, _), (5, _)]) (v := nI (k + 1)) dX8_wordFrom_95 rfl (inc1 k) (by decide) rfl ?_
                  refine pw_goto (tgt := 2) dX8_wordFrom_98 (by decide) ?_
                  refine pw_sub [1, 2, 3, 0] rfl ?_
                  exact ih_2 (k + 1) hlt hx2 (by omega)
                · skip
                  have hf : (decide (b - a ≤ 8) && lkG (μ.1 14) (μ.1 6) k a b 8 0) = true := by rw [← hy]; exact b2_n c_90
                  rw [hf, if_pos rfl] at hx2
                  refine pw_iload_n dX8_wordFrom_93 rfl rfl ?_
                  refine pw_iret dX8_wordFrom_94 rfl ?_
                  exact ⟨by rw [← hx2], rfl⟩
              · skip
                have hlt8 := nI_ltD (n := 8) (by omega) c_30
                have hy2 := hy
                rw [show 8 - c = (8 - (c + 1)) + 1 by omega] at hy2
                change (lk && (if μ.1 14 (8 * k + c) = (if a + c < b then μ.1 6 (a + c) else 32) then lkG (μ.1 14) (μ.1 6) k a b _ (c + 1) else false)) = _ at hy2
                refine pw_iload dX8_wordFrom_33 rfl ?_
                refine pw_if_eq (tgt := 88) dX8_wordFrom_35 (by decide) (fun c_35 => ?_) (fun c_35 => ?_)
                · skip
                  have hl0 := b2_0 c_35
                  rw [hl0, Bool.false_and] at hy
                  refine pw_iload dX8_wordFrom_88 rfl ?_
                  refine pw_if_eq (tgt := 95) dX8_wordFrom_90 (by decide) (fun c_90 => ?_) (fun c_90 => ?_)
                  · skip
                    rw [← hy, if_neg Bool.false_ne_true] at hx2
                    refine pw_iinc (ls2 := [(3, _), (0, _), (1, _), (2, _), (4, _), (5, _)]) (v := nI (k + 1)) dX8_wordFrom_95 rfl (inc1 k) (by decide) rfl ?_
                    refine pw_goto (tgt := 2) dX8_wordFrom_98 (by decide) ?_
                    refine pw_sub [1, 2, 3, 0] rfl ?_
                    exact ih_2 (k + 1) hlt hx2 (by omega)
                  · skip
                    skip
                    exact absurd (by rw [hl0]; rfl) c_90
                · skip
                  have hl1 := b2_n c_35
                  rw [hl1, Bool.true_and] at hy2
                  refine pw_aload_n dX8_wordFrom_38 rfl rfl ?_
                  refine pw_getR dX8_wordFrom_39 fa_X8_49 rfl ?_
                  refine pw_bipush (v := 8) dX8_wordFrom_42 rfl ?_
                  refine pw_iload_n dX8_wordFrom_44 rfl rfl ?_
                  refine pw_imul dX8_wordFrom_45 ?_
                  refine pw_iload dX8_wordFrom_46 rfl ?_
                  refine pw_iadd dX8_wordFrom_48 ?_
                  refine pw_iald (j := 8 * k + c) dX8_wordFrom_49 rfl (by show nI 8 * nI k + nI c = _; rw [pk_mul, nI_add]) (by omega) ?_
                  refine pw_top (y := μ.1 14 (8 * k + c)) rfl ?_
                  refine pw_iload_n dX8_wordFrom_50 rfl rfl ?_
                  refine pw_iload dX8_wordFrom_51 rfl ?_
                  refine pw_iadd dX8_wordFrom_53 ?_
                  refine pw_top (y := nI (a + c)) (nI_add _ _) ?_
                  refine pw_iload_n dX8_wordFrom_54 rfl rfl ?_
                  refine pw_icmp_ge (tgt := 70) dX8_wordFrom_55 (by decide) (fun c_55 => ?_) (fun c_55 => ?_)
                  · skip
                    have hab2 : ¬ a + c < b := by
                      have := nI_geD (by omega) c_55
                      omega
                    rw [if_neg hab2] at hy2
                    refine pw_bipush (v := 32) dX8_wordFrom_70 rfl ?_
                    refine pw_icmp_ne (tgt := 79) dX8_wordFrom_72 (by decide) (fun c_72 => ?_) (fun c_72 => ?_)
                    · skip
                      rw [if_neg c_72] at hy2
                      refine pw_iconst (v := 0) dX8_wordFrom_79 rfl ?_
                      refine pw_istore (ls2 := [(4, _), (0, _), (1, _), (2, _), (3, _), (5, _)]) dX8_wordFrom_80 (by decide) rfl ?_
                      refine pw_iinc (ls2 := [(5, _), (4, _), (0, _), (1, _), (2, _), (3, _)]) (v := nI (c + 1)) dX8_wordFrom_82 rfl (inc1 c) (by decide) rfl ?_
                      refine pw_goto (tgt := 26) dX8_wordFrom_85 (by decide) ?_
                      refine pw_sub [2, 3, 4, 5, 1, 0] rfl ?_
                      exact ih_26 (c + 1) false hlt8 (by rw [Bool.false_and]; exact hy2) (by omega)
                    · skip
                      rw [if_pos c_72] at hy2
                      refine pw_iconst (v := 1) dX8_wordFrom_75 rfl ?_
                      refine pw_goto (tgt := 80) dX8_wordFrom_76 (by decide) ?_
                      refine pw_istore (ls2 := [(4, _), (0, _), (1, _), (2, _), (3, _), (5, _)]) dX8_wordFrom_80 (by decide) rfl ?_
                      refine pw_iinc (ls2 := [(5, _), (4, _), (0, _), (1, _), (2, _), (3, _)]) (v := nI (c + 1)) dX8_wordFrom_82 rfl (inc1 c) (by decide) rfl ?_
                      refine pw_goto (tgt := 26) dX8_wordFrom_85 (by decide) ?_
                      refine pw_sub [2, 3, 4, 5, 1, 0] rfl ?_
                      exact ih_26 (c + 1) true hlt8 (by rw [Bool.true_and]; exact hy2) (by omega)
                  · skip
                    have hab2 : a + c < b := nI_ltD (by omega) c_55
                    rw [if_pos hab2] at hy2
                    refine pw_aload_n dX8_wordFrom_58 rfl rfl ?_
                    refine pw_getR dX8_wordFrom_59 fa_X8_25 rfl ?_
                    refine pw_iload_n dX8_wordFrom_62 rfl rfl ?_
                    refine pw_iload dX8_wordFrom_63 rfl ?_
                    refine pw_iadd dX8_wordFrom_65 ?_
                    refine pw_iald (j := a + c) dX8_wordFrom_66 rfl (nI_add _ _) (by omega) ?_
                    refine pw_top (y := μ.1 6 (a + c)) rfl ?_
                    refine pw_goto (tgt := 72) dX8_wordFrom_67 (by decide) ?_
                    refine pw_icmp_ne (tgt := 79) dX8_wordFrom_72 (by decide) (fun c_72 => ?_) (fun c_72 => ?_)
                    · skip
                      rw [if_neg c_72] at hy2
                      refine pw_iconst (v := 0) dX8_wordFrom_79 rfl ?_
                      refine pw_istore (ls2 := [(4, _), (0, _), (1, _), (2, _), (3, _), (5, _)]) dX8_wordFrom_80 (by decide) rfl ?_
                      refine pw_iinc (ls2 := [(5, _), (4, _), (0, _), (1, _), (2, _), (3, _)]) (v := nI (c + 1)) dX8_wordFrom_82 rfl (inc1 c) (by decide) rfl ?_
                      refine pw_goto (tgt := 26) dX8_wordFrom_85 (by decide) ?_
                      refine pw_sub [2, 3, 4, 5, 1, 0] rfl ?_
                      exact ih_26 (c + 1) false hlt8 (by rw [Bool.false_and]; exact hy2) (by omega)
                    · skip
                      rw [if_pos c_72] at hy2
                      refine pw_iconst (v := 1) dX8_wordFrom_75 rfl ?_
                      refine pw_goto (tgt := 80) dX8_wordFrom_76 (by decide) ?_
                      refine pw_istore (ls2 := [(4, _), (0, _), (1, _), (2, _), (3, _), (5, _)]) dX8_wordFrom_80 (by decide) rfl ?_
                      refine pw_iinc (ls2 := [(5, _), (4, _), (0, _), (1, _), (2, _), (3, _)]) (v := nI (c + 1)) dX8_wordFrom_82 rfl (inc1 c) (by decide) rfl ?_
                      refine pw_goto (tgt := 26) dX8_wordFrom_85 (by decide) ?_
                      refine pw_sub [2, 3, 4, 5, 1, 0] rfl ?_
                      exact ih_26 (c + 1) true hlt8 (by rw [Bool.true_and]; exact hy2) (by omega)
          refine pw_sub [2, 3, 4, 5, 1, 0] rfl ?_
          exact L_26 9 0 (decide (b - a ≤ 8)) (Nat.zero_le _) rfl (by omega)
        · skip
          have h8 : decide (b - a ≤ 8) = true := decide_eq_true (by
            rcases Nat.lt_or_ge 8 (b - a) with q | q
            · exact absurd (show (8 : Int32) < nI (b - a) from nI_lt (a := 8) q (by omega)) c_13
            · exact q)
          refine pw_iconst (v := 1) dX8_wordFrom_16 rfl ?_
          refine pw_goto (tgt := 21) dX8_wordFrom_17 (by decide) ?_
          refine pw_top (y := b2 (decide (b - a ≤ 8))) (by rw [h8]; rfl) ?_
          refine pw_istore (ls2 := [(4, _), (0, _), (1, _), (2, _), (3, _)]) dX8_wordFrom_21 (by decide) rfl ?_
          refine pw_iconst (v := 0) dX8_wordFrom_23 rfl ?_
          refine pw_istore (ls2 := [(5, _), (4, _), (0, _), (1, _), (2, _), (3, _)]) dX8_wordFrom_24 (by decide) rfl ?_
          have L_26 : ∀ (fu_26 : Nat) (c : Nat) (lk : Bool), (c ≤ 8) → ((lk && lkG (μ.1 14) (μ.1 6) k a b (8 - c) c) = (decide (b - a ≤ 8) && lkG (μ.1 14) (μ.1 6) k a b 8 0)) → 8 - c < fu_26 → PW l SM RX8 cX8_wordFrom 6 (some .int) 1 (QI fun x m => x = nI (mwF (μ.1 14) (μ.1 6) a b 12 0) ∧ m = mm μ V nm sk st sn) 26 [(0, .ref 0), (1, .int (nI a)), (2, .int (nI b)), (3, .int (nI k)), (4, .int (b2 lk)), (5, .int (nI c))] [] (mm μ V nm sk st sn) := by
            intro fu_26
            induction fu_26 with
            | zero =>
              intro c lk hc hy hm_26
              exact absurd hm_26 (Nat.not_lt_zero _)
            | succ fu_26 ih_26 =>
              intro c lk hc hy hm_26
              refine pw_iload dX8_wordFrom_26 rfl ?_
              refine pw_bipush (v := 8) dX8_wordFrom_28 rfl ?_
              refine pw_icmp_ge (tgt := 88) dX8_wordFrom_30 (by decide) (fun c_30 => ?_) (fun c_30 => ?_)
              · skip
                have hge8 := nI_geD (n := 8) (by decide) c_30
                rw [show 8 - c = 0 by omega] at hy
                change (lk && true) = _ at hy
                rw [Bool.and_true] at hy
                refine pw_iload dX8_wordFrom_88 rfl ?_
                refine pw_if_eq (tgt := 95) dX8_wordFrom_90 (by decide) (fun c_90 => ?_) (fun c_90 => ?_)
                · skip
                  have hf : (decide (b - a ≤ 8) && lkG (μ.1 14) (μ.1 6) k a b 8 0) = false := by rw [← hy]; exact b2_0 c_90
                  rw [hf, if_neg Bool.false_ne_true] at hx2
                  refine pw_iinc (ls2 := [(3, _), (0, _), (1, _), (2, _), (4, _), (5, _)]) (v := nI (k + 1)) dX8_wordFrom_95 rfl (inc1 k) (by decide) rfl ?_
                  refine pw_goto (tgt := 2) dX8_wordFrom_98 (by decide) ?_
                  refine pw_sub [1, 2, 3, 0] rfl ?_
                  exact ih_2 (k + 1) hlt hx2 (by omega)
                · skip
                  have hf : (decide (b - a ≤ 8) && lkG (μ.1 14) (μ.1 6) k a b 8 0) = true := by rw [← hy]; exact b2_n c_90
                  rw [hf, if_pos rfl] at hx2
                  refine pw_iload_n dX8_wordFrom_93 rfl rfl ?_
                  refine pw_iret dX8_wordFrom_94 rfl ?_
                  exact ⟨by rw [← hx2], rfl⟩
              · skip
                have hlt8 := nI_ltD (n := 8) (by omega) c_30
                have hy2 := hy
                rw [show 8 - c = (8 - (c + 1)) + 1 by omega] at hy2
                change (lk && (if μ.1 14 (8 * k + c) = (if a + c < b then μ.1 6 (a + c) else 32) then lkG (μ.1 14) (μ.1 6) k a b _ (c + 1) else false)) = _ at hy2
                refine pw_iload dX8_wordFrom_33 rfl ?_
                refine pw_if_eq (tgt := 88) dX8_wordFrom_35 (by decide) (fun c_35 => ?_) (fun c_35 => ?_)
                · skip
                  have hl0 := b2_0 c_35
                  rw [hl0, Bool.false_and] at hy
                  refine pw_iload dX8_wordFrom_88 rfl ?_
                  refine pw_if_eq (tgt := 95) dX8_wordFrom_90 (by decide) (fun c_90 => ?_) (fun c_90 => ?_)
                  · skip
                    rw [← hy, if_neg Bool.false_ne_true] at hx2
                    refine pw_iinc (ls2 := [(3, _), (0, _), (1, _), (2, _), (4, _), (5, _)]) (v := nI (k + 1)) dX8_wordFrom_95 rfl (inc1 k) (by decide) rfl ?_
                    refine pw_goto (tgt := 2) dX8_wordFrom_98 (by decide) ?_
                    refine pw_sub [1, 2, 3, 0] rfl ?_
                    exact ih_2 (k + 1) hlt hx2 (by omega)
                  · skip
                    skip
                    exact absurd (by rw [hl0]; rfl) c_90
                · skip
                  have hl1 := b2_n c_35
                  rw [hl1, Bool.true_and] at hy2
                  refine pw_aload_n dX8_wordFrom_38 rfl rfl ?_
                  refine pw_getR dX8_wordFrom_39 fa_X8_49 rfl ?_
                  refine pw_bipush (v := 8) dX8_wordFrom_42 rfl ?_
                  refine pw_iload_n dX8_wordFrom_44 rfl rfl ?_
                  refine pw_imul dX8_wordFrom_45 ?_
                  refine pw_iload dX8_wordFrom_46 rfl ?_
                  refine pw_iadd dX8_wordFrom_48 ?_
                  refine pw_iald (j := 8 * k + c) dX8_wordFrom_49 rfl (by show nI 8 * nI k + nI c = _; rw [pk_mul, nI_add]) (by omega) ?_
                  refine pw_top (y := μ.1 14 (8 * k + c)) rfl ?_
                  refine pw_iload_n dX8_wordFrom_50 rfl rfl ?_
                  refine pw_iload dX8_wordFrom_51 rfl ?_
                  refine pw_iadd dX8_wordFrom_53 ?_
                  refine pw_top (y := nI (a + c)) (nI_add _ _) ?_
                  refine pw_iload_n dX8_wordFrom_54 rfl rfl ?_
                  refine pw_icmp_ge (tgt := 70) dX8_wordFrom_55 (by decide) (fun c_55 => ?_) (fun c_55 => ?_)
                  · skip
                    have hab2 : ¬ a + c < b := by
                      have := nI_geD (by omega) c_55
                      omega
                    rw [if_neg hab2] at hy2
                    refine pw_bipush (v := 32) dX8_wordFrom_70 rfl ?_
                    refine pw_icmp_ne (tgt := 79) dX8_wordFrom_72 (by decide) (fun c_72 => ?_) (fun c_72 => ?_)
                    · skip
                      rw [if_neg c_72] at hy2
                      refine pw_iconst (v := 0) dX8_wordFrom_79 rfl ?_
                      refine pw_istore (ls2 := [(4, _), (0, _), (1, _), (2, _), (3, _), (5, _)]) dX8_wordFrom_80 (by decide) rfl ?_
                      refine pw_iinc (ls2 := [(5, _), (4, _), (0, _), (1, _), (2, _), (3, _)]) (v := nI (c + 1)) dX8_wordFrom_82 rfl (inc1 c) (by decide) rfl ?_
                      refine pw_goto (tgt := 26) dX8_wordFrom_85 (by decide) ?_
                      refine pw_sub [2, 3, 4, 5, 1, 0] rfl ?_
                      exact ih_26 (c + 1) false hlt8 (by rw [Bool.false_and]; exact hy2) (by omega)
                    · skip
                      rw [if_pos c_72] at hy2
                      refine pw_iconst (v := 1) dX8_wordFrom_75 rfl ?_
                      refine pw_goto (tgt := 80) dX8_wordFrom_76 (by decide) ?_
                      refine pw_istore (ls2 := [(4, _), (0, _), (1, _), (2, _), (3, _), (5, _)]) dX8_wordFrom_80 (by decide) rfl ?_
                      refine pw_iinc (ls2 := [(5, _), (4, _), (0, _), (1, _), (2, _), (3, _)]) (v := nI (c + 1)) dX8_wordFrom_82 rfl (inc1 c) (by decide) rfl ?_
                      refine pw_goto (tgt := 26) dX8_wordFrom_85 (by decide) ?_
                      refine pw_sub [2, 3, 4, 5, 1, 0] rfl ?_
                      exact ih_26 (c + 1) true hlt8 (by rw [Bool.true_and]; exact hy2) (by omega)
                  · skip
                    have hab2 : a + c < b := nI_ltD (by omega) c_55
                    rw [if_pos hab2] at hy2
                    refine pw_aload_n dX8_wordFrom_58 rfl rfl ?_
                    refine pw_getR dX8_wordFrom_59 fa_X8_25 rfl ?_
                    refine pw_iload_n dX8_wordFrom_62 rfl rfl ?_
                    refine pw_iload dX8_wordFrom_63 rfl ?_
                    refine pw_iadd dX8_wordFrom_65 ?_
                    refine pw_iald (j := a + c) dX8_wordFrom_66 rfl (nI_add _ _) (by omega) ?_
                    refine pw_top (y := μ.1 6 (a + c)) rfl ?_
                    refine pw_goto (tgt := 72) dX8_wordFrom_67 (by decide) ?_
                    refine pw_icmp_ne (tgt := 79) dX8_wordFrom_72 (by decide) (fun c_72 => ?_) (fun c_72 => ?_)
                    · skip
                      rw [if_neg c_72] at hy2
                      refine pw_iconst (v := 0) dX8_wordFrom_79 rfl ?_
                      refine pw_istore (ls2 := [(4, _), (0, _), (1, _), (2, _), (3, _), (5, _)]) dX8_wordFrom_80 (by decide) rfl ?_
                      refine pw_iinc (ls2 := [(5, _), (4, _), (0, _), (1, _), (2, _), (3, _)]) (v := nI (c + 1)) dX8_wordFrom_82 rfl (inc1 c) (by decide) rfl ?_
                      refine pw_goto (tgt := 26) dX8_wordFrom_85 (by decide) ?_
                      refine pw_sub [2, 3, 4, 5, 1, 0] rfl ?_
                      exact ih_26 (c + 1) false hlt8 (by rw [Bool.false_and]; exact hy2) (by omega)
                    · skip
                      rw [if_pos c_72] at hy2
                      refine pw_iconst (v := 1) dX8_wordFrom_75 rfl ?_
                      refine pw_goto (tgt := 80) dX8_wordFrom_76 (by decide) ?_
                      refine pw_istore (ls2 := [(4, _), (0, _), (1, _), (2, _), (3, _), (5, _)]) dX8_wordFrom_80 (by decide) rfl ?_
                      refine pw_iinc (ls2 := [(5, _), (4, _), (0, _), (1, _), (2, _), (3, _)]) (v := nI (c + 1)) dX8_wordFrom_82 rfl (inc1 c) (by decide) rfl ?_
                      refine pw_goto (tgt := 26) dX8_wordFrom_85 (by decide) ?_
                      refine pw_sub [2, 3, 4, 5, 1, 0] rfl ?_
                      exact ih_26 (c + 1) true hlt8 (by rw [Bool.true_and]; exact hy2) (by omega)
          refine pw_sub [2, 3, 4, 5, 1, 0] rfl ?_
          exact L_26 9 0 (decide (b - a ≤ 8)) (Nat.zero_le _) rfl (by omega)
  refine pw_sub [1, 2, 3, 0] rfl ?_
  exact L_2 13 0 (Nat.zero_le _) rfl (by omega)

set_option maxHeartbeats 4000000 in
set_option maxRecDepth 100000 in
theorem T_X8_next {l : Launch} {μ : PM} {V : VW} {nm sk st : Nat → Int32} {sn b t v h o u : Int32} {H C : Nat → Int32} {n p0 : Nat} (hz : μ.1 0 9 = nI n) (hn : n ≤ 160) (hp : p0 ≤ n) : CT l SM yX8_next cX8_next 3 none 2 [.ref 0] (mm (xM μ (nI p0) b t v h o u H C) V nm sk st sn) (QV fun m => m = mm (xM μ (nI (nxE (μ.1 6) n (nxQ (μ.1 6) n p0))) (nI (nxQ (μ.1 6) n p0)) (nxT (μ.1 14) (μ.1 6) n (nxQ (μ.1 6) n p0)) (nxV (μ.1 14) (μ.1 6) n (nxQ (μ.1 6) n p0)) h o u H C) V nm sk st sn) := by
  refine CT.of rfl (Nat.le_of_ble_eq_true rfl) ?_
  show PW l SM RX8 cX8_next 3 none 2 _ 0 [(0, .ref 0)] [] (mm (xM μ (nI p0) b t v h o u H C) V nm sk st sn)
  have L_0 : ∀ (fu_0 : Nat) (p : Nat), (p ≤ n) → (skF (μ.1 6) (n - p) p = nxQ (μ.1 6) n p0) → n - p < fu_0 → PW l SM RX8 cX8_next 3 none 2 (QV fun m => m = mm (xM μ (nI (nxE (μ.1 6) n (nxQ (μ.1 6) n p0))) (nI (nxQ (μ.1 6) n p0)) (nxT (μ.1 14) (μ.1 6) n (nxQ (μ.1 6) n p0)) (nxV (μ.1 14) (μ.1 6) n (nxQ (μ.1 6) n p0)) h o u H C) V nm sk st sn) 0 [(0, .ref 0)] [] (mm (xM μ (nI p) b t v h o u H C) V nm sk st sn) := by
    intro fu_0
    induction fu_0 with
    | zero =>
      intro p hpn hx hm_0
      exact absurd hm_0 (Nat.not_lt_zero _)
    | succ fu_0 ih_0 =>
      intro p hpn hx hm_0
      refine pw_aload_n dX8_next_0 rfl rfl ?_
      refine pw_getI dX8_next_1 fa_X8_101 rfl ?_
      refine pw_aload_n dX8_next_4 rfl rfl ?_
      refine pw_getI dX8_next_5 fa_X8_67 rfl ?_
      refine pw_top (y := nI n) hz ?_
      refine pw_icmp_ge (tgt := 52) dX8_next_8 (by decide) (fun c_8 => ?_) (fun c_8 => ?_)
      · skip
        have hge := nI_geD (by omega) c_8
        have hq : nxQ (μ.1 6) n p0 = p := by rw [← hx, show n - p = 0 by omega]; rfl
        refine pw_aload_n dX8_next_52 rfl rfl ?_
        refine pw_aload_n dX8_next_53 rfl rfl ?_
        refine pw_getI dX8_next_54 fa_X8_101 rfl ?_
        refine pw_top (y := nI p) rfl ?_
        refine pw_putI dX8_next_57 fa_X8_104 rfl ?_
        refine pw_mem t_25 ?_
        refine pw_aload_n dX8_next_60 rfl rfl ?_
        refine pw_iconst (v := 0) dX8_next_61 rfl ?_
        refine pw_putI dX8_next_62 fa_X8_107 rfl ?_
        refine pw_mem t_26 ?_
        refine pw_aload_n dX8_next_65 rfl rfl ?_
        refine pw_iconst (v := 0) dX8_next_66 rfl ?_
        refine pw_putI dX8_next_67 fa_X8_110 rfl ?_
        refine pw_mem t_27 ?_
        refine pw_aload_n dX8_next_70 rfl rfl ?_
        refine pw_getI dX8_next_71 fa_X8_101 rfl ?_
        refine pw_top (y := nI p) rfl ?_
        refine pw_aload_n dX8_next_74 rfl rfl ?_
        refine pw_getI dX8_next_75 fa_X8_67 rfl ?_
        refine pw_top (y := nI n) hz ?_
        refine pw_icmp_ne (tgt := 82) dX8_next_78 (by decide) (fun c_78 => ?_) (fun c_78 => ?_)
        · skip
          have hqn : ¬ p = n := fun e => c_78 (by rw [e])
          have hpn : p < n := by omega
          refine pw_aload_n dX8_next_82 rfl rfl ?_
          refine pw_getR dX8_next_83 fa_X8_25 rfl ?_
          refine pw_aload_n dX8_next_86 rfl rfl ?_
          refine pw_getI dX8_next_87 fa_X8_101 rfl ?_
          refine pw_iald (j := p) dX8_next_90 rfl rfl (by omega) ?_
          refine pw_top (y := μ.1 6 p) rfl ?_
          refine pw_istore_n (ls2 := [(1, _), (0, _)]) dX8_next_91 rfl (by decide) rfl ?_
          refine pw_iload_n dX8_next_92 rfl rfl ?_
          refine pw_bipush (v := 97) dX8_next_93 rfl ?_
          refine pw_bipush (v := 122) dX8_next_95 rfl ?_
          refine pw_cSi dX8_next_97 ms_X8_78 T_X8_in rfl rfl (Nat.le_of_ble_eq_true rfl) (by decide) (fun x_97 m_97 h_97 => ?_)
          obtain ⟨rfl, rfl⟩ := h_97
          refine pw_if_eq (tgt := 217) dX8_next_100 (by decide) (fun c_100 => ?_) (fun c_100 => ?_)
          · skip
            have hb_100 := b2_0 c_100
            have hlb : letB (μ.1 6 p) = false := hb_100
            refine pw_iload_n dX8_next_217 rfl rfl ?_
            refine pw_bipush (v := 48) dX8_next_218 rfl ?_
            refine pw_bipush (v := 57) dX8_next_220 rfl ?_
            refine pw_cSi dX8_next_222 ms_X8_78 T_X8_in rfl rfl (Nat.le_of_ble_eq_true rfl) (by decide) (fun x_222 m_222 h_222 => ?_)
            obtain ⟨rfl, rfl⟩ := h_222
            refine pw_if_eq (tgt := 326) dX8_next_225 (by decide) (fun c_225 => ?_) (fun c_225 => ?_)
            · skip
              have hb_225 := b2_0 c_225
              have hdb : digB (μ.1 6 p) = false := hb_225
              have hE : nxE (μ.1 6) n p = p + 1 := by unfold nxE; rw [if_neg hqn, hlb, if_neg Bool.false_ne_true, hdb, if_neg Bool.false_ne_true]
              have hT : nxT (μ.1 14) (μ.1 6) n p = if sgnB (μ.1 6 p) then μ.1 6 p else -1 := by unfold nxT; rw [if_neg hqn, hlb, if_neg Bool.false_ne_true, hdb, if_neg Bool.false_ne_true]
              have hV : nxV (μ.1 14) (μ.1 6) n p = 0 := by unfold nxV; rw [if_neg hqn, hlb, if_neg Bool.false_ne_true, hdb, if_neg Bool.false_ne_true]
              refine pw_iload_n dX8_next_326 rfl rfl ?_
              refine pw_bipush (v := 40) dX8_next_327 rfl ?_
              refine pw_icmp_eq (tgt := 374) dX8_next_329 (by decide) (fun c_329 => ?_) (fun c_329 => ?_)
              · skip
                refine pw_iconst (v := 1) dX8_next_374 rfl ?_
                refine pw_goto (tgt := 379) dX8_next_375 (by decide) ?_
                refine pw_istore_n (ls2 := [(2, _), (1, _), (0, _)]) dX8_next_379 rfl (by decide) rfl ?_
                refine pw_aload_n dX8_next_380 rfl rfl ?_
                refine pw_iload_n dX8_next_381 rfl rfl ?_
                refine pw_if_eq (tgt := 389) dX8_next_382 (by decide) (fun c_382 => ?_) (fun c_382 => ?_)
                · skip
                  exact absurd c_382 (by decide)
                · skip
                  refine pw_iload_n dX8_next_385 rfl rfl ?_
                  refine pw_goto (tgt := 390) dX8_next_386 (by decide) ?_
                  have hsg : sgnB (μ.1 6 p) = true := by unfold sgnB; rw [decide_eq_true c_329]; simp only [Bool.true_or, Bool.false_or]
                  refine pw_top (y := nxT (μ.1 14) (μ.1 6) n p) (by rw [hT, hsg]; rfl) ?_
                  refine pw_putI dX8_next_390 fa_X8_107 rfl ?_
                  refine pw_mem t_26 ?_
                  refine pw_aload_n dX8_next_393 rfl rfl ?_
                  refine pw_dup dX8_next_394 rfl ?_
                  refine pw_getI dX8_next_395 fa_X8_101 rfl ?_
                  refine pw_top (y := nI p) rfl ?_
                  refine pw_iconst (v := 1) dX8_next_398 rfl ?_
                  refine pw_iadd dX8_next_399 ?_
                  refine pw_top (y := nI (p + 1)) (nI_1 p) ?_
                  refine pw_putI dX8_next_400 fa_X8_101 rfl ?_
                  refine pw_mem t_24 ?_
                  refine pw_vret dX8_next_403 rfl ?_
                  rw [hq, hV, hE]
              · skip
                refine pw_iload_n dX8_next_332 rfl rfl ?_
                refine pw_bipush (v := 41) dX8_next_333 rfl ?_
                refine pw_icmp_eq (tgt := 374) dX8_next_335 (by decide) (fun c_335 => ?_) (fun c_335 => ?_)
                · skip
                  refine pw_iconst (v := 1) dX8_next_374 rfl ?_
                  refine pw_goto (tgt := 379) dX8_next_375 (by decide) ?_
                  refine pw_istore_n (ls2 := [(2, _), (1, _), (0, _)]) dX8_next_379 rfl (by decide) rfl ?_
                  refine pw_aload_n dX8_next_380 rfl rfl ?_
                  refine pw_iload_n dX8_next_381 rfl rfl ?_
                  refine pw_if_eq (tgt := 389) dX8_next_382 (by decide) (fun c_382 => ?_) (fun c_382 => ?_)
                  · skip
                    exact absurd c_382 (by decide)
                  · skip
                    refine pw_iload_n dX8_next_385 rfl rfl ?_
                    refine pw_goto (tgt := 390) dX8_next_386 (by decide) ?_
                    have hsg : sgnB (μ.1 6 p) = true := by unfold sgnB; rw [decide_eq_false c_329, decide_eq_true c_335]; simp only [Bool.true_or, Bool.false_or]
                    refine pw_top (y := nxT (μ.1 14) (μ.1 6) n p) (by rw [hT, hsg]; rfl) ?_
                    refine pw_putI dX8_next_390 fa_X8_107 rfl ?_
                    refine pw_mem t_26 ?_
                    refine pw_aload_n dX8_next_393 rfl rfl ?_
                    refine pw_dup dX8_next_394 rfl ?_
                    refine pw_getI dX8_next_395 fa_X8_101 rfl ?_
                    refine pw_top (y := nI p) rfl ?_
                    refine pw_iconst (v := 1) dX8_next_398 rfl ?_
                    refine pw_iadd dX8_next_399 ?_
                    refine pw_top (y := nI (p + 1)) (nI_1 p) ?_
                    refine pw_putI dX8_next_400 fa_X8_101 rfl ?_
                    refine pw_mem t_24 ?_
                    refine pw_vret dX8_next_403 rfl ?_
                    rw [hq, hV, hE]
                · skip
                  refine pw_iload_n dX8_next_338 rfl rfl ?_
                  refine pw_bipush (v := 59) dX8_next_339 rfl ?_
                  refine pw_icmp_eq (tgt := 374) dX8_next_341 (by decide) (fun c_341 => ?_) (fun c_341 => ?_)
                  · skip
                    refine pw_iconst (v := 1) dX8_next_374 rfl ?_
                    refine pw_goto (tgt := 379) dX8_next_375 (by decide) ?_
                    refine pw_istore_n (ls2 := [(2, _), (1, _), (0, _)]) dX8_next_379 rfl (by decide) rfl ?_
                    refine pw_aload_n dX8_next_380 rfl rfl ?_
                    refine pw_iload_n dX8_next_381 rfl rfl ?_
                    refine pw_if_eq (tgt := 389) dX8_next_382 (by decide) (fun c_382 => ?_) (fun c_382 => ?_)
                    · skip
                      exact absurd c_382 (by decide)
                    · skip
                      refine pw_iload_n dX8_next_385 rfl rfl ?_
                      refine pw_goto (tgt := 390) dX8_next_386 (by decide) ?_
                      have hsg : sgnB (μ.1 6 p) = true := by unfold sgnB; rw [decide_eq_false c_329, decide_eq_false c_335, decide_eq_true c_341]; simp only [Bool.true_or, Bool.false_or]
                      refine pw_top (y := nxT (μ.1 14) (μ.1 6) n p) (by rw [hT, hsg]; rfl) ?_
                      refine pw_putI dX8_next_390 fa_X8_107 rfl ?_
                      refine pw_mem t_26 ?_
                      refine pw_aload_n dX8_next_393 rfl rfl ?_
                      refine pw_dup dX8_next_394 rfl ?_
                      refine pw_getI dX8_next_395 fa_X8_101 rfl ?_
                      refine pw_top (y := nI p) rfl ?_
                      refine pw_iconst (v := 1) dX8_next_398 rfl ?_
                      refine pw_iadd dX8_next_399 ?_
                      refine pw_top (y := nI (p + 1)) (nI_1 p) ?_
                      refine pw_putI dX8_next_400 fa_X8_101 rfl ?_
                      refine pw_mem t_24 ?_
                      refine pw_vret dX8_next_403 rfl ?_
                      rw [hq, hV, hE]
                  · skip
                    refine pw_iload_n dX8_next_344 rfl rfl ?_
                    refine pw_bipush (v := 43) dX8_next_345 rfl ?_
                    refine pw_icmp_eq (tgt := 374) dX8_next_347 (by decide) (fun c_347 => ?_) (fun c_347 => ?_)
                    · skip
                      refine pw_iconst (v := 1) dX8_next_374 rfl ?_
                      refine pw_goto (tgt := 379) dX8_next_375 (by decide) ?_
                      refine pw_istore_n (ls2 := [(2, _), (1, _), (0, _)]) dX8_next_379 rfl (by decide) rfl ?_
                      refine pw_aload_n dX8_next_380 rfl rfl ?_
                      refine pw_iload_n dX8_next_381 rfl rfl ?_
                      refine pw_if_eq (tgt := 389) dX8_next_382 (by decide) (fun c_382 => ?_) (fun c_382 => ?_)
                      · skip
                        exact absurd c_382 (by decide)
                      · skip
                        refine pw_iload_n dX8_next_385 rfl rfl ?_
                        refine pw_goto (tgt := 390) dX8_next_386 (by decide) ?_
                        have hsg : sgnB (μ.1 6 p) = true := by unfold sgnB; rw [decide_eq_false c_329, decide_eq_false c_335, decide_eq_false c_341, decide_eq_true c_347]; simp only [Bool.true_or, Bool.false_or]
                        refine pw_top (y := nxT (μ.1 14) (μ.1 6) n p) (by rw [hT, hsg]; rfl) ?_
                        refine pw_putI dX8_next_390 fa_X8_107 rfl ?_
                        refine pw_mem t_26 ?_
                        refine pw_aload_n dX8_next_393 rfl rfl ?_
                        refine pw_dup dX8_next_394 rfl ?_
                        refine pw_getI dX8_next_395 fa_X8_101 rfl ?_
                        refine pw_top (y := nI p) rfl ?_
                        refine pw_iconst (v := 1) dX8_next_398 rfl ?_
                        refine pw_iadd dX8_next_399 ?_
                        refine pw_top (y := nI (p + 1)) (nI_1 p) ?_
                        refine pw_putI dX8_next_400 fa_X8_101 rfl ?_
                        refine pw_mem t_24 ?_
                        refine pw_vret dX8_next_403 rfl ?_
                        rw [hq, hV, hE]
                    · skip
                      refine pw_iload_n dX8_next_350 rfl rfl ?_
                      refine pw_bipush (v := 45) dX8_next_351 rfl ?_
                      refine pw_icmp_eq (tgt := 374) dX8_next_353 (by decide) (fun c_353 => ?_) (fun c_353 => ?_)
                      · skip
                        refine pw_iconst (v := 1) dX8_next_374 rfl ?_
                        refine pw_goto (tgt := 379) dX8_next_375 (by decide) ?_
                        refine pw_istore_n (ls2 := [(2, _), (1, _), (0, _)]) dX8_next_379 rfl (by decide) rfl ?_
                        refine pw_aload_n dX8_next_380 rfl rfl ?_
                        refine pw_iload_n dX8_next_381 rfl rfl ?_
                        refine pw_if_eq (tgt := 389) dX8_next_382 (by decide) (fun c_382 => ?_) (fun c_382 => ?_)
                        · skip
                          exact absurd c_382 (by decide)
                        · skip
                          refine pw_iload_n dX8_next_385 rfl rfl ?_
                          refine pw_goto (tgt := 390) dX8_next_386 (by decide) ?_
                          have hsg : sgnB (μ.1 6 p) = true := by unfold sgnB; rw [decide_eq_false c_329, decide_eq_false c_335, decide_eq_false c_341, decide_eq_false c_347, decide_eq_true c_353]; simp only [Bool.true_or, Bool.false_or]
                          refine pw_top (y := nxT (μ.1 14) (μ.1 6) n p) (by rw [hT, hsg]; rfl) ?_
                          refine pw_putI dX8_next_390 fa_X8_107 rfl ?_
                          refine pw_mem t_26 ?_
                          refine pw_aload_n dX8_next_393 rfl rfl ?_
                          refine pw_dup dX8_next_394 rfl ?_
                          refine pw_getI dX8_next_395 fa_X8_101 rfl ?_
                          refine pw_top (y := nI p) rfl ?_
                          refine pw_iconst (v := 1) dX8_next_398 rfl ?_
                          refine pw_iadd dX8_next_399 ?_
                          refine pw_top (y := nI (p + 1)) (nI_1 p) ?_
                          refine pw_putI dX8_next_400 fa_X8_101 rfl ?_
                          refine pw_mem t_24 ?_
                          refine pw_vret dX8_next_403 rfl ?_
                          rw [hq, hV, hE]
                      · skip
                        refine pw_iload_n dX8_next_356 rfl rfl ?_
                        refine pw_bipush (v := 42) dX8_next_357 rfl ?_
                        refine pw_icmp_eq (tgt := 374) dX8_next_359 (by decide) (fun c_359 => ?_) (fun c_359 => ?_)
                        · skip
                          refine pw_iconst (v := 1) dX8_next_374 rfl ?_
                          refine pw_goto (tgt := 379) dX8_next_375 (by decide) ?_
                          refine pw_istore_n (ls2 := [(2, _), (1, _), (0, _)]) dX8_next_379 rfl (by decide) rfl ?_
                          refine pw_aload_n dX8_next_380 rfl rfl ?_
                          refine pw_iload_n dX8_next_381 rfl rfl ?_
                          refine pw_if_eq (tgt := 389) dX8_next_382 (by decide) (fun c_382 => ?_) (fun c_382 => ?_)
                          · skip
                            exact absurd c_382 (by decide)
                          · skip
                            refine pw_iload_n dX8_next_385 rfl rfl ?_
                            refine pw_goto (tgt := 390) dX8_next_386 (by decide) ?_
                            have hsg : sgnB (μ.1 6 p) = true := by unfold sgnB; rw [decide_eq_false c_329, decide_eq_false c_335, decide_eq_false c_341, decide_eq_false c_347, decide_eq_false c_353, decide_eq_true c_359]; simp only [Bool.true_or, Bool.false_or]
                            refine pw_top (y := nxT (μ.1 14) (μ.1 6) n p) (by rw [hT, hsg]; rfl) ?_
                            refine pw_putI dX8_next_390 fa_X8_107 rfl ?_
                            refine pw_mem t_26 ?_
                            refine pw_aload_n dX8_next_393 rfl rfl ?_
                            refine pw_dup dX8_next_394 rfl ?_
                            refine pw_getI dX8_next_395 fa_X8_101 rfl ?_
                            refine pw_top (y := nI p) rfl ?_
                            refine pw_iconst (v := 1) dX8_next_398 rfl ?_
                            refine pw_iadd dX8_next_399 ?_
                            refine pw_top (y := nI (p + 1)) (nI_1 p) ?_
                            refine pw_putI dX8_next_400 fa_X8_101 rfl ?_
                            refine pw_mem t_24 ?_
                            refine pw_vret dX8_next_403 rfl ?_
                            rw [hq, hV, hE]
                        · skip
                          refine pw_iload_n dX8_next_362 rfl rfl ?_
                          refine pw_bipush (v := 60) dX8_next_363 rfl ?_
                          refine pw_icmp_eq (tgt := 374) dX8_next_365 (by decide) (fun c_365 => ?_) (fun c_365 => ?_)
                          · skip
                            refine pw_iconst (v := 1) dX8_next_374 rfl ?_
                            refine pw_goto (tgt := 379) dX8_next_375 (by decide) ?_
                            refine pw_istore_n (ls2 := [(2, _), (1, _), (0, _)]) dX8_next_379 rfl (by decide) rfl ?_
                            refine pw_aload_n dX8_next_380 rfl rfl ?_
                            refine pw_iload_n dX8_next_381 rfl rfl ?_
                            refine pw_if_eq (tgt := 389) dX8_next_382 (by decide) (fun c_382 => ?_) (fun c_382 => ?_)
                            · skip
                              exact absurd c_382 (by decide)
                            · skip
                              refine pw_iload_n dX8_next_385 rfl rfl ?_
                              refine pw_goto (tgt := 390) dX8_next_386 (by decide) ?_
                              have hsg : sgnB (μ.1 6 p) = true := by unfold sgnB; rw [decide_eq_false c_329, decide_eq_false c_335, decide_eq_false c_341, decide_eq_false c_347, decide_eq_false c_353, decide_eq_false c_359, decide_eq_true c_365]; simp only [Bool.true_or, Bool.false_or]
                              refine pw_top (y := nxT (μ.1 14) (μ.1 6) n p) (by rw [hT, hsg]; rfl) ?_
                              refine pw_putI dX8_next_390 fa_X8_107 rfl ?_
                              refine pw_mem t_26 ?_
                              refine pw_aload_n dX8_next_393 rfl rfl ?_
                              refine pw_dup dX8_next_394 rfl ?_
                              refine pw_getI dX8_next_395 fa_X8_101 rfl ?_
                              refine pw_top (y := nI p) rfl ?_
                              refine pw_iconst (v := 1) dX8_next_398 rfl ?_
                              refine pw_iadd dX8_next_399 ?_
                              refine pw_top (y := nI (p + 1)) (nI_1 p) ?_
                              refine pw_putI dX8_next_400 fa_X8_101 rfl ?_
                              refine pw_mem t_24 ?_
                              refine pw_vret dX8_next_403 rfl ?_
                              rw [hq, hV, hE]
                          · skip
                            refine pw_iload_n dX8_next_368 rfl rfl ?_
                            refine pw_bipush (v := 61) dX8_next_369 rfl ?_
                            refine pw_icmp_ne (tgt := 378) dX8_next_371 (by decide) (fun c_371 => ?_) (fun c_371 => ?_)
                            · skip
                              refine pw_iconst (v := 0) dX8_next_378 rfl ?_
                              refine pw_istore_n (ls2 := [(2, _), (1, _), (0, _)]) dX8_next_379 rfl (by decide) rfl ?_
                              refine pw_aload_n dX8_next_380 rfl rfl ?_
                              refine pw_iload_n dX8_next_381 rfl rfl ?_
                              refine pw_if_eq (tgt := 389) dX8_next_382 (by decide) (fun c_382 => ?_) (fun c_382 => ?_)
                              · skip
                                refine pw_iconst (v := (-1)) dX8_next_389 rfl ?_
                                have hsg : sgnB (μ.1 6 p) = false := by unfold sgnB; rw [decide_eq_false c_329, decide_eq_false c_335, decide_eq_false c_341, decide_eq_false c_347, decide_eq_false c_353, decide_eq_false c_359, decide_eq_false c_365, decide_eq_false c_371]; simp only [Bool.true_or, Bool.false_or]
                                refine pw_top (y := nxT (μ.1 14) (μ.1 6) n p) (by rw [hT, hsg]; rfl) ?_
                                refine pw_putI dX8_next_390 fa_X8_107 rfl ?_
                                refine pw_mem t_26 ?_
                                refine pw_aload_n dX8_next_393 rfl rfl ?_
                                refine pw_dup dX8_next_394 rfl ?_
                                refine pw_getI dX8_next_395 fa_X8_101 rfl ?_
                                refine pw_top (y := nI p) rfl ?_
                                refine pw_iconst (v := 1) dX8_next_398 rfl ?_
                                refine pw_iadd dX8_next_399 ?_
                                refine pw_top (y := nI (p + 1)) (nI_1 p) ?_
                                refine pw_putI dX8_next_400 fa_X8_101 rfl ?_
                                refine pw_mem t_24 ?_
                                refine pw_vret dX8_next_403 rfl ?_
                                rw [hq, hV, hE]
                              · skip
                                exact absurd rfl c_382
                            · skip
                              refine pw_iconst (v := 1) dX8_next_374 rfl ?_
                              refine pw_goto (tgt := 379) dX8_next_375 (by decide) ?_
                              refine pw_istore_n (ls2 := [(2, _), (1, _), (0, _)]) dX8_next_379 rfl (by decide) rfl ?_
                              refine pw_aload_n dX8_next_380 rfl rfl ?_
                              refine pw_iload_n dX8_next_381 rfl rfl ?_
                              refine pw_if_eq (tgt := 389) dX8_next_382 (by decide) (fun c_382 => ?_) (fun c_382 => ?_)
                              · skip
                                exact absurd c_382 (by decide)
                              · skip
                                refine pw_iload_n dX8_next_385 rfl rfl ?_
                                refine pw_goto (tgt := 390) dX8_next_386 (by decide) ?_
                                have hsg : sgnB (μ.1 6 p) = true := by unfold sgnB; rw [decide_eq_false c_329, decide_eq_false c_335, decide_eq_false c_341, decide_eq_false c_347, decide_eq_false c_353, decide_eq_false c_359, decide_eq_false c_365, decide_eq_true c_371]; simp only [Bool.true_or, Bool.false_or]
                                refine pw_top (y := nxT (μ.1 14) (μ.1 6) n p) (by rw [hT, hsg]; rfl) ?_
                                refine pw_putI dX8_next_390 fa_X8_107 rfl ?_
                                refine pw_mem t_26 ?_
                                refine pw_aload_n dX8_next_393 rfl rfl ?_
                                refine pw_dup dX8_next_394 rfl ?_
                                refine pw_getI dX8_next_395 fa_X8_101 rfl ?_
                                refine pw_top (y := nI p) rfl ?_
                                refine pw_iconst (v := 1) dX8_next_398 rfl ?_
                                refine pw_iadd dX8_next_399 ?_
                                refine pw_top (y := nI (p + 1)) (nI_1 p) ?_
                                refine pw_putI dX8_next_400 fa_X8_101 rfl ?_
                                refine pw_mem t_24 ?_
                                refine pw_vret dX8_next_403 rfl ?_
                                rw [hq, hV, hE]
            · skip
              have hb_225 := b2_n c_225
              have hdb : digB (μ.1 6 p) = true := hb_225
              have hE : nxE (μ.1 6) n p = scanF digB (μ.1 6) (n - p) p := by unfold nxE; rw [if_neg hqn, hlb, if_neg Bool.false_ne_true, hdb, if_pos rfl]
              have hT : nxT (μ.1 14) (μ.1 6) n p = if 4 < nxE (μ.1 6) n p - p then -1 else 1 := by unfold nxT; rw [if_neg hqn, hlb, if_neg Bool.false_ne_true, hdb, if_pos rfl]
              have hV : nxV (μ.1 14) (μ.1 6) n p = nvF (μ.1 6) p (nxE (μ.1 6) n p - p) := by unfold nxV; rw [if_neg hqn, hlb, if_neg Bool.false_ne_true, hdb, if_pos rfl]
              refine pw_iconst (v := 0) dX8_next_228 rfl ?_
              refine pw_istore_n (ls2 := [(2, _), (1, _), (0, _)]) dX8_next_229 rfl (by decide) rfl ?_
              have L_230 : ∀ (fu_230 : Nat) (i : Nat), (p + i ≤ n) → (scanF digB (μ.1 6) (n - (p + i)) (p + i) = scanF digB (μ.1 6) (n - p) p) → n - (p + i) < fu_230 → PW l SM RX8 cX8_next 3 none 2 (QV fun m => m = mm (xM μ (nI (nxE (μ.1 6) n (nxQ (μ.1 6) n p0))) (nI (nxQ (μ.1 6) n p0)) (nxT (μ.1 14) (μ.1 6) n (nxQ (μ.1 6) n p0)) (nxV (μ.1 14) (μ.1 6) n (nxQ (μ.1 6) n p0)) h o u H C) V nm sk st sn) 230 [(0, .ref 0), (1, .int (μ.1 6 p)), (2, .int (nI i))] [] (mm (xM μ (nI (p + i)) (nI p) 0 (nvF (μ.1 6) p i) h o u H C) V nm sk st sn) := by
                intro fu_230
                induction fu_230 with
                | zero =>
                  intro i hr2 hr hm_230
                  exact absurd hm_230 (Nat.not_lt_zero _)
                | succ fu_230 ih_230 =>
                  intro i hr2 hr hm_230
                  refine pw_aload_n dX8_next_230 rfl rfl ?_
                  refine pw_getI dX8_next_231 fa_X8_101 rfl ?_
                  refine pw_aload_n dX8_next_234 rfl rfl ?_
                  refine pw_getI dX8_next_235 fa_X8_67 rfl ?_
                  refine pw_top (y := nI n) hz ?_
                  refine pw_icmp_ge (tgt := 309) dX8_next_238 (by decide) (fun c_238 => ?_) (fun c_238 => ?_)
                  · skip
                    have hger := nI_geD (by omega) c_238
                    have hEr : nxE (μ.1 6) n p = p + i := by rw [hE, ← hr, sw_z hger]
                    refine pw_aload_n dX8_next_309 rfl rfl ?_
                    refine pw_iload_n dX8_next_310 rfl rfl ?_
                    refine pw_iconst (v := 4) dX8_next_311 rfl ?_
                    refine pw_icmp_le (tgt := 319) dX8_next_312 (by decide) (fun c_312 => ?_) (fun c_312 => ?_)
                    · skip
                      have i4 : i ≤ 4 := (nI_leI (b := 4) (by omega) (by decide)).mp c_312
                      refine pw_iconst (v := 1) dX8_next_319 rfl ?_
                      refine pw_top (y := nxT (μ.1 14) (μ.1 6) n p) (by rw [hT, hEr, if_neg (by omega)]) ?_
                      refine pw_putI dX8_next_320 fa_X8_107 rfl ?_
                      refine pw_mem t_26 ?_
                      refine pw_goto (tgt := 403) dX8_next_323 (by decide) ?_
                      skip
                      refine pw_vret dX8_next_403 rfl ?_
                      rw [hq, hV, hEr, Nat.add_sub_cancel_left]
                    · skip
                      have i4 : ¬ i ≤ 4 := fun q => c_312 (nI_le (b := 4) q (by decide))
                      refine pw_iconst (v := (-1)) dX8_next_315 rfl ?_
                      refine pw_goto (tgt := 320) dX8_next_316 (by decide) ?_
                      refine pw_top (y := nxT (μ.1 14) (μ.1 6) n p) (by rw [hT, hEr, if_pos (by omega)]) ?_
                      refine pw_putI dX8_next_320 fa_X8_107 rfl ?_
                      refine pw_mem t_26 ?_
                      refine pw_goto (tgt := 403) dX8_next_323 (by decide) ?_
                      skip
                      refine pw_vret dX8_next_403 rfl ?_
                      rw [hq, hV, hEr, Nat.add_sub_cancel_left]
                  · skip
                    have hltr := nI_ltD (by omega) c_238
                    refine pw_aload_n dX8_next_241 rfl rfl ?_
                    refine pw_getR dX8_next_242 fa_X8_25 rfl ?_
                    refine pw_aload_n dX8_next_245 rfl rfl ?_
                    refine pw_getI dX8_next_246 fa_X8_101 rfl ?_
                    refine pw_iald (j := p + i) dX8_next_249 rfl rfl (by omega) ?_
                    refine pw_top (y := μ.1 6 (p + i)) rfl ?_
                    refine pw_bipush (v := 48) dX8_next_250 rfl ?_
                    refine pw_bipush (v := 57) dX8_next_252 rfl ?_
                    refine pw_cSi dX8_next_254 ms_X8_78 T_X8_in rfl rfl (Nat.le_of_ble_eq_true rfl) (by decide) (fun x_254 m_254 h_254 => ?_)
                    obtain ⟨rfl, rfl⟩ := h_254
                    refine pw_if_eq (tgt := 309) dX8_next_257 (by decide) (fun c_257 => ?_) (fun c_257 => ?_)
                    · skip
                      have hb_257 := b2_0 c_257
                      have hEr : nxE (μ.1 6) n p = p + i := by rw [hE, ← hr, sw_e hltr hb_257]
                      refine pw_aload_n dX8_next_309 rfl rfl ?_
                      refine pw_iload_n dX8_next_310 rfl rfl ?_
                      refine pw_iconst (v := 4) dX8_next_311 rfl ?_
                      refine pw_icmp_le (tgt := 319) dX8_next_312 (by decide) (fun c_312 => ?_) (fun c_312 => ?_)
                      · skip
                        have i4 : i ≤ 4 := (nI_leI (b := 4) (by omega) (by decide)).mp c_312
                        refine pw_iconst (v := 1) dX8_next_319 rfl ?_
                        refine pw_top (y := nxT (μ.1 14) (μ.1 6) n p) (by rw [hT, hEr, if_neg (by omega)]) ?_
                        refine pw_putI dX8_next_320 fa_X8_107 rfl ?_
                        refine pw_mem t_26 ?_
                        refine pw_goto (tgt := 403) dX8_next_323 (by decide) ?_
                        skip
                        refine pw_vret dX8_next_403 rfl ?_
                        rw [hq, hV, hEr, Nat.add_sub_cancel_left]
                      · skip
                        have i4 : ¬ i ≤ 4 := fun q => c_312 (nI_le (b := 4) q (by decide))
                        refine pw_iconst (v := (-1)) dX8_next_315 rfl ?_
                        refine pw_goto (tgt := 320) dX8_next_316 (by decide) ?_
                        refine pw_top (y := nxT (μ.1 14) (μ.1 6) n p) (by rw [hT, hEr, if_pos (by omega)]) ?_
                        refine pw_putI dX8_next_320 fa_X8_107 rfl ?_
                        refine pw_mem t_26 ?_
                        refine pw_goto (tgt := 403) dX8_next_323 (by decide) ?_
                        skip
                        refine pw_vret dX8_next_403 rfl ?_
                        rw [hq, hV, hEr, Nat.add_sub_cancel_left]
                    · skip
                      have hb_257 := b2_n c_257
                      skip
                      refine pw_aload_n dX8_next_260 rfl rfl ?_
                      refine pw_iload_n dX8_next_261 rfl rfl ?_
                      refine pw_iconst (v := 4) dX8_next_262 rfl ?_
                      refine pw_icmp_ge (tgt := 289) dX8_next_263 (by decide) (fun c_263 => ?_) (fun c_263 => ?_)
                      · skip
                        have i4 : ¬ i < 4 := fun q => absurd (nI_lt (b := 4) q (by decide)) (Int32.not_lt.mpr c_263)
                        refine pw_iconst (v := 0) dX8_next_289 rfl ?_
                        refine pw_top (y := nvF (μ.1 6) p (i + 1)) (by show _ = if i < 4 then _ else _; rw [if_neg i4]) ?_
                        refine pw_putI dX8_next_290 fa_X8_110 rfl ?_
                        refine pw_mem t_27 ?_
                        refine pw_iinc (ls2 := [(2, _), (0, _), (1, _)]) (v := nI (i + 1)) dX8_next_293 rfl (inc1 i) (by decide) rfl ?_
                        refine pw_aload_n dX8_next_296 rfl rfl ?_
                        refine pw_dup dX8_next_297 rfl ?_
                        refine pw_getI dX8_next_298 fa_X8_101 rfl ?_
                        refine pw_top (y := nI (p + i)) rfl ?_
                        refine pw_iconst (v := 1) dX8_next_301 rfl ?_
                        refine pw_iadd dX8_next_302 ?_
                        refine pw_top (y := nI (p + i + 1)) (nI_1 _) ?_
                        refine pw_putI dX8_next_303 fa_X8_101 rfl ?_
                        refine pw_mem t_24 ?_
                        refine pw_goto (tgt := 230) dX8_next_306 (by decide) ?_
                        refine pw_sub [1, 2, 0] rfl ?_
                        exact ih_230 (i + 1) hltr (by rw [← hr]; exact (sw_n hltr hb_257).symm) (by omega)
                      · skip
                        have i4 : i < 4 := (nI_ltI (b := 4) (by omega) (by decide)).mp (Int32.not_le.mp c_263)
                        refine pw_bipush (v := 10) dX8_next_266 rfl ?_
                        refine pw_aload_n dX8_next_268 rfl rfl ?_
                        refine pw_getI dX8_next_269 fa_X8_110 rfl ?_
                        refine pw_top (y := nvF (μ.1 6) p i) rfl ?_
                        refine pw_imul dX8_next_272 ?_
                        refine pw_aload_n dX8_next_273 rfl rfl ?_
                        refine pw_getR dX8_next_274 fa_X8_25 rfl ?_
                        refine pw_aload_n dX8_next_277 rfl rfl ?_
                        refine pw_getI dX8_next_278 fa_X8_101 rfl ?_
                        refine pw_iald (j := p + i) dX8_next_281 rfl rfl (by omega) ?_
                        refine pw_top (y := μ.1 6 (p + i)) rfl ?_
                        refine pw_iadd dX8_next_282 ?_
                        refine pw_bipush (v := 48) dX8_next_283 rfl ?_
                        refine pw_isub dX8_next_285 ?_
                        refine pw_goto (tgt := 290) dX8_next_286 (by decide) ?_
                        refine pw_top (y := nvF (μ.1 6) p (i + 1)) (by show _ = if i < 4 then _ else _; rw [if_pos i4]; rfl) ?_
                        refine pw_putI dX8_next_290 fa_X8_110 rfl ?_
                        refine pw_mem t_27 ?_
                        refine pw_iinc (ls2 := [(2, _), (0, _), (1, _)]) (v := nI (i + 1)) dX8_next_293 rfl (inc1 i) (by decide) rfl ?_
                        refine pw_aload_n dX8_next_296 rfl rfl ?_
                        refine pw_dup dX8_next_297 rfl ?_
                        refine pw_getI dX8_next_298 fa_X8_101 rfl ?_
                        refine pw_top (y := nI (p + i)) rfl ?_
                        refine pw_iconst (v := 1) dX8_next_301 rfl ?_
                        refine pw_iadd dX8_next_302 ?_
                        refine pw_top (y := nI (p + i + 1)) (nI_1 _) ?_
                        refine pw_putI dX8_next_303 fa_X8_101 rfl ?_
                        refine pw_mem t_24 ?_
                        refine pw_goto (tgt := 230) dX8_next_306 (by decide) ?_
                        refine pw_sub [1, 2, 0] rfl ?_
                        exact ih_230 (i + 1) hltr (by rw [← hr]; exact (sw_n hltr hb_257).symm) (by omega)
              refine pw_sub [2, 1, 0] rfl ?_
              exact L_230 (n + 1) 0 (by omega) rfl (by omega)
          · skip
            have hb_100 := b2_n c_100
            have hlb : letB (μ.1 6 p) = true := hb_100
            have hE : nxE (μ.1 6) n p = scanF letB (μ.1 6) (n - p) p := by unfold nxE; rw [if_neg hqn, hlb, if_pos rfl]
            have L_103 : ∀ (fu_103 : Nat) (r : Nat), (p ≤ r) → (r ≤ n) → (scanF letB (μ.1 6) (n - r) r = scanF letB (μ.1 6) (n - p) p) → n - r < fu_103 → PW l SM RX8 cX8_next 3 none 2 (QV fun m => m = mm (xM μ (nI (nxE (μ.1 6) n (nxQ (μ.1 6) n p0))) (nI (nxQ (μ.1 6) n p0)) (nxT (μ.1 14) (μ.1 6) n (nxQ (μ.1 6) n p0)) (nxV (μ.1 14) (μ.1 6) n (nxQ (μ.1 6) n p0)) h o u H C) V nm sk st sn) 103 [(0, .ref 0), (1, .int (μ.1 6 p))] [] (mm (xM μ (nI r) (nI p) 0 0 h o u H C) V nm sk st sn) := by
              intro fu_103
              induction fu_103 with
              | zero =>
                intro r hr1 hr2 hr hm_103
                exact absurd hm_103 (Nat.not_lt_zero _)
              | succ fu_103 ih_103 =>
                intro r hr1 hr2 hr hm_103
                refine pw_aload_n dX8_next_103 rfl rfl ?_
                refine pw_getI dX8_next_104 fa_X8_101 rfl ?_
                refine pw_aload_n dX8_next_107 rfl rfl ?_
                refine pw_getI dX8_next_108 fa_X8_67 rfl ?_
                refine pw_top (y := nI n) hz ?_
                refine pw_icmp_ge (tgt := 146) dX8_next_111 (by decide) (fun c_111 => ?_) (fun c_111 => ?_)
                · skip
                  have hger := nI_geD (by omega) c_111
                  have hEr : nxE (μ.1 6) n p = r := by rw [hE, ← hr, sw_z hger]
                  refine pw_aload_n dX8_next_146 rfl rfl ?_
                  refine pw_aload_n dX8_next_147 rfl rfl ?_
                  refine pw_getI dX8_next_148 fa_X8_104 rfl ?_
                  refine pw_top (y := nI p) rfl ?_
                  refine pw_aload_n dX8_next_151 rfl rfl ?_
                  refine pw_getI dX8_next_152 fa_X8_101 rfl ?_
                  refine pw_top (y := nI r) rfl ?_
                  refine pw_cVi dX8_next_155 mv_X8_113 ckModel (T_X8_wordFrom (a := p) (b := r) (by omega) (by omega)) rfl rfl (Nat.le_of_ble_eq_true rfl) (by decide) (fun x_155 m_155 h_155 => ?_)
                  obtain ⟨rfl, rfl⟩ := h_155
                  have hkl := mwF_le (wd := μ.1 14) (f := μ.1 6) (a := p) (b := r) 12 0 (by omega)
                  refine pw_top (y := nI (mwF (μ.1 14) (μ.1 6) p r 12 0)) rfl ?_
                  obtain ⟨k, hk⟩ : ∃ k, k = mwF (μ.1 14) (μ.1 6) p r 12 0 := ⟨_, rfl⟩
                  rw [← hk] at hkl ⊢
                  have hT : nxT (μ.1 14) (μ.1 6) n p = tkW k := by unfold nxT; rw [if_neg hqn, hlb, if_pos rfl, hEr, hk]
                  have hV : nxV (μ.1 14) (μ.1 6) n p = vlW k := by unfold nxV; rw [if_neg hqn, hlb, if_pos rfl, hEr, hk]
                  refine pw_istore_n (ls2 := [(2, _), (0, _), (1, _)]) dX8_next_158 rfl (by decide) rfl ?_
                  refine pw_aload_n dX8_next_159 rfl rfl ?_
                  refine pw_iload_n dX8_next_160 rfl rfl ?_
                  refine pw_iconst (v := 3) dX8_next_161 rfl ?_
                  refine pw_icmp_ge (tgt := 169) dX8_next_162 (by decide) (fun c_162 => ?_) (fun c_162 => ?_)
                  · skip
                    have k3 : ¬ k < 3 := fun q => absurd (nI_lt (b := 3) q (by decide)) (Int32.not_lt.mpr c_162)
                    refine pw_iload_n dX8_next_169 rfl rfl ?_
                    refine pw_bipush (v := 9) dX8_next_170 rfl ?_
                    refine pw_icmp_ge (tgt := 179) dX8_next_172 (by decide) (fun c_172 => ?_) (fun c_172 => ?_)
                    · skip
                      have k9 : ¬ k < 9 := fun q => absurd (nI_lt (b := 9) q (by decide)) (Int32.not_lt.mpr c_172)
                      refine pw_iload_n dX8_next_179 rfl rfl ?_
                      refine pw_bipush (v := 12) dX8_next_180 rfl ?_
                      refine pw_icmp_ne (tgt := 189) dX8_next_182 (by decide) (fun c_182 => ?_) (fun c_182 => ?_)
                      · skip
                        have k12 : ¬ k = 12 := fun q => c_182 (by rw [q]; rfl)
                        refine pw_iconst (v := 4) dX8_next_189 rfl ?_
                        refine pw_iload_n dX8_next_190 rfl rfl ?_
                        refine pw_iadd dX8_next_191 ?_
                        refine pw_bipush (v := 9) dX8_next_192 rfl ?_
                        refine pw_isub dX8_next_194 ?_
                        refine pw_top (y := tkW k) (by unfold tkW; rw [if_neg k3, if_neg k9, if_neg k12]; rfl) ?_
                        refine pw_putI dX8_next_195 fa_X8_107 rfl ?_
                        refine pw_mem t_26 ?_
                        refine pw_aload_n dX8_next_198 rfl rfl ?_
                        refine pw_iload_n dX8_next_199 rfl rfl ?_
                        refine pw_iconst (v := 3) dX8_next_200 rfl ?_
                        refine pw_icmp_ge (tgt := 208) dX8_next_201 (by decide) (fun c_201 => ?_) (fun c_201 => ?_)
                        · skip
                          refine pw_iload_n dX8_next_208 rfl rfl ?_
                          refine pw_iconst (v := 3) dX8_next_209 rfl ?_
                          refine pw_isub dX8_next_210 ?_
                          refine pw_top (y := vlW k) (by unfold vlW; rw [if_neg k3]; rfl) ?_
                          refine pw_putI dX8_next_211 fa_X8_110 rfl ?_
                          refine pw_mem t_27 ?_
                          refine pw_goto (tgt := 403) dX8_next_214 (by decide) ?_
                          skip
                          refine pw_vret dX8_next_403 rfl ?_
                          rw [hq, hT, hV, hEr]
                        · skip
                          exact absurd c_162 c_201
                      · skip
                        have k12 : k = 12 := (nI_eq (b := 12) (by omega) (by decide)).mp c_182
                        refine pw_iconst (v := (-1)) dX8_next_185 rfl ?_
                        refine pw_goto (tgt := 195) dX8_next_186 (by decide) ?_
                        refine pw_top (y := tkW k) (by unfold tkW; rw [if_neg k3, if_neg k9, if_pos k12]) ?_
                        refine pw_putI dX8_next_195 fa_X8_107 rfl ?_
                        refine pw_mem t_26 ?_
                        refine pw_aload_n dX8_next_198 rfl rfl ?_
                        refine pw_iload_n dX8_next_199 rfl rfl ?_
                        refine pw_iconst (v := 3) dX8_next_200 rfl ?_
                        refine pw_icmp_ge (tgt := 208) dX8_next_201 (by decide) (fun c_201 => ?_) (fun c_201 => ?_)
                        · skip
                          refine pw_iload_n dX8_next_208 rfl rfl ?_
                          refine pw_iconst (v := 3) dX8_next_209 rfl ?_
                          refine pw_isub dX8_next_210 ?_
                          refine pw_top (y := vlW k) (by unfold vlW; rw [if_neg k3]; rfl) ?_
                          refine pw_putI dX8_next_211 fa_X8_110 rfl ?_
                          refine pw_mem t_27 ?_
                          refine pw_goto (tgt := 403) dX8_next_214 (by decide) ?_
                          skip
                          refine pw_vret dX8_next_403 rfl ?_
                          rw [hq, hT, hV, hEr]
                        · skip
                          exact absurd c_162 c_201
                    · skip
                      have k9 : k < 9 := (nI_ltI (b := 9) (by omega) (by decide)).mp (Int32.not_le.mp c_172)
                      refine pw_iconst (v := 2) dX8_next_175 rfl ?_
                      refine pw_goto (tgt := 195) dX8_next_176 (by decide) ?_
                      refine pw_top (y := tkW k) (by unfold tkW; rw [if_neg k3, if_pos k9]) ?_
                      refine pw_putI dX8_next_195 fa_X8_107 rfl ?_
                      refine pw_mem t_26 ?_
                      refine pw_aload_n dX8_next_198 rfl rfl ?_
                      refine pw_iload_n dX8_next_199 rfl rfl ?_
                      refine pw_iconst (v := 3) dX8_next_200 rfl ?_
                      refine pw_icmp_ge (tgt := 208) dX8_next_201 (by decide) (fun c_201 => ?_) (fun c_201 => ?_)
                      · skip
                        refine pw_iload_n dX8_next_208 rfl rfl ?_
                        refine pw_iconst (v := 3) dX8_next_209 rfl ?_
                        refine pw_isub dX8_next_210 ?_
                        refine pw_top (y := vlW k) (by unfold vlW; rw [if_neg k3]; rfl) ?_
                        refine pw_putI dX8_next_211 fa_X8_110 rfl ?_
                        refine pw_mem t_27 ?_
                        refine pw_goto (tgt := 403) dX8_next_214 (by decide) ?_
                        skip
                        refine pw_vret dX8_next_403 rfl ?_
                        rw [hq, hT, hV, hEr]
                      · skip
                        exact absurd c_162 c_201
                  · skip
                    have k3 : k < 3 := (nI_ltI (b := 3) (by omega) (by decide)).mp (Int32.not_le.mp c_162)
                    refine pw_iconst (v := 3) dX8_next_165 rfl ?_
                    refine pw_goto (tgt := 195) dX8_next_166 (by decide) ?_
                    refine pw_top (y := tkW k) (by unfold tkW; rw [if_pos k3]) ?_
                    refine pw_putI dX8_next_195 fa_X8_107 rfl ?_
                    refine pw_mem t_26 ?_
                    refine pw_aload_n dX8_next_198 rfl rfl ?_
                    refine pw_iload_n dX8_next_199 rfl rfl ?_
                    refine pw_iconst (v := 3) dX8_next_200 rfl ?_
                    refine pw_icmp_ge (tgt := 208) dX8_next_201 (by decide) (fun c_201 => ?_) (fun c_201 => ?_)
                    · skip
                      exact absurd c_201 c_162
                    · skip
                      refine pw_iload_n dX8_next_204 rfl rfl ?_
                      refine pw_goto (tgt := 211) dX8_next_205 (by decide) ?_
                      refine pw_top (y := vlW k) (by unfold vlW; rw [if_pos k3]) ?_
                      refine pw_putI dX8_next_211 fa_X8_110 rfl ?_
                      refine pw_mem t_27 ?_
                      refine pw_goto (tgt := 403) dX8_next_214 (by decide) ?_
                      skip
                      refine pw_vret dX8_next_403 rfl ?_
                      rw [hq, hT, hV, hEr]
                · skip
                  have hltr := nI_ltD (by omega) c_111
                  refine pw_aload_n dX8_next_114 rfl rfl ?_
                  refine pw_getR dX8_next_115 fa_X8_25 rfl ?_
                  refine pw_aload_n dX8_next_118 rfl rfl ?_
                  refine pw_getI dX8_next_119 fa_X8_101 rfl ?_
                  refine pw_iald (j := r) dX8_next_122 rfl rfl (by omega) ?_
                  refine pw_top (y := μ.1 6 r) rfl ?_
                  refine pw_bipush (v := 97) dX8_next_123 rfl ?_
                  refine pw_bipush (v := 122) dX8_next_125 rfl ?_
                  refine pw_cSi dX8_next_127 ms_X8_78 T_X8_in rfl rfl (Nat.le_of_ble_eq_true rfl) (by decide) (fun x_127 m_127 h_127 => ?_)
                  obtain ⟨rfl, rfl⟩ := h_127
                  refine pw_if_eq (tgt := 146) dX8_next_130 (by decide) (fun c_130 => ?_) (fun c_130 => ?_)
                  · skip
                    have hb_130 := b2_0 c_130
                    have hEr : nxE (μ.1 6) n p = r := by rw [hE, ← hr, sw_e hltr hb_130]
                    refine pw_aload_n dX8_next_146 rfl rfl ?_
                    refine pw_aload_n dX8_next_147 rfl rfl ?_
                    refine pw_getI dX8_next_148 fa_X8_104 rfl ?_
                    refine pw_top (y := nI p) rfl ?_
                    refine pw_aload_n dX8_next_151 rfl rfl ?_
                    refine pw_getI dX8_next_152 fa_X8_101 rfl ?_
                    refine pw_top (y := nI r) rfl ?_
                    refine pw_cVi dX8_next_155 mv_X8_113 ckModel (T_X8_wordFrom (a := p) (b := r) (by omega) (by omega)) rfl rfl (Nat.le_of_ble_eq_true rfl) (by decide) (fun x_155 m_155 h_155 => ?_)
                    obtain ⟨rfl, rfl⟩ := h_155
                    have hkl := mwF_le (wd := μ.1 14) (f := μ.1 6) (a := p) (b := r) 12 0 (by omega)
                    refine pw_top (y := nI (mwF (μ.1 14) (μ.1 6) p r 12 0)) rfl ?_
                    obtain ⟨k, hk⟩ : ∃ k, k = mwF (μ.1 14) (μ.1 6) p r 12 0 := ⟨_, rfl⟩
                    rw [← hk] at hkl ⊢
                    have hT : nxT (μ.1 14) (μ.1 6) n p = tkW k := by unfold nxT; rw [if_neg hqn, hlb, if_pos rfl, hEr, hk]
                    have hV : nxV (μ.1 14) (μ.1 6) n p = vlW k := by unfold nxV; rw [if_neg hqn, hlb, if_pos rfl, hEr, hk]
                    refine pw_istore_n (ls2 := [(2, _), (0, _), (1, _)]) dX8_next_158 rfl (by decide) rfl ?_
                    refine pw_aload_n dX8_next_159 rfl rfl ?_
                    refine pw_iload_n dX8_next_160 rfl rfl ?_
                    refine pw_iconst (v := 3) dX8_next_161 rfl ?_
                    refine pw_icmp_ge (tgt := 169) dX8_next_162 (by decide) (fun c_162 => ?_) (fun c_162 => ?_)
                    · skip
                      have k3 : ¬ k < 3 := fun q => absurd (nI_lt (b := 3) q (by decide)) (Int32.not_lt.mpr c_162)
                      refine pw_iload_n dX8_next_169 rfl rfl ?_
                      refine pw_bipush (v := 9) dX8_next_170 rfl ?_
                      refine pw_icmp_ge (tgt := 179) dX8_next_172 (by decide) (fun c_172 => ?_) (fun c_172 => ?_)
                      · skip
                        have k9 : ¬ k < 9 := fun q => absurd (nI_lt (b := 9) q (by decide)) (Int32.not_lt.mpr c_172)
                        refine pw_iload_n dX8_next_179 rfl rfl ?_
                        refine pw_bipush (v := 12) dX8_next_180 rfl ?_
                        refine pw_icmp_ne (tgt := 189) dX8_next_182 (by decide) (fun c_182 => ?_) (fun c_182 => ?_)
                        · skip
                          have k12 : ¬ k = 12 := fun q => c_182 (by rw [q]; rfl)
                          refine pw_iconst (v := 4) dX8_next_189 rfl ?_
                          refine pw_iload_n dX8_next_190 rfl rfl ?_
                          refine pw_iadd dX8_next_191 ?_
                          refine pw_bipush (v := 9) dX8_next_192 rfl ?_
                          refine pw_isub dX8_next_194 ?_
                          refine pw_top (y := tkW k) (by unfold tkW; rw [if_neg k3, if_neg k9, if_neg k12]; rfl) ?_
                          refine pw_putI dX8_next_195 fa_X8_107 rfl ?_
                          refine pw_mem t_26 ?_
                          refine pw_aload_n dX8_next_198 rfl rfl ?_
                          refine pw_iload_n dX8_next_199 rfl rfl ?_
                          refine pw_iconst (v := 3) dX8_next_200 rfl ?_
                          refine pw_icmp_ge (tgt := 208) dX8_next_201 (by decide) (fun c_201 => ?_) (fun c_201 => ?_)
                          · skip
                            refine pw_iload_n dX8_next_208 rfl rfl ?_
                            refine pw_iconst (v := 3) dX8_next_209 rfl ?_
                            refine pw_isub dX8_next_210 ?_
                            refine pw_top (y := vlW k) (by unfold vlW; rw [if_neg k3]; rfl) ?_
                            refine pw_putI dX8_next_211 fa_X8_110 rfl ?_
                            refine pw_mem t_27 ?_
                            refine pw_goto (tgt := 403) dX8_next_214 (by decide) ?_
                            skip
                            refine pw_vret dX8_next_403 rfl ?_
                            rw [hq, hT, hV, hEr]
                          · skip
                            exact absurd c_162 c_201
                        · skip
                          have k12 : k = 12 := (nI_eq (b := 12) (by omega) (by decide)).mp c_182
                          refine pw_iconst (v := (-1)) dX8_next_185 rfl ?_
                          refine pw_goto (tgt := 195) dX8_next_186 (by decide) ?_
                          refine pw_top (y := tkW k) (by unfold tkW; rw [if_neg k3, if_neg k9, if_pos k12]) ?_
                          refine pw_putI dX8_next_195 fa_X8_107 rfl ?_
                          refine pw_mem t_26 ?_
                          refine pw_aload_n dX8_next_198 rfl rfl ?_
                          refine pw_iload_n dX8_next_199 rfl rfl ?_
                          refine pw_iconst (v := 3) dX8_next_200 rfl ?_
                          refine pw_icmp_ge (tgt := 208) dX8_next_201 (by decide) (fun c_201 => ?_) (fun c_201 => ?_)
                          · skip
                            refine pw_iload_n dX8_next_208 rfl rfl ?_
                            refine pw_iconst (v := 3) dX8_next_209 rfl ?_
                            refine pw_isub dX8_next_210 ?_
                            refine pw_top (y := vlW k) (by unfold vlW; rw [if_neg k3]; rfl) ?_
                            refine pw_putI dX8_next_211 fa_X8_110 rfl ?_
                            refine pw_mem t_27 ?_
                            refine pw_goto (tgt := 403) dX8_next_214 (by decide) ?_
                            skip
                            refine pw_vret dX8_next_403 rfl ?_
                            rw [hq, hT, hV, hEr]
                          · skip
                            exact absurd c_162 c_201
                      · skip
                        have k9 : k < 9 := (nI_ltI (b := 9) (by omega) (by decide)).mp (Int32.not_le.mp c_172)
                        refine pw_iconst (v := 2) dX8_next_175 rfl ?_
                        refine pw_goto (tgt := 195) dX8_next_176 (by decide) ?_
                        refine pw_top (y := tkW k) (by unfold tkW; rw [if_neg k3, if_pos k9]) ?_
                        refine pw_putI dX8_next_195 fa_X8_107 rfl ?_
                        refine pw_mem t_26 ?_
                        refine pw_aload_n dX8_next_198 rfl rfl ?_
                        refine pw_iload_n dX8_next_199 rfl rfl ?_
                        refine pw_iconst (v := 3) dX8_next_200 rfl ?_
                        refine pw_icmp_ge (tgt := 208) dX8_next_201 (by decide) (fun c_201 => ?_) (fun c_201 => ?_)
                        · skip
                          refine pw_iload_n dX8_next_208 rfl rfl ?_
                          refine pw_iconst (v := 3) dX8_next_209 rfl ?_
                          refine pw_isub dX8_next_210 ?_
                          refine pw_top (y := vlW k) (by unfold vlW; rw [if_neg k3]; rfl) ?_
                          refine pw_putI dX8_next_211 fa_X8_110 rfl ?_
                          refine pw_mem t_27 ?_
                          refine pw_goto (tgt := 403) dX8_next_214 (by decide) ?_
                          skip
                          refine pw_vret dX8_next_403 rfl ?_
                          rw [hq, hT, hV, hEr]
                        · skip
                          exact absurd c_162 c_201
                    · skip
                      have k3 : k < 3 := (nI_ltI (b := 3) (by omega) (by decide)).mp (Int32.not_le.mp c_162)
                      refine pw_iconst (v := 3) dX8_next_165 rfl ?_
                      refine pw_goto (tgt := 195) dX8_next_166 (by decide) ?_
                      refine pw_top (y := tkW k) (by unfold tkW; rw [if_pos k3]) ?_
                      refine pw_putI dX8_next_195 fa_X8_107 rfl ?_
                      refine pw_mem t_26 ?_
                      refine pw_aload_n dX8_next_198 rfl rfl ?_
                      refine pw_iload_n dX8_next_199 rfl rfl ?_
                      refine pw_iconst (v := 3) dX8_next_200 rfl ?_
                      refine pw_icmp_ge (tgt := 208) dX8_next_201 (by decide) (fun c_201 => ?_) (fun c_201 => ?_)
                      · skip
                        exact absurd c_201 c_162
                      · skip
                        refine pw_iload_n dX8_next_204 rfl rfl ?_
                        refine pw_goto (tgt := 211) dX8_next_205 (by decide) ?_
                        refine pw_top (y := vlW k) (by unfold vlW; rw [if_pos k3]) ?_
                        refine pw_putI dX8_next_211 fa_X8_110 rfl ?_
                        refine pw_mem t_27 ?_
                        refine pw_goto (tgt := 403) dX8_next_214 (by decide) ?_
                        skip
                        refine pw_vret dX8_next_403 rfl ?_
                        rw [hq, hT, hV, hEr]
                  · skip
                    have hb_130 := b2_n c_130
                    skip
                    refine pw_aload_n dX8_next_133 rfl rfl ?_
                    refine pw_dup dX8_next_134 rfl ?_
                    refine pw_getI dX8_next_135 fa_X8_101 rfl ?_
                    refine pw_top (y := nI r) rfl ?_
                    refine pw_iconst (v := 1) dX8_next_138 rfl ?_
                    refine pw_iadd dX8_next_139 ?_
                    refine pw_top (y := nI (r + 1)) (nI_1 r) ?_
                    refine pw_putI dX8_next_140 fa_X8_101 rfl ?_
                    refine pw_mem t_24 ?_
                    refine pw_goto (tgt := 103) dX8_next_143 (by decide) ?_
                    refine pw_sub [0, 1] rfl ?_
                    exact ih_103 (r + 1) (by omega) hltr (by rw [← hr]; exact (sw_n hltr hb_130).symm) (by omega)
            refine pw_sub [1, 0] rfl ?_
            exact L_103 (n + 1) p (Nat.le_refl _) (by omega) rfl (by omega)
        · skip
          have hqn : p = n := (nI_eq (by omega) (by omega)).mp c_78
          refine pw_vret dX8_next_81 rfl ?_
          rw [hq]
          unfold nxE nxT nxV
          rw [if_pos hqn, if_pos hqn, if_pos hqn]
      · skip
        have hlt := nI_ltD (by omega) c_8
        have hx2 := hx
        rw [show n - p = (n - (p + 1)) + 1 by omega] at hx2
        change (if μ.1 6 p = 32 ∨ μ.1 6 p = 10 then skF (μ.1 6) _ (p + 1) else p) = _ at hx2
        refine pw_aload_n dX8_next_11 rfl rfl ?_
        refine pw_getR dX8_next_12 fa_X8_25 rfl ?_
        refine pw_aload_n dX8_next_15 rfl rfl ?_
        refine pw_getI dX8_next_16 fa_X8_101 rfl ?_
        refine pw_iald (j := p) dX8_next_19 rfl rfl (by omega) ?_
        refine pw_top (y := μ.1 6 p) rfl ?_
        refine pw_bipush (v := 32) dX8_next_20 rfl ?_
        refine pw_icmp_eq (tgt := 39) dX8_next_22 (by decide) (fun c_22 => ?_) (fun c_22 => ?_)
        · skip
          have hw : μ.1 6 p = 32 ∨ μ.1 6 p = 10 := Or.inl c_22
          rw [if_pos hw] at hx2
          refine pw_aload_n dX8_next_39 rfl rfl ?_
          refine pw_dup dX8_next_40 rfl ?_
          refine pw_getI dX8_next_41 fa_X8_101 rfl ?_
          refine pw_top (y := nI p) rfl ?_
          refine pw_iconst (v := 1) dX8_next_44 rfl ?_
          refine pw_iadd dX8_next_45 ?_
          refine pw_top (y := nI (p + 1)) (nI_1 p) ?_
          refine pw_putI dX8_next_46 fa_X8_101 rfl ?_
          refine pw_mem t_24 ?_
          refine pw_goto (tgt := 0) dX8_next_49 (by decide) ?_
          refine pw_sub [0] rfl ?_
          exact ih_0 (p + 1) hlt hx2 (by omega)
        · skip
          skip
          refine pw_aload_n dX8_next_25 rfl rfl ?_
          refine pw_getR dX8_next_26 fa_X8_25 rfl ?_
          refine pw_aload_n dX8_next_29 rfl rfl ?_
          refine pw_getI dX8_next_30 fa_X8_101 rfl ?_
          refine pw_iald (j := p) dX8_next_33 rfl rfl (by omega) ?_
          refine pw_top (y := μ.1 6 p) rfl ?_
          refine pw_bipush (v := 10) dX8_next_34 rfl ?_
          refine pw_icmp_ne (tgt := 52) dX8_next_36 (by decide) (fun c_36 => ?_) (fun c_36 => ?_)
          · skip
            have hw : ¬ (μ.1 6 p = 32 ∨ μ.1 6 p = 10) := fun q => q.elim c_22 c_36
            rw [if_neg hw] at hx2
            have hq : nxQ (μ.1 6) n p0 = p := hx2.symm
            refine pw_aload_n dX8_next_52 rfl rfl ?_
            refine pw_aload_n dX8_next_53 rfl rfl ?_
            refine pw_getI dX8_next_54 fa_X8_101 rfl ?_
            refine pw_top (y := nI p) rfl ?_
            refine pw_putI dX8_next_57 fa_X8_104 rfl ?_
            refine pw_mem t_25 ?_
            refine pw_aload_n dX8_next_60 rfl rfl ?_
            refine pw_iconst (v := 0) dX8_next_61 rfl ?_
            refine pw_putI dX8_next_62 fa_X8_107 rfl ?_
            refine pw_mem t_26 ?_
            refine pw_aload_n dX8_next_65 rfl rfl ?_
            refine pw_iconst (v := 0) dX8_next_66 rfl ?_
            refine pw_putI dX8_next_67 fa_X8_110 rfl ?_
            refine pw_mem t_27 ?_
            refine pw_aload_n dX8_next_70 rfl rfl ?_
            refine pw_getI dX8_next_71 fa_X8_101 rfl ?_
            refine pw_top (y := nI p) rfl ?_
            refine pw_aload_n dX8_next_74 rfl rfl ?_
            refine pw_getI dX8_next_75 fa_X8_67 rfl ?_
            refine pw_top (y := nI n) hz ?_
            refine pw_icmp_ne (tgt := 82) dX8_next_78 (by decide) (fun c_78 => ?_) (fun c_78 => ?_)
            · skip
              have hqn : ¬ p = n := fun e => c_78 (by rw [e])
              have hpn : p < n := by omega
              refine pw_aload_n dX8_next_82 rfl rfl ?_
              refine pw_getR dX8_next_83 fa_X8_25 rfl ?_
              refine pw_aload_n dX8_next_86 rfl rfl ?_
              refine pw_getI dX8_next_87 fa_X8_101 rfl ?_
              refine pw_iald (j := p) dX8_next_90 rfl rfl (by omega) ?_
              refine pw_top (y := μ.1 6 p) rfl ?_
              refine pw_istore_n (ls2 := [(1, _), (0, _)]) dX8_next_91 rfl (by decide) rfl ?_
              refine pw_iload_n dX8_next_92 rfl rfl ?_
              refine pw_bipush (v := 97) dX8_next_93 rfl ?_
              refine pw_bipush (v := 122) dX8_next_95 rfl ?_
              refine pw_cSi dX8_next_97 ms_X8_78 T_X8_in rfl rfl (Nat.le_of_ble_eq_true rfl) (by decide) (fun x_97 m_97 h_97 => ?_)
              obtain ⟨rfl, rfl⟩ := h_97
              refine pw_if_eq (tgt := 217) dX8_next_100 (by decide) (fun c_100 => ?_) (fun c_100 => ?_)
              · skip
                have hb_100 := b2_0 c_100
                have hlb : letB (μ.1 6 p) = false := hb_100
                refine pw_iload_n dX8_next_217 rfl rfl ?_
                refine pw_bipush (v := 48) dX8_next_218 rfl ?_
                refine pw_bipush (v := 57) dX8_next_220 rfl ?_
                refine pw_cSi dX8_next_222 ms_X8_78 T_X8_in rfl rfl (Nat.le_of_ble_eq_true rfl) (by decide) (fun x_222 m_222 h_222 => ?_)
                obtain ⟨rfl, rfl⟩ := h_222
                refine pw_if_eq (tgt := 326) dX8_next_225 (by decide) (fun c_225 => ?_) (fun c_225 => ?_)
                · skip
                  have hb_225 := b2_0 c_225
                  have hdb : digB (μ.1 6 p) = false := hb_225
                  have hE : nxE (μ.1 6) n p = p + 1 := by unfold nxE; rw [if_neg hqn, hlb, if_neg Bool.false_ne_true, hdb, if_neg Bool.false_ne_true]
                  have hT : nxT (μ.1 14) (μ.1 6) n p = if sgnB (μ.1 6 p) then μ.1 6 p else -1 := by unfold nxT; rw [if_neg hqn, hlb, if_neg Bool.false_ne_true, hdb, if_neg Bool.false_ne_true]
                  have hV : nxV (μ.1 14) (μ.1 6) n p = 0 := by unfold nxV; rw [if_neg hqn, hlb, if_neg Bool.false_ne_true, hdb, if_neg Bool.false_ne_true]
                  refine pw_iload_n dX8_next_326 rfl rfl ?_
                  refine pw_bipush (v := 40) dX8_next_327 rfl ?_
                  refine pw_icmp_eq (tgt := 374) dX8_next_329 (by decide) (fun c_329 => ?_) (fun c_329 => ?_)
                  · skip
                    refine pw_iconst (v := 1) dX8_next_374 rfl ?_
                    refine pw_goto (tgt := 379) dX8_next_375 (by decide) ?_
                    refine pw_istore_n (ls2 := [(2, _), (1, _), (0, _)]) dX8_next_379 rfl (by decide) rfl ?_
                    refine pw_aload_n dX8_next_380 rfl rfl ?_
                    refine pw_iload_n dX8_next_381 rfl rfl ?_
                    refine pw_if_eq (tgt := 389) dX8_next_382 (by decide) (fun c_382 => ?_) (fun c_382 => ?_)
                    · skip
                      exact absurd c_382 (by decide)
                    · skip
                      refine pw_iload_n dX8_next_385 rfl rfl ?_
                      refine pw_goto (tgt := 390) dX8_next_386 (by decide) ?_
                      have hsg : sgnB (μ.1 6 p) = true := by unfold sgnB; rw [decide_eq_true c_329]; simp only [Bool.true_or, Bool.false_or]
                      refine pw_top (y := nxT (μ.1 14) (μ.1 6) n p) (by rw [hT, hsg]; rfl) ?_
                      refine pw_putI dX8_next_390 fa_X8_107 rfl ?_
                      refine pw_mem t_26 ?_
                      refine pw_aload_n dX8_next_393 rfl rfl ?_
                      refine pw_dup dX8_next_394 rfl ?_
                      refine pw_getI dX8_next_395 fa_X8_101 rfl ?_
                      refine pw_top (y := nI p) rfl ?_
                      refine pw_iconst (v := 1) dX8_next_398 rfl ?_
                      refine pw_iadd dX8_next_399 ?_
                      refine pw_top (y := nI (p + 1)) (nI_1 p) ?_
                      refine pw_putI dX8_next_400 fa_X8_101 rfl ?_
                      refine pw_mem t_24 ?_
                      refine pw_vret dX8_next_403 rfl ?_
                      rw [hq, hV, hE]
                  · skip
                    refine pw_iload_n dX8_next_332 rfl rfl ?_
                    refine pw_bipush (v := 41) dX8_next_333 rfl ?_
                    refine pw_icmp_eq (tgt := 374) dX8_next_335 (by decide) (fun c_335 => ?_) (fun c_335 => ?_)
                    · skip
                      refine pw_iconst (v := 1) dX8_next_374 rfl ?_
                      refine pw_goto (tgt := 379) dX8_next_375 (by decide) ?_
                      refine pw_istore_n (ls2 := [(2, _), (1, _), (0, _)]) dX8_next_379 rfl (by decide) rfl ?_
                      refine pw_aload_n dX8_next_380 rfl rfl ?_
                      refine pw_iload_n dX8_next_381 rfl rfl ?_
                      refine pw_if_eq (tgt := 389) dX8_next_382 (by decide) (fun c_382 => ?_) (fun c_382 => ?_)
                      · skip
                        exact absurd c_382 (by decide)
                      · skip
                        refine pw_iload_n dX8_next_385 rfl rfl ?_
                        refine pw_goto (tgt := 390) dX8_next_386 (by decide) ?_
                        have hsg : sgnB (μ.1 6 p) = true := by unfold sgnB; rw [decide_eq_false c_329, decide_eq_true c_335]; simp only [Bool.true_or, Bool.false_or]
                        refine pw_top (y := nxT (μ.1 14) (μ.1 6) n p) (by rw [hT, hsg]; rfl) ?_
                        refine pw_putI dX8_next_390 fa_X8_107 rfl ?_
                        refine pw_mem t_26 ?_
                        refine pw_aload_n dX8_next_393 rfl rfl ?_
                        refine pw_dup dX8_next_394 rfl ?_
                        refine pw_getI dX8_next_395 fa_X8_101 rfl ?_
                        refine pw_top (y := nI p) rfl ?_
                        refine pw_iconst (v := 1) dX8_next_398 rfl ?_
                        refine pw_iadd dX8_next_399 ?_
                        refine pw_top (y := nI (p + 1)) (nI_1 p) ?_
                        refine pw_putI dX8_next_400 fa_X8_101 rfl ?_
                        refine pw_mem t_24 ?_
                        refine pw_vret dX8_next_403 rfl ?_
                        rw [hq, hV, hE]
                    · skip
                      refine pw_iload_n dX8_next_338 rfl rfl ?_
                      refine pw_bipush (v := 59) dX8_next_339 rfl ?_
                      refine pw_icmp_eq (tgt := 374) dX8_next_341 (by decide) (fun c_341 => ?_) (fun c_341 => ?_)
                      · skip
                        refine pw_iconst (v := 1) dX8_next_374 rfl ?_
                        refine pw_goto (tgt := 379) dX8_next_375 (by decide) ?_
                        refine pw_istore_n (ls2 := [(2, _), (1, _), (0, _)]) dX8_next_379 rfl (by decide) rfl ?_
                        refine pw_aload_n dX8_next_380 rfl rfl ?_
                        refine pw_iload_n dX8_next_381 rfl rfl ?_
                        refine pw_if_eq (tgt := 389) dX8_next_382 (by decide) (fun c_382 => ?_) (fun c_382 => ?_)
                        · skip
                          exact absurd c_382 (by decide)
                        · skip
                          refine pw_iload_n dX8_next_385 rfl rfl ?_
                          refine pw_goto (tgt := 390) dX8_next_386 (by decide) ?_
                          have hsg : sgnB (μ.1 6 p) = true := by unfold sgnB; rw [decide_eq_false c_329, decide_eq_false c_335, decide_eq_true c_341]; simp only [Bool.true_or, Bool.false_or]
                          refine pw_top (y := nxT (μ.1 14) (μ.1 6) n p) (by rw [hT, hsg]; rfl) ?_
                          refine pw_putI dX8_next_390 fa_X8_107 rfl ?_
                          refine pw_mem t_26 ?_
                          refine pw_aload_n dX8_next_393 rfl rfl ?_
                          refine pw_dup dX8_next_394 rfl ?_
                          refine pw_getI dX8_next_395 fa_X8_101 rfl ?_
                          refine pw_top (y := nI p) rfl ?_
                          refine pw_iconst (v := 1) dX8_next_398 rfl ?_
                          refine pw_iadd dX8_next_399 ?_
                          refine pw_top (y := nI (p + 1)) (nI_1 p) ?_
                          refine pw_putI dX8_next_400 fa_X8_101 rfl ?_
                          refine pw_mem t_24 ?_
                          refine pw_vret dX8_next_403 rfl ?_
                          rw [hq, hV, hE]
                      · skip
                        refine pw_iload_n dX8_next_344 rfl rfl ?_
                        refine pw_bipush (v := 43) dX8_next_345 rfl ?_
                        refine pw_icmp_eq (tgt := 374) dX8_next_347 (by decide) (fun c_347 => ?_) (fun c_347 => ?_)
                        · skip
                          refine pw_iconst (v := 1) dX8_next_374 rfl ?_
                          refine pw_goto (tgt := 379) dX8_next_375 (by decide) ?_
                          refine pw_istore_n (ls2 := [(2, _), (1, _), (0, _)]) dX8_next_379 rfl (by decide) rfl ?_
                          refine pw_aload_n dX8_next_380 rfl rfl ?_
                          refine pw_iload_n dX8_next_381 rfl rfl ?_
                          refine pw_if_eq (tgt := 389) dX8_next_382 (by decide) (fun c_382 => ?_) (fun c_382 => ?_)
                          · skip
                            exact absurd c_382 (by decide)
                          · skip
                            refine pw_iload_n dX8_next_385 rfl rfl ?_
                            refine pw_goto (tgt := 390) dX8_next_386 (by decide) ?_
                            have hsg : sgnB (μ.1 6 p) = true := by unfold sgnB; rw [decide_eq_false c_329, decide_eq_false c_335, decide_eq_false c_341, decide_eq_true c_347]; simp only [Bool.true_or, Bool.false_or]
                            refine pw_top (y := nxT (μ.1 14) (μ.1 6) n p) (by rw [hT, hsg]; rfl) ?_
                            refine pw_putI dX8_next_390 fa_X8_107 rfl ?_
                            refine pw_mem t_26 ?_
                            refine pw_aload_n dX8_next_393 rfl rfl ?_
                            refine pw_dup dX8_next_394 rfl ?_
                            refine pw_getI dX8_next_395 fa_X8_101 rfl ?_
                            refine pw_top (y := nI p) rfl ?_
                            refine pw_iconst (v := 1) dX8_next_398 rfl ?_
                            refine pw_iadd dX8_next_399 ?_
                            refine pw_top (y := nI (p + 1)) (nI_1 p) ?_
                            refine pw_putI dX8_next_400 fa_X8_101 rfl ?_
                            refine pw_mem t_24 ?_
                            refine pw_vret dX8_next_403 rfl ?_
                            rw [hq, hV, hE]
                        · skip
                          refine pw_iload_n dX8_next_350 rfl rfl ?_
                          refine pw_bipush (v := 45) dX8_next_351 rfl ?_
                          refine pw_icmp_eq (tgt := 374) dX8_next_353 (by decide) (fun c_353 => ?_) (fun c_353 => ?_)
                          · skip
                            refine pw_iconst (v := 1) dX8_next_374 rfl ?_
                            refine pw_goto (tgt := 379) dX8_next_375 (by decide) ?_
                            refine pw_istore_n (ls2 := [(2, _), (1, _), (0, _)]) dX8_next_379 rfl (by decide) rfl ?_
                            refine pw_aload_n dX8_next_380 rfl rfl ?_
                            refine pw_iload_n dX8_next_381 rfl rfl ?_
                            refine pw_if_eq (tgt := 389) dX8_next_382 (by decide) (fun c_382 => ?_) (fun c_382 => ?_)
                            · skip
                              exact absurd c_382 (by decide)
                            · skip
                              refine pw_iload_n dX8_next_385 rfl rfl ?_
                              refine pw_goto (tgt := 390) dX8_next_386 (by decide) ?_
                              have hsg : sgnB (μ.1 6 p) = true := by unfold sgnB; rw [decide_eq_false c_329, decide_eq_false c_335, decide_eq_false c_341, decide_eq_false c_347, decide_eq_true c_353]; simp only [Bool.true_or, Bool.false_or]
                              refine pw_top (y := nxT (μ.1 14) (μ.1 6) n p) (by rw [hT, hsg]; rfl) ?_
                              refine pw_putI dX8_next_390 fa_X8_107 rfl ?_
                              refine pw_mem t_26 ?_
                              refine pw_aload_n dX8_next_393 rfl rfl ?_
                              refine pw_dup dX8_next_394 rfl ?_
                              refine pw_getI dX8_next_395 fa_X8_101 rfl ?_
                              refine pw_top (y := nI p) rfl ?_
                              refine pw_iconst (v := 1) dX8_next_398 rfl ?_
                              refine pw_iadd dX8_next_399 ?_
                              refine pw_top (y := nI (p + 1)) (nI_1 p) ?_
                              refine pw_putI dX8_next_400 fa_X8_101 rfl ?_
                              refine pw_mem t_24 ?_
                              refine pw_vret dX8_next_403 rfl ?_
                              rw [hq, hV, hE]
                          · skip
                            refine pw_iload_n dX8_next_356 rfl rfl ?_
                            refine pw_bipush (v := 42) dX8_next_357 rfl ?_
                            refine pw_icmp_eq (tgt := 374) dX8_next_359 (by decide) (fun c_359 => ?_) (fun c_359 => ?_)
                            · skip
                              refine pw_iconst (v := 1) dX8_next_374 rfl ?_
                              refine pw_goto (tgt := 379) dX8_next_375 (by decide) ?_
                              refine pw_istore_n (ls2 := [(2, _), (1, _), (0, _)]) dX8_next_379 rfl (by decide) rfl ?_
                              refine pw_aload_n dX8_next_380 rfl rfl ?_
                              refine pw_iload_n dX8_next_381 rfl rfl ?_
                              refine pw_if_eq (tgt := 389) dX8_next_382 (by decide) (fun c_382 => ?_) (fun c_382 => ?_)
                              · skip
                                exact absurd c_382 (by decide)
                              · skip
                                refine pw_iload_n dX8_next_385 rfl rfl ?_
                                refine pw_goto (tgt := 390) dX8_next_386 (by decide) ?_
                                have hsg : sgnB (μ.1 6 p) = true := by unfold sgnB; rw [decide_eq_false c_329, decide_eq_false c_335, decide_eq_false c_341, decide_eq_false c_347, decide_eq_false c_353, decide_eq_true c_359]; simp only [Bool.true_or, Bool.false_or]
                                refine pw_top (y := nxT (μ.1 14) (μ.1 6) n p) (by rw [hT, hsg]; rfl) ?_
                                refine pw_putI dX8_next_390 fa_X8_107 rfl ?_
                                refine pw_mem t_26 ?_
                                refine pw_aload_n dX8_next_393 rfl rfl ?_
                                refine pw_dup dX8_next_394 rfl ?_
                                refine pw_getI dX8_next_395 fa_X8_101 rfl ?_
                                refine pw_top (y := nI p) rfl ?_
                                refine pw_iconst (v := 1) dX8_next_398 rfl ?_
                                refine pw_iadd dX8_next_399 ?_
                                refine pw_top (y := nI (p + 1)) (nI_1 p) ?_
                                refine pw_putI dX8_next_400 fa_X8_101 rfl ?_
                                refine pw_mem t_24 ?_
                                refine pw_vret dX8_next_403 rfl ?_
                                rw [hq, hV, hE]
                            · skip
                              refine pw_iload_n dX8_next_362 rfl rfl ?_
                              refine pw_bipush (v := 60) dX8_next_363 rfl ?_
                              refine pw_icmp_eq (tgt := 374) dX8_next_365 (by decide) (fun c_365 => ?_) (fun c_365 => ?_)
                              · skip
                                refine pw_iconst (v := 1) dX8_next_374 rfl ?_
                                refine pw_goto (tgt := 379) dX8_next_375 (by decide) ?_
                                refine pw_istore_n (ls2 := [(2, _), (1, _), (0, _)]) dX8_next_379 rfl (by decide) rfl ?_
                                refine pw_aload_n dX8_next_380 rfl rfl ?_
                                refine pw_iload_n dX8_next_381 rfl rfl ?_
                                refine pw_if_eq (tgt := 389) dX8_next_382 (by decide) (fun c_382 => ?_) (fun c_382 => ?_)
                                · skip
                                  exact absurd c_382 (by decide)
                                · skip
                                  refine pw_iload_n dX8_next_385 rfl rfl ?_
                                  refine pw_goto (tgt := 390) dX8_next_386 (by decide) ?_
                                  have hsg : sgnB (μ.1 6 p) = true := by unfold sgnB; rw [decide_eq_false c_329, decide_eq_false c_335, decide_eq_false c_341, decide_eq_false c_347, decide_eq_false c_353, decide_eq_false c_359, decide_eq_true c_365]; simp only [Bool.true_or, Bool.false_or]
                                  refine pw_top (y := nxT (μ.1 14) (μ.1 6) n p) (by rw [hT, hsg]; rfl) ?_
                                  refine pw_putI dX8_next_390 fa_X8_107 rfl ?_
                                  refine pw_mem t_26 ?_
                                  refine pw_aload_n dX8_next_393 rfl rfl ?_
                                  refine pw_dup dX8_next_394 rfl ?_
                                  refine pw_getI dX8_next_395 fa_X8_101 rfl ?_
                                  refine pw_top (y := nI p) rfl ?_
                                  refine pw_iconst (v := 1) dX8_next_398 rfl ?_
                                  refine pw_iadd dX8_next_399 ?_
                                  refine pw_top (y := nI (p + 1)) (nI_1 p) ?_
                                  refine pw_putI dX8_next_400 fa_X8_101 rfl ?_
                                  refine pw_mem t_24 ?_
                                  refine pw_vret dX8_next_403 rfl ?_
                                  rw [hq, hV, hE]
                              · skip
                                refine pw_iload_n dX8_next_368 rfl rfl ?_
                                refine pw_bipush (v := 61) dX8_next_369 rfl ?_
                                refine pw_icmp_ne (tgt := 378) dX8_next_371 (by decide) (fun c_371 => ?_) (fun c_371 => ?_)
                                · skip
                                  refine pw_iconst (v := 0) dX8_next_378 rfl ?_
                                  refine pw_istore_n (ls2 := [(2, _), (1, _), (0, _)]) dX8_next_379 rfl (by decide) rfl ?_
                                  refine pw_aload_n dX8_next_380 rfl rfl ?_
                                  refine pw_iload_n dX8_next_381 rfl rfl ?_
                                  refine pw_if_eq (tgt := 389) dX8_next_382 (by decide) (fun c_382 => ?_) (fun c_382 => ?_)
                                  · skip
                                    refine pw_iconst (v := (-1)) dX8_next_389 rfl ?_
                                    have hsg : sgnB (μ.1 6 p) = false := by unfold sgnB; rw [decide_eq_false c_329, decide_eq_false c_335, decide_eq_false c_341, decide_eq_false c_347, decide_eq_false c_353, decide_eq_false c_359, decide_eq_false c_365, decide_eq_false c_371]; simp only [Bool.true_or, Bool.false_or]
                                    refine pw_top (y := nxT (μ.1 14) (μ.1 6) n p) (by rw [hT, hsg]; rfl) ?_
                                    refine pw_putI dX8_next_390 fa_X8_107 rfl ?_
                                    refine pw_mem t_26 ?_
                                    refine pw_aload_n dX8_next_393 rfl rfl ?_
                                    refine pw_dup dX8_next_394 rfl ?_
                                    refine pw_getI dX8_next_395 fa_X8_101 rfl ?_
                                    refine pw_top (y := nI p) rfl ?_
                                    refine pw_iconst (v := 1) dX8_next_398 rfl ?_
                                    refine pw_iadd dX8_next_399 ?_
                                    refine pw_top (y := nI (p + 1)) (nI_1 p) ?_
                                    refine pw_putI dX8_next_400 fa_X8_101 rfl ?_
                                    refine pw_mem t_24 ?_
                                    refine pw_vret dX8_next_403 rfl ?_
                                    rw [hq, hV, hE]
                                  · skip
                                    exact absurd rfl c_382
                                · skip
                                  refine pw_iconst (v := 1) dX8_next_374 rfl ?_
                                  refine pw_goto (tgt := 379) dX8_next_375 (by decide) ?_
                                  refine pw_istore_n (ls2 := [(2, _), (1, _), (0, _)]) dX8_next_379 rfl (by decide) rfl ?_
                                  refine pw_aload_n dX8_next_380 rfl rfl ?_
                                  refine pw_iload_n dX8_next_381 rfl rfl ?_
                                  refine pw_if_eq (tgt := 389) dX8_next_382 (by decide) (fun c_382 => ?_) (fun c_382 => ?_)
                                  · skip
                                    exact absurd c_382 (by decide)
                                  · skip
                                    refine pw_iload_n dX8_next_385 rfl rfl ?_
                                    refine pw_goto (tgt := 390) dX8_next_386 (by decide) ?_
                                    have hsg : sgnB (μ.1 6 p) = true := by unfold sgnB; rw [decide_eq_false c_329, decide_eq_false c_335, decide_eq_false c_341, decide_eq_false c_347, decide_eq_false c_353, decide_eq_false c_359, decide_eq_false c_365, decide_eq_true c_371]; simp only [Bool.true_or, Bool.false_or]
                                    refine pw_top (y := nxT (μ.1 14) (μ.1 6) n p) (by rw [hT, hsg]; rfl) ?_
                                    refine pw_putI dX8_next_390 fa_X8_107 rfl ?_
                                    refine pw_mem t_26 ?_
                                    refine pw_aload_n dX8_next_393 rfl rfl ?_
                                    refine pw_dup dX8_next_394 rfl ?_
                                    refine pw_getI dX8_next_395 fa_X8_101 rfl ?_
                                    refine pw_top (y := nI p) rfl ?_
                                    refine pw_iconst (v := 1) dX8_next_398 rfl ?_
                                    refine pw_iadd dX8_next_399 ?_
                                    refine pw_top (y := nI (p + 1)) (nI_1 p) ?_
                                    refine pw_putI dX8_next_400 fa_X8_101 rfl ?_
                                    refine pw_mem t_24 ?_
                                    refine pw_vret dX8_next_403 rfl ?_
                                    rw [hq, hV, hE]
                · skip
                  have hb_225 := b2_n c_225
                  have hdb : digB (μ.1 6 p) = true := hb_225
                  have hE : nxE (μ.1 6) n p = scanF digB (μ.1 6) (n - p) p := by unfold nxE; rw [if_neg hqn, hlb, if_neg Bool.false_ne_true, hdb, if_pos rfl]
                  have hT : nxT (μ.1 14) (μ.1 6) n p = if 4 < nxE (μ.1 6) n p - p then -1 else 1 := by unfold nxT; rw [if_neg hqn, hlb, if_neg Bool.false_ne_true, hdb, if_pos rfl]
                  have hV : nxV (μ.1 14) (μ.1 6) n p = nvF (μ.1 6) p (nxE (μ.1 6) n p - p) := by unfold nxV; rw [if_neg hqn, hlb, if_neg Bool.false_ne_true, hdb, if_pos rfl]
                  refine pw_iconst (v := 0) dX8_next_228 rfl ?_
                  refine pw_istore_n (ls2 := [(2, _), (1, _), (0, _)]) dX8_next_229 rfl (by decide) rfl ?_
                  have L_230 : ∀ (fu_230 : Nat) (i : Nat), (p + i ≤ n) → (scanF digB (μ.1 6) (n - (p + i)) (p + i) = scanF digB (μ.1 6) (n - p) p) → n - (p + i) < fu_230 → PW l SM RX8 cX8_next 3 none 2 (QV fun m => m = mm (xM μ (nI (nxE (μ.1 6) n (nxQ (μ.1 6) n p0))) (nI (nxQ (μ.1 6) n p0)) (nxT (μ.1 14) (μ.1 6) n (nxQ (μ.1 6) n p0)) (nxV (μ.1 14) (μ.1 6) n (nxQ (μ.1 6) n p0)) h o u H C) V nm sk st sn) 230 [(0, .ref 0), (1, .int (μ.1 6 p)), (2, .int (nI i))] [] (mm (xM μ (nI (p + i)) (nI p) 0 (nvF (μ.1 6) p i) h o u H C) V nm sk st sn) := by
                    intro fu_230
                    induction fu_230 with
                    | zero =>
                      intro i hr2 hr hm_230
                      exact absurd hm_230 (Nat.not_lt_zero _)
                    | succ fu_230 ih_230 =>
                      intro i hr2 hr hm_230
                      refine pw_aload_n dX8_next_230 rfl rfl ?_
                      refine pw_getI dX8_next_231 fa_X8_101 rfl ?_
                      refine pw_aload_n dX8_next_234 rfl rfl ?_
                      refine pw_getI dX8_next_235 fa_X8_67 rfl ?_
                      refine pw_top (y := nI n) hz ?_
                      refine pw_icmp_ge (tgt := 309) dX8_next_238 (by decide) (fun c_238 => ?_) (fun c_238 => ?_)
                      · skip
                        have hger := nI_geD (by omega) c_238
                        have hEr : nxE (μ.1 6) n p = p + i := by rw [hE, ← hr, sw_z hger]
                        refine pw_aload_n dX8_next_309 rfl rfl ?_
                        refine pw_iload_n dX8_next_310 rfl rfl ?_
                        refine pw_iconst (v := 4) dX8_next_311 rfl ?_
                        refine pw_icmp_le (tgt := 319) dX8_next_312 (by decide) (fun c_312 => ?_) (fun c_312 => ?_)
                        · skip
                          have i4 : i ≤ 4 := (nI_leI (b := 4) (by omega) (by decide)).mp c_312
                          refine pw_iconst (v := 1) dX8_next_319 rfl ?_
                          refine pw_top (y := nxT (μ.1 14) (μ.1 6) n p) (by rw [hT, hEr, if_neg (by omega)]) ?_
                          refine pw_putI dX8_next_320 fa_X8_107 rfl ?_
                          refine pw_mem t_26 ?_
                          refine pw_goto (tgt := 403) dX8_next_323 (by decide) ?_
                          skip
                          refine pw_vret dX8_next_403 rfl ?_
                          rw [hq, hV, hEr, Nat.add_sub_cancel_left]
                        · skip
                          have i4 : ¬ i ≤ 4 := fun q => c_312 (nI_le (b := 4) q (by decide))
                          refine pw_iconst (v := (-1)) dX8_next_315 rfl ?_
                          refine pw_goto (tgt := 320) dX8_next_316 (by decide) ?_
                          refine pw_top (y := nxT (μ.1 14) (μ.1 6) n p) (by rw [hT, hEr, if_pos (by omega)]) ?_
                          refine pw_putI dX8_next_320 fa_X8_107 rfl ?_
                          refine pw_mem t_26 ?_
                          refine pw_goto (tgt := 403) dX8_next_323 (by decide) ?_
                          skip
                          refine pw_vret dX8_next_403 rfl ?_
                          rw [hq, hV, hEr, Nat.add_sub_cancel_left]
                      · skip
                        have hltr := nI_ltD (by omega) c_238
                        refine pw_aload_n dX8_next_241 rfl rfl ?_
                        refine pw_getR dX8_next_242 fa_X8_25 rfl ?_
                        refine pw_aload_n dX8_next_245 rfl rfl ?_
                        refine pw_getI dX8_next_246 fa_X8_101 rfl ?_
                        refine pw_iald (j := p + i) dX8_next_249 rfl rfl (by omega) ?_
                        refine pw_top (y := μ.1 6 (p + i)) rfl ?_
                        refine pw_bipush (v := 48) dX8_next_250 rfl ?_
                        refine pw_bipush (v := 57) dX8_next_252 rfl ?_
                        refine pw_cSi dX8_next_254 ms_X8_78 T_X8_in rfl rfl (Nat.le_of_ble_eq_true rfl) (by decide) (fun x_254 m_254 h_254 => ?_)
                        obtain ⟨rfl, rfl⟩ := h_254
                        refine pw_if_eq (tgt := 309) dX8_next_257 (by decide) (fun c_257 => ?_) (fun c_257 => ?_)
                        · skip
                          have hb_257 := b2_0 c_257
                          have hEr : nxE (μ.1 6) n p = p + i := by rw [hE, ← hr, sw_e hltr hb_257]
                          refine pw_aload_n dX8_next_309 rfl rfl ?_
                          refine pw_iload_n dX8_next_310 rfl rfl ?_
                          refine pw_iconst (v := 4) dX8_next_311 rfl ?_
                          refine pw_icmp_le (tgt := 319) dX8_next_312 (by decide) (fun c_312 => ?_) (fun c_312 => ?_)
                          · skip
                            have i4 : i ≤ 4 := (nI_leI (b := 4) (by omega) (by decide)).mp c_312
                            refine pw_iconst (v := 1) dX8_next_319 rfl ?_
                            refine pw_top (y := nxT (μ.1 14) (μ.1 6) n p) (by rw [hT, hEr, if_neg (by omega)]) ?_
                            refine pw_putI dX8_next_320 fa_X8_107 rfl ?_
                            refine pw_mem t_26 ?_
                            refine pw_goto (tgt := 403) dX8_next_323 (by decide) ?_
                            skip
                            refine pw_vret dX8_next_403 rfl ?_
                            rw [hq, hV, hEr, Nat.add_sub_cancel_left]
                          · skip
                            have i4 : ¬ i ≤ 4 := fun q => c_312 (nI_le (b := 4) q (by decide))
                            refine pw_iconst (v := (-1)) dX8_next_315 rfl ?_
                            refine pw_goto (tgt := 320) dX8_next_316 (by decide) ?_
                            refine pw_top (y := nxT (μ.1 14) (μ.1 6) n p) (by rw [hT, hEr, if_pos (by omega)]) ?_
                            refine pw_putI dX8_next_320 fa_X8_107 rfl ?_
                            refine pw_mem t_26 ?_
                            refine pw_goto (tgt := 403) dX8_next_323 (by decide) ?_
                            skip
                            refine pw_vret dX8_next_403 rfl ?_
                            rw [hq, hV, hEr, Nat.add_sub_cancel_left]
                        · skip
                          have hb_257 := b2_n c_257
                          skip
                          refine pw_aload_n dX8_next_260 rfl rfl ?_
                          refine pw_iload_n dX8_next_261 rfl rfl ?_
                          refine pw_iconst (v := 4) dX8_next_262 rfl ?_
                          refine pw_icmp_ge (tgt := 289) dX8_next_263 (by decide) (fun c_263 => ?_) (fun c_263 => ?_)
                          · skip
                            have i4 : ¬ i < 4 := fun q => absurd (nI_lt (b := 4) q (by decide)) (Int32.not_lt.mpr c_263)
                            refine pw_iconst (v := 0) dX8_next_289 rfl ?_
                            refine pw_top (y := nvF (μ.1 6) p (i + 1)) (by show _ = if i < 4 then _ else _; rw [if_neg i4]) ?_
                            refine pw_putI dX8_next_290 fa_X8_110 rfl ?_
                            refine pw_mem t_27 ?_
                            refine pw_iinc (ls2 := [(2, _), (0, _), (1, _)]) (v := nI (i + 1)) dX8_next_293 rfl (inc1 i) (by decide) rfl ?_
                            refine pw_aload_n dX8_next_296 rfl rfl ?_
                            refine pw_dup dX8_next_297 rfl ?_
                            refine pw_getI dX8_next_298 fa_X8_101 rfl ?_
                            refine pw_top (y := nI (p + i)) rfl ?_
                            refine pw_iconst (v := 1) dX8_next_301 rfl ?_
                            refine pw_iadd dX8_next_302 ?_
                            refine pw_top (y := nI (p + i + 1)) (nI_1 _) ?_
                            refine pw_putI dX8_next_303 fa_X8_101 rfl ?_
                            refine pw_mem t_24 ?_
                            refine pw_goto (tgt := 230) dX8_next_306 (by decide) ?_
                            refine pw_sub [1, 2, 0] rfl ?_
                            exact ih_230 (i + 1) hltr (by rw [← hr]; exact (sw_n hltr hb_257).symm) (by omega)
                          · skip
                            have i4 : i < 4 := (nI_ltI (b := 4) (by omega) (by decide)).mp (Int32.not_le.mp c_263)
                            refine pw_bipush (v := 10) dX8_next_266 rfl ?_
                            refine pw_aload_n dX8_next_268 rfl rfl ?_
                            refine pw_getI dX8_next_269 fa_X8_110 rfl ?_
                            refine pw_top (y := nvF (μ.1 6) p i) rfl ?_
                            refine pw_imul dX8_next_272 ?_
                            refine pw_aload_n dX8_next_273 rfl rfl ?_
                            refine pw_getR dX8_next_274 fa_X8_25 rfl ?_
                            refine pw_aload_n dX8_next_277 rfl rfl ?_
                            refine pw_getI dX8_next_278 fa_X8_101 rfl ?_
                            refine pw_iald (j := p + i) dX8_next_281 rfl rfl (by omega) ?_
                            refine pw_top (y := μ.1 6 (p + i)) rfl ?_
                            refine pw_iadd dX8_next_282 ?_
                            refine pw_bipush (v := 48) dX8_next_283 rfl ?_
                            refine pw_isub dX8_next_285 ?_
                            refine pw_goto (tgt := 290) dX8_next_286 (by decide) ?_
                            refine pw_top (y := nvF (μ.1 6) p (i + 1)) (by show _ = if i < 4 then _ else _; rw [if_pos i4]; rfl) ?_
                            refine pw_putI dX8_next_290 fa_X8_110 rfl ?_
                            refine pw_mem t_27 ?_
                            refine pw_iinc (ls2 := [(2, _), (0, _), (1, _)]) (v := nI (i + 1)) dX8_next_293 rfl (inc1 i) (by decide) rfl ?_
                            refine pw_aload_n dX8_next_296 rfl rfl ?_
                            refine pw_dup dX8_next_297 rfl ?_
                            refine pw_getI dX8_next_298 fa_X8_101 rfl ?_
                            refine pw_top (y := nI (p + i)) rfl ?_
                            refine pw_iconst (v := 1) dX8_next_301 rfl ?_
                            refine pw_iadd dX8_next_302 ?_
                            refine pw_top (y := nI (p + i + 1)) (nI_1 _) ?_
                            refine pw_putI dX8_next_303 fa_X8_101 rfl ?_
                            refine pw_mem t_24 ?_
                            refine pw_goto (tgt := 230) dX8_next_306 (by decide) ?_
                            refine pw_sub [1, 2, 0] rfl ?_
                            exact ih_230 (i + 1) hltr (by rw [← hr]; exact (sw_n hltr hb_257).symm) (by omega)
                  refine pw_sub [2, 1, 0] rfl ?_
                  exact L_230 (n + 1) 0 (by omega) rfl (by omega)
              · skip
                have hb_100 := b2_n c_100
                have hlb : letB (μ.1 6 p) = true := hb_100
                have hE : nxE (μ.1 6) n p = scanF letB (μ.1 6) (n - p) p := by unfold nxE; rw [if_neg hqn, hlb, if_pos rfl]
                have L_103 : ∀ (fu_103 : Nat) (r : Nat), (p ≤ r) → (r ≤ n) → (scanF letB (μ.1 6) (n - r) r = scanF letB (μ.1 6) (n - p) p) → n - r < fu_103 → PW l SM RX8 cX8_next 3 none 2 (QV fun m => m = mm (xM μ (nI (nxE (μ.1 6) n (nxQ (μ.1 6) n p0))) (nI (nxQ (μ.1 6) n p0)) (nxT (μ.1 14) (μ.1 6) n (nxQ (μ.1 6) n p0)) (nxV (μ.1 14) (μ.1 6) n (nxQ (μ.1 6) n p0)) h o u H C) V nm sk st sn) 103 [(0, .ref 0), (1, .int (μ.1 6 p))] [] (mm (xM μ (nI r) (nI p) 0 0 h o u H C) V nm sk st sn) := by
                  intro fu_103
                  induction fu_103 with
                  | zero =>
                    intro r hr1 hr2 hr hm_103
                    exact absurd hm_103 (Nat.not_lt_zero _)
                  | succ fu_103 ih_103 =>
                    intro r hr1 hr2 hr hm_103
                    refine pw_aload_n dX8_next_103 rfl rfl ?_
                    refine pw_getI dX8_next_104 fa_X8_101 rfl ?_
                    refine pw_aload_n dX8_next_107 rfl rfl ?_
                    refine pw_getI dX8_next_108 fa_X8_67 rfl ?_
                    refine pw_top (y := nI n) hz ?_
                    refine pw_icmp_ge (tgt := 146) dX8_next_111 (by decide) (fun c_111 => ?_) (fun c_111 => ?_)
                    · skip
                      have hger := nI_geD (by omega) c_111
                      have hEr : nxE (μ.1 6) n p = r := by rw [hE, ← hr, sw_z hger]
                      refine pw_aload_n dX8_next_146 rfl rfl ?_
                      refine pw_aload_n dX8_next_147 rfl rfl ?_
                      refine pw_getI dX8_next_148 fa_X8_104 rfl ?_
                      refine pw_top (y := nI p) rfl ?_
                      refine pw_aload_n dX8_next_151 rfl rfl ?_
                      refine pw_getI dX8_next_152 fa_X8_101 rfl ?_
                      refine pw_top (y := nI r) rfl ?_
                      refine pw_cVi dX8_next_155 mv_X8_113 ckModel (T_X8_wordFrom (a := p) (b := r) (by omega) (by omega)) rfl rfl (Nat.le_of_ble_eq_true rfl) (by decide) (fun x_155 m_155 h_155 => ?_)
                      obtain ⟨rfl, rfl⟩ := h_155
                      have hkl := mwF_le (wd := μ.1 14) (f := μ.1 6) (a := p) (b := r) 12 0 (by omega)
                      refine pw_top (y := nI (mwF (μ.1 14) (μ.1 6) p r 12 0)) rfl ?_
                      obtain ⟨k, hk⟩ : ∃ k, k = mwF (μ.1 14) (μ.1 6) p r 12 0 := ⟨_, rfl⟩
                      rw [← hk] at hkl ⊢
                      have hT : nxT (μ.1 14) (μ.1 6) n p = tkW k := by unfold nxT; rw [if_neg hqn, hlb, if_pos rfl, hEr, hk]
                      have hV : nxV (μ.1 14) (μ.1 6) n p = vlW k := by unfold nxV; rw [if_neg hqn, hlb, if_pos rfl, hEr, hk]
                      refine pw_istore_n (ls2 := [(2, _), (0, _), (1, _)]) dX8_next_158 rfl (by decide) rfl ?_
                      refine pw_aload_n dX8_next_159 rfl rfl ?_
                      refine pw_iload_n dX8_next_160 rfl rfl ?_
                      refine pw_iconst (v := 3) dX8_next_161 rfl ?_
                      refine pw_icmp_ge (tgt := 169) dX8_next_162 (by decide) (fun c_162 => ?_) (fun c_162 => ?_)
                      · skip
                        have k3 : ¬ k < 3 := fun q => absurd (nI_lt (b := 3) q (by decide)) (Int32.not_lt.mpr c_162)
                        refine pw_iload_n dX8_next_169 rfl rfl ?_
                        refine pw_bipush (v := 9) dX8_next_170 rfl ?_
                        refine pw_icmp_ge (tgt := 179) dX8_next_172 (by decide) (fun c_172 => ?_) (fun c_172 => ?_)
                        · skip
                          have k9 : ¬ k < 9 := fun q => absurd (nI_lt (b := 9) q (by decide)) (Int32.not_lt.mpr c_172)
                          refine pw_iload_n dX8_next_179 rfl rfl ?_
                          refine pw_bipush (v := 12) dX8_next_180 rfl ?_
                          refine pw_icmp_ne (tgt := 189) dX8_next_182 (by decide) (fun c_182 => ?_) (fun c_182 => ?_)
                          · skip
                            have k12 : ¬ k = 12 := fun q => c_182 (by rw [q]; rfl)
                            refine pw_iconst (v := 4) dX8_next_189 rfl ?_
                            refine pw_iload_n dX8_next_190 rfl rfl ?_
                            refine pw_iadd dX8_next_191 ?_
                            refine pw_bipush (v := 9) dX8_next_192 rfl ?_
                            refine pw_isub dX8_next_194 ?_
                            refine pw_top (y := tkW k) (by unfold tkW; rw [if_neg k3, if_neg k9, if_neg k12]; rfl) ?_
                            refine pw_putI dX8_next_195 fa_X8_107 rfl ?_
                            refine pw_mem t_26 ?_
                            refine pw_aload_n dX8_next_198 rfl rfl ?_
                            refine pw_iload_n dX8_next_199 rfl rfl ?_
                            refine pw_iconst (v := 3) dX8_next_200 rfl ?_
                            refine pw_icmp_ge (tgt := 208) dX8_next_201 (by decide) (fun c_201 => ?_) (fun c_201 => ?_)
                            · skip
                              refine pw_iload_n dX8_next_208 rfl rfl ?_
                              refine pw_iconst (v := 3) dX8_next_209 rfl ?_
                              refine pw_isub dX8_next_210 ?_
                              refine pw_top (y := vlW k) (by unfold vlW; rw [if_neg k3]; rfl) ?_
                              refine pw_putI dX8_next_211 fa_X8_110 rfl ?_
                              refine pw_mem t_27 ?_
                              refine pw_goto (tgt := 403) dX8_next_214 (by decide) ?_
                              skip
                              refine pw_vret dX8_next_403 rfl ?_
                              rw [hq, hT, hV, hEr]
                            · skip
                              exact absurd c_162 c_201
                          · skip
                            have k12 : k = 12 := (nI_eq (b := 12) (by omega) (by decide)).mp c_182
                            refine pw_iconst (v := (-1)) dX8_next_185 rfl ?_
                            refine pw_goto (tgt := 195) dX8_next_186 (by decide) ?_
                            refine pw_top (y := tkW k) (by unfold tkW; rw [if_neg k3, if_neg k9, if_pos k12]) ?_
                            refine pw_putI dX8_next_195 fa_X8_107 rfl ?_
                            refine pw_mem t_26 ?_
                            refine pw_aload_n dX8_next_198 rfl rfl ?_
                            refine pw_iload_n dX8_next_199 rfl rfl ?_
                            refine pw_iconst (v := 3) dX8_next_200 rfl ?_
                            refine pw_icmp_ge (tgt := 208) dX8_next_201 (by decide) (fun c_201 => ?_) (fun c_201 => ?_)
                            · skip
                              refine pw_iload_n dX8_next_208 rfl rfl ?_
                              refine pw_iconst (v := 3) dX8_next_209 rfl ?_
                              refine pw_isub dX8_next_210 ?_
                              refine pw_top (y := vlW k) (by unfold vlW; rw [if_neg k3]; rfl) ?_
                              refine pw_putI dX8_next_211 fa_X8_110 rfl ?_
                              refine pw_mem t_27 ?_
                              refine pw_goto (tgt := 403) dX8_next_214 (by decide) ?_
                              skip
                              refine pw_vret dX8_next_403 rfl ?_
                              rw [hq, hT, hV, hEr]
                            · skip
                              exact absurd c_162 c_201
                        · skip
                          have k9 : k < 9 := (nI_ltI (b := 9) (by omega) (by decide)).mp (Int32.not_le.mp c_172)
                          refine pw_iconst (v := 2) dX8_next_175 rfl ?_
                          refine pw_goto (tgt := 195) dX8_next_176 (by decide) ?_
                          refine pw_top (y := tkW k) (by unfold tkW; rw [if_neg k3, if_pos k9]) ?_
                          refine pw_putI dX8_next_195 fa_X8_107 rfl ?_
                          refine pw_mem t_26 ?_
                          refine pw_aload_n dX8_next_198 rfl rfl ?_
                          refine pw_iload_n dX8_next_199 rfl rfl ?_
                          refine pw_iconst (v := 3) dX8_next_200 rfl ?_
                          refine pw_icmp_ge (tgt := 208) dX8_next_201 (by decide) (fun c_201 => ?_) (fun c_201 => ?_)
                          · skip
                            refine pw_iload_n dX8_next_208 rfl rfl ?_
                            refine pw_iconst (v := 3) dX8_next_209 rfl ?_
                            refine pw_isub dX8_next_210 ?_
                            refine pw_top (y := vlW k) (by unfold vlW; rw [if_neg k3]; rfl) ?_
                            refine pw_putI dX8_next_211 fa_X8_110 rfl ?_
                            refine pw_mem t_27 ?_
                            refine pw_goto (tgt := 403) dX8_next_214 (by decide) ?_
                            skip
                            refine pw_vret dX8_next_403 rfl ?_
                            rw [hq, hT, hV, hEr]
                          · skip
                            exact absurd c_162 c_201
                      · skip
                        have k3 : k < 3 := (nI_ltI (b := 3) (by omega) (by decide)).mp (Int32.not_le.mp c_162)
                        refine pw_iconst (v := 3) dX8_next_165 rfl ?_
                        refine pw_goto (tgt := 195) dX8_next_166 (by decide) ?_
                        refine pw_top (y := tkW k) (by unfold tkW; rw [if_pos k3]) ?_
                        refine pw_putI dX8_next_195 fa_X8_107 rfl ?_
                        refine pw_mem t_26 ?_
                        refine pw_aload_n dX8_next_198 rfl rfl ?_
                        refine pw_iload_n dX8_next_199 rfl rfl ?_
                        refine pw_iconst (v := 3) dX8_next_200 rfl ?_
                        refine pw_icmp_ge (tgt := 208) dX8_next_201 (by decide) (fun c_201 => ?_) (fun c_201 => ?_)
                        · skip
                          exact absurd c_201 c_162
                        · skip
                          refine pw_iload_n dX8_next_204 rfl rfl ?_
                          refine pw_goto (tgt := 211) dX8_next_205 (by decide) ?_
                          refine pw_top (y := vlW k) (by unfold vlW; rw [if_pos k3]) ?_
                          refine pw_putI dX8_next_211 fa_X8_110 rfl ?_
                          refine pw_mem t_27 ?_
                          refine pw_goto (tgt := 403) dX8_next_214 (by decide) ?_
                          skip
                          refine pw_vret dX8_next_403 rfl ?_
                          rw [hq, hT, hV, hEr]
                    · skip
                      have hltr := nI_ltD (by omega) c_111
                      refine pw_aload_n dX8_next_114 rfl rfl ?_
                      refine pw_getR dX8_next_115 fa_X8_25 rfl ?_
                      refine pw_aload_n dX8_next_118 rfl rfl ?_
                      refine pw_getI dX8_next_119 fa_X8_101 rfl ?_
                      refine pw_iald (j := r) dX8_next_122 rfl rfl (by omega) ?_
                      refine pw_top (y := μ.1 6 r) rfl ?_
                      refine pw_bipush (v := 97) dX8_next_123 rfl ?_
                      refine pw_bipush (v := 122) dX8_next_125 rfl ?_
                      refine pw_cSi dX8_next_127 ms_X8_78 T_X8_in rfl rfl (Nat.le_of_ble_eq_true rfl) (by decide) (fun x_127 m_127 h_127 => ?_)
                      obtain ⟨rfl, rfl⟩ := h_127
                      refine pw_if_eq (tgt := 146) dX8_next_130 (by decide) (fun c_130 => ?_) (fun c_130 => ?_)
                      · skip
                        have hb_130 := b2_0 c_130
                        have hEr : nxE (μ.1 6) n p = r := by rw [hE, ← hr, sw_e hltr hb_130]
                        refine pw_aload_n dX8_next_146 rfl rfl ?_
                        refine pw_aload_n dX8_next_147 rfl rfl ?_
                        refine pw_getI dX8_next_148 fa_X8_104 rfl ?_
                        refine pw_top (y := nI p) rfl ?_
                        refine pw_aload_n dX8_next_151 rfl rfl ?_
                        refine pw_getI dX8_next_152 fa_X8_101 rfl ?_
                        refine pw_top (y := nI r) rfl ?_
                        refine pw_cVi dX8_next_155 mv_X8_113 ckModel (T_X8_wordFrom (a := p) (b := r) (by omega) (by omega)) rfl rfl (Nat.le_of_ble_eq_true rfl) (by decide) (fun x_155 m_155 h_155 => ?_)
                        obtain ⟨rfl, rfl⟩ := h_155
                        have hkl := mwF_le (wd := μ.1 14) (f := μ.1 6) (a := p) (b := r) 12 0 (by omega)
                        refine pw_top (y := nI (mwF (μ.1 14) (μ.1 6) p r 12 0)) rfl ?_
                        obtain ⟨k, hk⟩ : ∃ k, k = mwF (μ.1 14) (μ.1 6) p r 12 0 := ⟨_, rfl⟩
                        rw [← hk] at hkl ⊢
                        have hT : nxT (μ.1 14) (μ.1 6) n p = tkW k := by unfold nxT; rw [if_neg hqn, hlb, if_pos rfl, hEr, hk]
                        have hV : nxV (μ.1 14) (μ.1 6) n p = vlW k := by unfold nxV; rw [if_neg hqn, hlb, if_pos rfl, hEr, hk]
                        refine pw_istore_n (ls2 := [(2, _), (0, _), (1, _)]) dX8_next_158 rfl (by decide) rfl ?_
                        refine pw_aload_n dX8_next_159 rfl rfl ?_
                        refine pw_iload_n dX8_next_160 rfl rfl ?_
                        refine pw_iconst (v := 3) dX8_next_161 rfl ?_
                        refine pw_icmp_ge (tgt := 169) dX8_next_162 (by decide) (fun c_162 => ?_) (fun c_162 => ?_)
                        · skip
                          have k3 : ¬ k < 3 := fun q => absurd (nI_lt (b := 3) q (by decide)) (Int32.not_lt.mpr c_162)
                          refine pw_iload_n dX8_next_169 rfl rfl ?_
                          refine pw_bipush (v := 9) dX8_next_170 rfl ?_
                          refine pw_icmp_ge (tgt := 179) dX8_next_172 (by decide) (fun c_172 => ?_) (fun c_172 => ?_)
                          · skip
                            have k9 : ¬ k < 9 := fun q => absurd (nI_lt (b := 9) q (by decide)) (Int32.not_lt.mpr c_172)
                            refine pw_iload_n dX8_next_179 rfl rfl ?_
                            refine pw_bipush (v := 12) dX8_next_180 rfl ?_
                            refine pw_icmp_ne (tgt := 189) dX8_next_182 (by decide) (fun c_182 => ?_) (fun c_182 => ?_)
                            · skip
                              have k12 : ¬ k = 12 := fun q => c_182 (by rw [q]; rfl)
                              refine pw_iconst (v := 4) dX8_next_189 rfl ?_
                              refine pw_iload_n dX8_next_190 rfl rfl ?_
                              refine pw_iadd dX8_next_191 ?_
                              refine pw_bipush (v := 9) dX8_next_192 rfl ?_
                              refine pw_isub dX8_next_194 ?_
                              refine pw_top (y := tkW k) (by unfold tkW; rw [if_neg k3, if_neg k9, if_neg k12]; rfl) ?_
                              refine pw_putI dX8_next_195 fa_X8_107 rfl ?_
                              refine pw_mem t_26 ?_
                              refine pw_aload_n dX8_next_198 rfl rfl ?_
                              refine pw_iload_n dX8_next_199 rfl rfl ?_
                              refine pw_iconst (v := 3) dX8_next_200 rfl ?_
                              refine pw_icmp_ge (tgt := 208) dX8_next_201 (by decide) (fun c_201 => ?_) (fun c_201 => ?_)
                              · skip
                                refine pw_iload_n dX8_next_208 rfl rfl ?_
                                refine pw_iconst (v := 3) dX8_next_209 rfl ?_
                                refine pw_isub dX8_next_210 ?_
                                refine pw_top (y := vlW k) (by unfold vlW; rw [if_neg k3]; rfl) ?_
                                refine pw_putI dX8_next_211 fa_X8_110 rfl ?_
                                refine pw_mem t_27 ?_
                                refine pw_goto (tgt := 403) dX8_next_214 (by decide) ?_
                                skip
                                refine pw_vret dX8_next_403 rfl ?_
                                rw [hq, hT, hV, hEr]
                              · skip
                                exact absurd c_162 c_201
                            · skip
                              have k12 : k = 12 := (nI_eq (b := 12) (by omega) (by decide)).mp c_182
                              refine pw_iconst (v := (-1)) dX8_next_185 rfl ?_
                              refine pw_goto (tgt := 195) dX8_next_186 (by decide) ?_
                              refine pw_top (y := tkW k) (by unfold tkW; rw [if_neg k3, if_neg k9, if_pos k12]) ?_
                              refine pw_putI dX8_next_195 fa_X8_107 rfl ?_
                              refine pw_mem t_26 ?_
                              refine pw_aload_n dX8_next_198 rfl rfl ?_
                              refine pw_iload_n dX8_next_199 rfl rfl ?_
                              refine pw_iconst (v := 3) dX8_next_200 rfl ?_
                              refine pw_icmp_ge (tgt := 208) dX8_next_201 (by decide) (fun c_201 => ?_) (fun c_201 => ?_)
                              · skip
                                refine pw_iload_n dX8_next_208 rfl rfl ?_
                                refine pw_iconst (v := 3) dX8_next_209 rfl ?_
                                refine pw_isub dX8_next_210 ?_
                                refine pw_top (y := vlW k) (by unfold vlW; rw [if_neg k3]; rfl) ?_
                                refine pw_putI dX8_next_211 fa_X8_110 rfl ?_
                                refine pw_mem t_27 ?_
                                refine pw_goto (tgt := 403) dX8_next_214 (by decide) ?_
                                skip
                                refine pw_vret dX8_next_403 rfl ?_
                                rw [hq, hT, hV, hEr]
                              · skip
                                exact absurd c_162 c_201
                          · skip
                            have k9 : k < 9 := (nI_ltI (b := 9) (by omega) (by decide)).mp (Int32.not_le.mp c_172)
                            refine pw_iconst (v := 2) dX8_next_175 rfl ?_
                            refine pw_goto (tgt := 195) dX8_next_176 (by decide) ?_
                            refine pw_top (y := tkW k) (by unfold tkW; rw [if_neg k3, if_pos k9]) ?_
                            refine pw_putI dX8_next_195 fa_X8_107 rfl ?_
                            refine pw_mem t_26 ?_
                            refine pw_aload_n dX8_next_198 rfl rfl ?_
                            refine pw_iload_n dX8_next_199 rfl rfl ?_
                            refine pw_iconst (v := 3) dX8_next_200 rfl ?_
                            refine pw_icmp_ge (tgt := 208) dX8_next_201 (by decide) (fun c_201 => ?_) (fun c_201 => ?_)
                            · skip
                              refine pw_iload_n dX8_next_208 rfl rfl ?_
                              refine pw_iconst (v := 3) dX8_next_209 rfl ?_
                              refine pw_isub dX8_next_210 ?_
                              refine pw_top (y := vlW k) (by unfold vlW; rw [if_neg k3]; rfl) ?_
                              refine pw_putI dX8_next_211 fa_X8_110 rfl ?_
                              refine pw_mem t_27 ?_
                              refine pw_goto (tgt := 403) dX8_next_214 (by decide) ?_
                              skip
                              refine pw_vret dX8_next_403 rfl ?_
                              rw [hq, hT, hV, hEr]
                            · skip
                              exact absurd c_162 c_201
                        · skip
                          have k3 : k < 3 := (nI_ltI (b := 3) (by omega) (by decide)).mp (Int32.not_le.mp c_162)
                          refine pw_iconst (v := 3) dX8_next_165 rfl ?_
                          refine pw_goto (tgt := 195) dX8_next_166 (by decide) ?_
                          refine pw_top (y := tkW k) (by unfold tkW; rw [if_pos k3]) ?_
                          refine pw_putI dX8_next_195 fa_X8_107 rfl ?_
                          refine pw_mem t_26 ?_
                          refine pw_aload_n dX8_next_198 rfl rfl ?_
                          refine pw_iload_n dX8_next_199 rfl rfl ?_
                          refine pw_iconst (v := 3) dX8_next_200 rfl ?_
                          refine pw_icmp_ge (tgt := 208) dX8_next_201 (by decide) (fun c_201 => ?_) (fun c_201 => ?_)
                          · skip
                            exact absurd c_201 c_162
                          · skip
                            refine pw_iload_n dX8_next_204 rfl rfl ?_
                            refine pw_goto (tgt := 211) dX8_next_205 (by decide) ?_
                            refine pw_top (y := vlW k) (by unfold vlW; rw [if_pos k3]) ?_
                            refine pw_putI dX8_next_211 fa_X8_110 rfl ?_
                            refine pw_mem t_27 ?_
                            refine pw_goto (tgt := 403) dX8_next_214 (by decide) ?_
                            skip
                            refine pw_vret dX8_next_403 rfl ?_
                            rw [hq, hT, hV, hEr]
                      · skip
                        have hb_130 := b2_n c_130
                        skip
                        refine pw_aload_n dX8_next_133 rfl rfl ?_
                        refine pw_dup dX8_next_134 rfl ?_
                        refine pw_getI dX8_next_135 fa_X8_101 rfl ?_
                        refine pw_top (y := nI r) rfl ?_
                        refine pw_iconst (v := 1) dX8_next_138 rfl ?_
                        refine pw_iadd dX8_next_139 ?_
                        refine pw_top (y := nI (r + 1)) (nI_1 r) ?_
                        refine pw_putI dX8_next_140 fa_X8_101 rfl ?_
                        refine pw_mem t_24 ?_
                        refine pw_goto (tgt := 103) dX8_next_143 (by decide) ?_
                        refine pw_sub [0, 1] rfl ?_
                        exact ih_103 (r + 1) (by omega) hltr (by rw [← hr]; exact (sw_n hltr hb_130).symm) (by omega)
                refine pw_sub [1, 0] rfl ?_
                exact L_103 (n + 1) p (Nat.le_refl _) (by omega) rfl (by omega)
            · skip
              have hqn : p = n := (nI_eq (by omega) (by omega)).mp c_78
              refine pw_vret dX8_next_81 rfl ?_
              rw [hq]
              unfold nxE nxT nxV
              rw [if_pos hqn, if_pos hqn, if_pos hqn]
          · skip
            have hw : μ.1 6 p = 32 ∨ μ.1 6 p = 10 := Or.inr c_36
            rw [if_pos hw] at hx2
            refine pw_aload_n dX8_next_39 rfl rfl ?_
            refine pw_dup dX8_next_40 rfl ?_
            refine pw_getI dX8_next_41 fa_X8_101 rfl ?_
            refine pw_top (y := nI p) rfl ?_
            refine pw_iconst (v := 1) dX8_next_44 rfl ?_
            refine pw_iadd dX8_next_45 ?_
            refine pw_top (y := nI (p + 1)) (nI_1 p) ?_
            refine pw_putI dX8_next_46 fa_X8_101 rfl ?_
            refine pw_mem t_24 ?_
            refine pw_goto (tgt := 0) dX8_next_49 (by decide) ?_
            refine pw_sub [0] rfl ?_
            exact ih_0 (p + 1) hlt hx2 (by omega)
  refine pw_sub [0] rfl ?_
  exact L_0 (n + 1) p0 hp rfl (by omega)

