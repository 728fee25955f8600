def rnM (μ : PM) (s : Nat) (so n : Int32) : PM := sr (si (si μ 10 s so) 11 s n) 12 (zfF (μ.1 12) s 40)
def shM (μ : PM) (s so n : Int32) : PM := if inF s 0 3 && inF so (-1) 2 then (if so = -1 then rnM μ (cl s) so 0 else if n ≤ 40 then (if 0 ≤ n then rnM μ (cl s) so n else μ) else μ) else μ
def ceM (μ : PM) (s i v : Int32) : PM := if cellX (μ.1 10) (μ.1 11) s i = 1 then si μ 12 (40 * cl s + cl i) (narF (μ.1 10 (cl s)) v) else μ
def cpM (μ : PM) (s i o j n : Int32) : PM := if copyX (μ.1 10) (μ.1 11) s i o j n < 0 then μ else sr μ 12 (va_cpy (μ.1 12) (μ.1 12) (40 * cl s + cl i) (40 * cl o + cl j) (cl n))
def shOM (μ : PM) : Prop := ∀ s, s < 4 → ∃ z, z ≤ 40 ∧ μ.1 11 s = nI z
theorem m_12' {μ : PM} {V : VW} {nm sk st : Nat → Int32} {sn v : Int32} {j : Nat} {f : Nat → Int32} : si (mm (sr μ 12 f) V nm sk st sn) 12 j v = mm (sr μ 12 (upd f j v)) V nm sk st sn := by
  rw [m_12, si_sr]
theorem cpy_f (c : Nat → Int32) {a b k : Nat} (h : b ≤ a) : upd (va_cpy c c a b k) (b + k) (va_cpy c c a b k (a + k)) = va_cpy c c a b (k + 1) := by
  funext x
  have e : va_cpy c c a b k (a + k) = c (a + k) := if_neg (by omega)
  rw [e]
  by_cases q : x = b + k
  · subst q
    rw [upd_s]
    unfold va_cpy
    rw [if_pos (by omega), show a + (b + k - b) = a + k by omega]
  · rw [upd_o _ _ q]
    unfold va_cpy
    by_cases w : b ≤ x ∧ x < b + k
    · rw [if_pos w, if_pos (by omega)]
    · rw [if_neg w, if_neg (by omega)]
theorem cpy_b (c : Nat → Int32) {a b m k : Nat} (h : a < b) : upd (va_cpy c c (a + (m + 1)) (b + (m + 1)) k) (b + m) (va_cpy c c (a + (m + 1)) (b + (m + 1)) k (a + m)) = va_cpy c c (a + m) (b + m) (k + 1) := by
  funext x
  have e : va_cpy c c (a + (m + 1)) (b + (m + 1)) k (a + m) = c (a + m) := if_neg (by omega)
  rw [e]
  by_cases q : x = b + m
  · subst q
    rw [upd_s]
    unfold va_cpy
    rw [if_pos (by omega), show a + m + (b + m - (b + m)) = a + m by omega]
  · rw [upd_o _ _ q]
    unfold va_cpy
    by_cases w : b + (m + 1) ≤ x ∧ x < b + (m + 1) + k
    · rw [if_pos w, if_pos (by omega), show a + m + (x - (b + m)) = a + (m + 1) + (x - (b + (m + 1))) by omega]
    · rw [if_neg w, if_neg (by omega)]
theorem cpy_0 (c : Nat → Int32) {a b : Nat} : va_cpy c c a b 0 = c := funext fun x => if_neg (by omega)
theorem runN {A z : Nat} (hA : A < 2 ^ 31) (hz : z ≤ 40) : runF (nI A) 2 (nI z) = decide (A + 2 ≤ z) := by
  unfold runF
  rw [decide_eq_true (show (0 : Int32) ≤ 2 by decide), decide_eq_true (nI_pos' hA)]
  by_cases h : A ≤ z
  · rw [decide_eq_true (nI_le h (by omega)), sub_nI h]
    by_cases q : A + 2 ≤ z
    · rw [decide_eq_true q, decide_eq_true (show (2 : Int32) ≤ nI (z - A) from nI_le (a := 2) (by omega) (by omega))]; rfl
    · rw [decide_eq_false q, decide_eq_false (show ¬ (2 : Int32) ≤ nI (z - A) from fun g => absurd ((nI_leI (a := 2) (b := z - A) (by decide) (by omega)).mp g) (by omega))]; rfl
  · rw [decide_eq_false (show ¬ nI A ≤ nI z from fun g => absurd ((nI_leI hA (by omega)).mp g) h), decide_eq_false (show ¬ A + 2 ≤ z by omega)]; rfl
theorem z2_lt {A z : Nat} (hA : A < 2 ^ 31) (hz : z ≤ 40) : nI z - 2 < nI A ↔ ¬ A + 2 ≤ z := by
  rcases Nat.lt_or_ge z 2 with q | q
  · have : z = 0 ∨ z = 1 := by omega
    rcases this with e | e
    · subst e
      exact ⟨fun _ => by omega, fun _ => Int32.lt_of_lt_of_le (by decide) (nI_pos' hA)⟩
    · subst e
      exact ⟨fun _ => by omega, fun _ => Int32.lt_of_lt_of_le (by decide) (nI_pos' hA)⟩
  · rw [show nI z - 2 = nI (z - 2) from sub_nI (a := 2) q, nI_ltI (by omega) hA]
    omega
def jbLM (ce : Nat → Int32) (s z : Nat) : Nat → Int32 → VW → Nat → Nat → Int32 × VW
  | 0, _, V, _, c => (nI c, V)
  | m + 1, pl, V, n, c => if runF pl 2 (nI z) then jbLM ce s z m (pl + 2) (jokeV V n (numF ce s z pl) (numF ce s z (pl + 1))) (jnN n (numF ce s z pl) (numF ce s z (pl + 1))) (if aJx n (numF ce s z pl) (numF ce s z (pl + 1)) < 0 then c else c + 1) else (-12, V)
def jbFM (V : VW) (so sz ce : Nat → Int32) (nj : Nat) (s sort pl n : Int32) : Int32 × VW := if inF s 0 3 && (inF sort 0 2 && inF n 0 5) then (if so (cl s) = -1 then (-11, V) else if so (cl s) = sort then jbLM ce (cl s) (cl (sz (cl s))) (cl n) pl V nj 0 else (-13, V)) else (-2, V)
theorem jokeV_1 {V : VW} {n : Nat} {a b : Int32} (h : V 0 1 = nI n) : jokeV V n a b 0 1 = nI (jnN n a b) := by
  unfold jokeV jnN
  by_cases e : aJok a b = true
  · rw [if_pos e, if_pos e]
    by_cases q : n < 5
    · rw [if_pos q, if_pos q]; rfl
    · rw [if_neg q, if_neg q]; exact h
  · rw [if_neg e, if_neg e]; exact h
def imP (V : VW) (f : Nat → Int32) (a b c : Nat) : Nat → Int32 := fun k => if k < 5 then (if k < a then V 3 k else f k) else if k < 35 then (if k < 5 + b then hl V (k - 5) else f k) else if k < 35 + c then V 9 (k - 35) else f k
theorem imP_0 (V : VW) (f : Nat → Int32) : imP V f 0 0 0 = f := by
  funext k
  unfold imP
  by_cases h1 : k < 5
  · rw [if_pos h1, if_neg (by omega)]
  · rw [if_neg h1]
    by_cases h2 : k < 35
    · rw [if_pos h2, if_neg (by omega)]
    · rw [if_neg h2, if_neg (by omega)]
theorem imP_a (V : VW) (f : Nat → Int32) {a : Nat} (h : a < 5) : upd (imP V f a 0 0) a (V 3 a) = imP V f (a + 1) 0 0 := by
  funext k
  by_cases q : k = a
  · subst q
    rw [upd_s]
    unfold imP
    rw [if_pos h, if_pos (by omega)]
  · rw [upd_o _ _ q]
    unfold imP
    by_cases h1 : k < 5
    · rw [if_pos h1, if_pos h1]
      by_cases w : k < a
      · rw [if_pos w, if_pos (by omega)]
      · rw [if_neg w, if_neg (by omega)]
    · simp only [h1, if_false]
theorem imP_b (V : VW) (f : Nat → Int32) {a b : Nat} (h : b < 30) : upd (imP V f a b 0) (5 + b) (hl V b) = imP V f a (b + 1) 0 := by
  funext k
  by_cases q : k = 5 + b
  · subst q
    rw [upd_s]
    unfold imP
    rw [if_neg (by omega), if_pos (by omega), if_pos (by omega), show 5 + b - 5 = b by omega]
  · rw [upd_o _ _ q]
    unfold imP
    by_cases h1 : k < 5
    · rw [if_pos h1, if_pos h1]
    · rw [if_neg h1, if_neg h1]
      by_cases h2 : k < 35
      · rw [if_pos h2, if_pos h2]
        by_cases w : k < 5 + b
        · rw [if_pos w, if_pos (by omega)]
        · rw [if_neg w, if_neg (by omega)]
      · simp only [h2, if_false]
theorem imP_c (V : VW) (f : Nat → Int32) {a b c : Nat} (h : c < 16) : upd (imP V f a b c) (35 + c) (V 9 c) = imP V f a b (c + 1) := by
  funext k
  by_cases q : k = 35 + c
  · subst q
    rw [upd_s]
    unfold imP
    rw [if_neg (by omega), if_neg (by omega), if_pos (by omega), show 35 + c - 35 = c by omega]
  · rw [upd_o _ _ q]
    unfold imP
    by_cases h1 : k < 5
    · rw [if_pos h1, if_pos h1]
    · rw [if_neg h1, if_neg h1]
      by_cases h2 : k < 35
      · rw [if_pos h2, if_pos h2]
      · rw [if_neg h2, if_neg h2]
        by_cases w : k < 35 + c
        · rw [if_pos w, if_pos (by omega)]
        · rw [if_neg w, if_neg (by omega)]
theorem m_9' {μ : PM} {V : VW} {nm sk st : Nat → Int32} {sn v : Int32} {j : Nat} {f : Nat → Int32} : si (mm (sr μ 9 f) V nm sk st sn) 9 j v = mm (sr μ 9 (upd f j v)) V nm sk st sn := by
  rw [m_9, si_sr]
def imH (μ : PM) (V : VW) : PM := si (si (si (si (si μ 0 14 1) 0 15 (V 0 1)) 0 16 (V 0 5)) 0 17 (V 0 12)) 0 18 (V 0 13)
def bkR (R : Nat → Int32) (V : VW) (a b c : Nat) : VW := fun r j => if r = 3 then (if j < a then R j else V 3 j) else if 4 ≤ r ∧ r ≤ 8 then (if 5 * j + (r - 4) < b then R (5 + (5 * j + (r - 4))) else V r j) else if r = 9 then (if j < c then R (35 + j) else V 9 j) else V r j
theorem bkR_0 (R : Nat → Int32) (V : VW) : bkR R V 0 0 0 = V := by
  funext r j
  unfold bkR
  by_cases h3 : r = 3
  · rw [if_pos h3, if_neg (by omega), h3]
  · rw [if_neg h3]
    by_cases h4 : 4 ≤ r ∧ r ≤ 8
    · rw [if_pos h4, if_neg (by omega)]
    · rw [if_neg h4]
      by_cases h9 : r = 9
      · rw [if_pos h9, if_neg (by omega), h9]
      · rw [if_neg h9]
theorem bkR_a (R : Nat → Int32) (V : VW) {a b c : Nat} : vu (bkR R V a b c) 3 a (R a) = bkR R V (a + 1) b c := by
  funext r j
  rw [vu_at]
  by_cases h3 : r = 3
  · subst h3
    rw [if_pos rfl]
    unfold bkR
    rw [if_pos rfl, if_pos rfl]
    by_cases q : j = a
    · subst q; rw [if_pos rfl, if_pos (by omega)]
    · rw [if_neg q]
      by_cases w : j < a
      · rw [if_pos w, if_pos (by omega)]
      · rw [if_neg w, if_neg (by omega)]
  · rw [if_neg h3]
    unfold bkR
    rw [if_neg h3, if_neg h3]
theorem bkR_b (R : Nat → Int32) (V : VW) {a b c : Nat} : vu (bkR R V a b c) (4 + b % 5) (b / 5) (R (5 + b)) = bkR R V a (b + 1) c := by
  funext r j
  rw [vu_at]
  unfold bkR
  by_cases h3 : r = 3
  · rw [if_neg (by omega), if_pos h3, if_pos h3]
  · rw [if_neg h3, if_neg h3]
    by_cases h4 : 4 ≤ r ∧ r ≤ 8
    · rw [if_pos h4, if_pos h4]
      by_cases q : r = 4 + b % 5
      · rw [if_pos q]
        by_cases w : j = b / 5
        · rw [if_pos w, if_pos (by omega), show 5 * j + (r - 4) = b by omega]
        · rw [if_neg w, if_neg (by omega), if_pos (by omega)]
          by_cases u : 5 * j + (r - 4) < b
          · rw [if_pos (by omega), if_pos (by omega), q]
          · rw [if_neg (by omega), if_neg (by omega), q]
      · rw [if_neg q]
        by_cases u : 5 * j + (r - 4) < b
        · rw [if_pos u, if_pos (by omega)]
        · rw [if_neg u, if_neg (by omega)]
    · rw [if_neg h4, if_neg h4, if_neg (by omega)]
theorem bkR_c (R : Nat → Int32) (V : VW) {a b c : Nat} : vu (bkR R V a b c) 9 c (R (35 + c)) = bkR R V a b (c + 1) := by
  funext r j
  rw [vu_at]
  unfold bkR
  by_cases h9 : r = 9
  · subst h9
    have e3 : ¬ (9 : Nat) = 3 := by decide
    have e4 : ¬ (4 ≤ 9 ∧ (9 : Nat) ≤ 8) := by decide
    simp only [e3, e4, if_false, if_true]
    by_cases q : j = c
    · subst q
      rw [if_pos rfl, if_pos (Nat.lt_succ_self j)]
    · rw [if_neg q]
      by_cases w : j < c
      · rw [if_pos w, if_pos (Nat.lt_succ_of_lt w)]
      · rw [if_neg w, if_neg (show ¬ j < c + 1 by omega)]
  · rw [if_neg h9]
    by_cases h3 : r = 3
    · rw [if_pos h3, if_pos h3]
    · rw [if_neg h3, if_neg h3]
      by_cases h4 : 4 ≤ r ∧ r ≤ 8
      · rw [if_pos h4, if_pos h4]
      · rw [if_neg h4, if_neg h4, if_neg h9, if_neg h9]
def bkV0 (μ : PM) (V : VW) : VW := vu (vu (vu (vu V 0 1 (μ.1 0 15)) 0 5 (μ.1 0 16)) 0 12 (μ.1 0 17)) 0 13 (μ.1 0 18)
def bkV (μ : PM) (V : VW) : VW := bkR (μ.1 9) (bkV0 μ V) 5 30 16
def fiC (B : BK) (V : VW) (f : Nat → Int32) (s h nj k : Nat) : Nat → Int32 := fun x => if 40 * s ≤ x ∧ x < 40 * s + k then (if x - 40 * s < nj then yF B V (x - 40 * s) h else 0) else f x
theorem fiC_0 {B : BK} {V : VW} {f : Nat → Int32} {s h nj : Nat} : fiC B V f s h nj 0 = f := funext fun x => if_neg (by omega)
theorem fiC_s {B : BK} {V : VW} {f : Nat → Int32} {s h nj k : Nat} {v : Int32} (hv : v = if k < nj then yF B V k h else 0) : upd (fiC B V f s h nj k) (40 * s + k) v = fiC B V f s h nj (k + 1) := by
  funext x
  by_cases q : x = 40 * s + k
  · subst q
    rw [upd_s, hv]
    unfold fiC
    rw [if_pos (show 40 * s ≤ 40 * s + k ∧ 40 * s + k < 40 * s + (k + 1) by omega), Nat.add_sub_cancel_left]
  · rw [upd_o _ _ q]
    unfold fiC
    by_cases w : 40 * s ≤ x ∧ x < 40 * s + k
    · rw [if_pos w, if_pos (show 40 * s ≤ x ∧ x < 40 * s + (k + 1) by omega)]
    · rw [if_neg w, if_neg (show ¬ (40 * s ≤ x ∧ x < 40 * s + (k + 1)) by omega)]
def fiM (B : BK) (μ : PM) (V : VW) (nj : Nat) (s h : Int32) : PM := if inF s 0 3 then (if hrF V h then sr (si (si μ 10 (cl s) 0) 11 (cl s) (nI nj)) 12 (fiC B V (μ.1 12) (cl s) (cl h) nj 40) else μ) else μ
theorem cl5 {k : Nat} (h : k < 5) : boundF (nI k) 0 4 = nI k := by
  unfold boundF
  rw [if_neg (nI_pos (by omega)), if_neg (show ¬ (4 : Int32) < nI k from nI_nlt (b := k) (a := 4) (by omega) (by decide))]
theorem ifc5 (x : Nat → Int32) (k : Nat) : 5 * (k / 5) + k % 5 = k := by omega
set_option maxHeartbeats 4000000 in
set_option maxRecDepth 100000 in
theorem T_X8_sheet {l : Launch} {μ : PM} {V : VW} {nm sk st : Nat → Int32} {sn : Int32} {s so n : Int32} : CT l SM yX8_sheet cX8_sheet 5 (some .int) 3 [.ref 0, .int s, .int so, .int n] (mm μ V nm sk st sn) (QI fun x m => x = sheetX s so n ∧ m = mm (shM μ s so n) V nm sk st sn) := by
  refine CT.of rfl (Nat.le_of_ble_eq_true rfl) ?_
  show PW l SM RX8 cX8_sheet 5 (some .int) 3 _ 0 [(0, .ref 0), (1, .int s), (2, .int so), (3, .int n)] [] (mm μ V nm sk st sn)
  refine pw_iload_n dX8_sheet_0 rfl rfl ?_
  refine pw_iconst (v := 0) dX8_sheet_1 rfl ?_
  refine pw_iconst (v := 3) dX8_sheet_2 rfl ?_
  refine pw_cSi dX8_sheet_3 ms_X8_78 T_X8_in rfl rfl (Nat.le_of_ble_eq_true rfl) (by decide) (fun x_3 m_3 h_3 => ?_)
  obtain ⟨rfl, rfl⟩ := h_3
  refine pw_if_eq (tgt := 29) dX8_sheet_6 (by decide) (fun c_6 => ?_) (fun c_6 => ?_)
  · skip
    have hb_6 := b2_0 c_6
    refine pw_bipush (v := (-2)) dX8_sheet_29 rfl ?_
    refine pw_iret dX8_sheet_31 rfl ?_
    exact ⟨by unfold sheetX; rw [hb_6]; rfl, by unfold shM; rw [hb_6]; rfl⟩
  · skip
    have hb_6 := b2_n c_6
    refine pw_iload_n dX8_sheet_9 rfl rfl ?_
    refine pw_iconst (v := (-1)) dX8_sheet_10 rfl ?_
    refine pw_iconst (v := 2) dX8_sheet_11 rfl ?_
    refine pw_cSi dX8_sheet_12 ms_X8_78 T_X8_in rfl rfl (Nat.le_of_ble_eq_true rfl) (by decide) (fun x_12 m_12 h_12 => ?_)
    obtain ⟨rfl, rfl⟩ := h_12
    refine pw_if_eq (tgt := 29) dX8_sheet_15 (by decide) (fun c_15 => ?_) (fun c_15 => ?_)
    · skip
      have hb_15 := b2_0 c_15
      refine pw_bipush (v := (-2)) dX8_sheet_29 rfl ?_
      refine pw_iret dX8_sheet_31 rfl ?_
      exact ⟨by unfold sheetX; rw [hb_6, hb_15]; rfl, by unfold shM; rw [hb_6, hb_15]; rfl⟩
    · skip
      have hb_15 := b2_n c_15
      refine pw_iload_n dX8_sheet_18 rfl rfl ?_
      refine pw_iconst (v := (-1)) dX8_sheet_19 rfl ?_
      refine pw_icmp_eq (tgt := 32) dX8_sheet_20 (by decide) (fun c_20 => ?_) (fun c_20 => ?_)
      · skip
        refine pw_iload_n dX8_sheet_32 rfl rfl ?_
        refine pw_iconst (v := (-1)) dX8_sheet_33 rfl ?_
        refine pw_icmp_eq (tgt := 44) dX8_sheet_34 (by decide) (fun c_34 => ?_) (fun c_34 => ?_)
        · skip
          obtain ⟨s, hs4, rfl⟩ := is_sh hb_6
          refine pw_aload_n dX8_sheet_44 rfl rfl ?_
          refine pw_getR dX8_sheet_45 fa_X8_37 rfl ?_
          refine pw_iload_n dX8_sheet_48 rfl rfl ?_
          refine pw_iload_n dX8_sheet_49 rfl rfl ?_
          refine pw_iast (j := s) dX8_sheet_50 rfl rfl (by omega) ?_
          refine pw_mem m_10 ?_
          refine pw_aload_n dX8_sheet_51 rfl rfl ?_
          refine pw_getR dX8_sheet_52 fa_X8_40 rfl ?_
          refine pw_iload_n dX8_sheet_55 rfl rfl ?_
          refine pw_iload_n dX8_sheet_56 rfl rfl ?_
          refine pw_iconst (v := (-1)) dX8_sheet_57 rfl ?_
          refine pw_icmp_ne (tgt := 65) dX8_sheet_58 (by decide) (fun c_58 => ?_) (fun c_58 => ?_)
          · skip
            exact absurd c_20 c_58
          · skip
            refine pw_iconst (v := 0) dX8_sheet_61 rfl ?_
            refine pw_goto (tgt := 66) dX8_sheet_62 (by decide) ?_
            refine pw_iast (j := s) dX8_sheet_66 rfl rfl (by omega) ?_
            refine pw_mem m_11 ?_
            refine pw_iconst (v := 0) dX8_sheet_67 rfl ?_
            refine pw_istore (ls2 := [(4, _), (0, _), (1, _), (2, _), (3, _)]) dX8_sheet_68 (by decide) rfl ?_
            have L_70 : ∀ (fu_70 : Nat) (k : Nat) (nn : Int32), (k ≤ 40) → (shM μ (nI s) so n = rnM μ s so nn ∧ sheetX (nI s) so n = 1) → 40 - k < fu_70 → PW l SM RX8 cX8_sheet 5 (some .int) 3 (QI fun x m => x = sheetX (nI s) so n ∧ m = mm (shM μ (nI s) so n) V nm sk st sn) 70 [(0, .ref 0), (1, .int (nI s)), (2, .int so), (3, .int n), (4, .int (nI k))] [] (mm (sr (si (si μ 10 s so) 11 s nn) 12 (zfF (μ.1 12) s k)) V nm sk st sn) := by
              intro fu_70
              induction fu_70 with
              | zero =>
                intro k nn hk hx hm_70
                exact absurd hm_70 (Nat.not_lt_zero _)
              | succ fu_70 ih_70 =>
                intro k nn hk hx hm_70
                refine pw_iload dX8_sheet_70 rfl ?_
                refine pw_bipush (v := 40) dX8_sheet_72 rfl ?_
                refine pw_icmp_ge (tgt := 96) dX8_sheet_74 (by decide) (fun c_74 => ?_) (fun c_74 => ?_)
                · skip
                  have hge := nI_geD (n := 40) (by decide) c_74
                  refine pw_iconst (v := 1) dX8_sheet_96 rfl ?_
                  refine pw_iret dX8_sheet_97 rfl ?_
                  have ek : k = 40 := by omega
                  subst ek
                  exact ⟨hx.2.symm, by rw [hx.1]; rfl⟩
                · skip
                  have hlt := nI_ltD (n := 40) (by omega) c_74
                  refine pw_aload_n dX8_sheet_77 rfl rfl ?_
                  refine pw_getR dX8_sheet_78 fa_X8_43 rfl ?_
                  refine pw_bipush (v := 40) dX8_sheet_81 rfl ?_
                  refine pw_iload_n dX8_sheet_83 rfl rfl ?_
                  refine pw_imul dX8_sheet_84 ?_
                  refine pw_iload dX8_sheet_85 rfl ?_
                  refine pw_iadd dX8_sheet_87 ?_
                  refine pw_iconst (v := 0) dX8_sheet_88 rfl ?_
                  refine pw_iast (j := 40 * s + k) dX8_sheet_89 rfl (by show nI 40 * nI s + nI k = _; rw [pk_mul, nI_add]) (by omega) ?_
                  refine pw_mem m_12' ?_
                  rw [zfF_s]
                  refine pw_iinc (ls2 := [(4, _), (0, _), (1, _), (2, _), (3, _)]) (v := nI (k + 1)) dX8_sheet_90 rfl (inc1 k) (by decide) rfl ?_
                  refine pw_goto (tgt := 70) dX8_sheet_93 (by decide) ?_
                  refine pw_sub [1, 2, 3, 4, 0] rfl ?_
                  exact ih_70 (k + 1) nn hlt hx (by omega)
            refine pw_sub [1, 2, 3, 4, 0] rfl ?_
            have hL0 := L_70 41 0 0 (Nat.zero_le _) ⟨by unfold shM; rw [show inF (nI s) 0 3 = true from hb_6, hb_15, Bool.and_self, if_pos rfl, if_pos c_20, cl_nI (by omega)], by unfold sheetX; rw [show inF (nI s) 0 3 = true from hb_6, hb_15, Bool.and_self, if_pos rfl, if_pos c_20]⟩ (by omega)
            rw [zfF_0, show sr (si (si μ 10 s so) 11 s 0) 12 (μ.1 12) = si (si μ 10 s so) 11 s 0 from sr_self (μ := si (si μ 10 s so) 11 s 0) (c := 12)] at hL0
            exact hL0
        · skip
          exact absurd c_20 c_34
      · skip
        refine pw_iload_n dX8_sheet_23 rfl rfl ?_
        refine pw_bipush (v := 40) dX8_sheet_24 rfl ?_
        refine pw_icmp_le (tgt := 32) dX8_sheet_26 (by decide) (fun c_26 => ?_) (fun c_26 => ?_)
        · skip
          refine pw_iload_n dX8_sheet_32 rfl rfl ?_
          refine pw_iconst (v := (-1)) dX8_sheet_33 rfl ?_
          refine pw_icmp_eq (tgt := 44) dX8_sheet_34 (by decide) (fun c_34 => ?_) (fun c_34 => ?_)
          · skip
            exact absurd c_34 c_20
          · skip
            refine pw_iload_n dX8_sheet_37 rfl rfl ?_
            refine pw_if_ge (tgt := 44) dX8_sheet_38 (by decide) (fun c_38 => ?_) (fun c_38 => ?_)
            · skip
              obtain ⟨s, hs4, rfl⟩ := is_sh hb_6
              refine pw_aload_n dX8_sheet_44 rfl rfl ?_
              refine pw_getR dX8_sheet_45 fa_X8_37 rfl ?_
              refine pw_iload_n dX8_sheet_48 rfl rfl ?_
              refine pw_iload_n dX8_sheet_49 rfl rfl ?_
              refine pw_iast (j := s) dX8_sheet_50 rfl rfl (by omega) ?_
              refine pw_mem m_10 ?_
              refine pw_aload_n dX8_sheet_51 rfl rfl ?_
              refine pw_getR dX8_sheet_52 fa_X8_40 rfl ?_
              refine pw_iload_n dX8_sheet_55 rfl rfl ?_
              refine pw_iload_n dX8_sheet_56 rfl rfl ?_
              refine pw_iconst (v := (-1)) dX8_sheet_57 rfl ?_
              refine pw_icmp_ne (tgt := 65) dX8_sheet_58 (by decide) (fun c_58 => ?_) (fun c_58 => ?_)
              · skip
                refine pw_iload_n dX8_sheet_65 rfl rfl ?_
                refine pw_iast (j := s) dX8_sheet_66 rfl rfl (by omega) ?_
                refine pw_mem m_11 ?_
                refine pw_iconst (v := 0) dX8_sheet_67 rfl ?_
                refine pw_istore (ls2 := [(4, _), (0, _), (1, _), (2, _), (3, _)]) dX8_sheet_68 (by decide) rfl ?_
                have L_70 : ∀ (fu_70 : Nat) (k : Nat) (nn : Int32), (k ≤ 40) → (shM μ (nI s) so n = rnM μ s so nn ∧ sheetX (nI s) so n = 1) → 40 - k < fu_70 → PW l SM RX8 cX8_sheet 5 (some .int) 3 (QI fun x m => x = sheetX (nI s) so n ∧ m = mm (shM μ (nI s) so n) V nm sk st sn) 70 [(0, .ref 0), (1, .int (nI s)), (2, .int so), (3, .int n), (4, .int (nI k))] [] (mm (sr (si (si μ 10 s so) 11 s nn) 12 (zfF (μ.1 12) s k)) V nm sk st sn) := by
                  intro fu_70
                  induction fu_70 with
                  | zero =>
                    intro k nn hk hx hm_70
                    exact absurd hm_70 (Nat.not_lt_zero _)
                  | succ fu_70 ih_70 =>
                    intro k nn hk hx hm_70
                    refine pw_iload dX8_sheet_70 rfl ?_
                    refine pw_bipush (v := 40) dX8_sheet_72 rfl ?_
                    refine pw_icmp_ge (tgt := 96) dX8_sheet_74 (by decide) (fun c_74 => ?_) (fun c_74 => ?_)
                    · skip
                      have hge := nI_geD (n := 40) (by decide) c_74
                      refine pw_iconst (v := 1) dX8_sheet_96 rfl ?_
                      refine pw_iret dX8_sheet_97 rfl ?_
                      have ek : k = 40 := by omega
                      subst ek
                      exact ⟨hx.2.symm, by rw [hx.1]; rfl⟩
                    · skip
                      have hlt := nI_ltD (n := 40) (by omega) c_74
                      refine pw_aload_n dX8_sheet_77 rfl rfl ?_
                      refine pw_getR dX8_sheet_78 fa_X8_43 rfl ?_
                      refine pw_bipush (v := 40) dX8_sheet_81 rfl ?_
                      refine pw_iload_n dX8_sheet_83 rfl rfl ?_
                      refine pw_imul dX8_sheet_84 ?_
                      refine pw_iload dX8_sheet_85 rfl ?_
                      refine pw_iadd dX8_sheet_87 ?_
                      refine pw_iconst (v := 0) dX8_sheet_88 rfl ?_
                      refine pw_iast (j := 40 * s + k) dX8_sheet_89 rfl (by show nI 40 * nI s + nI k = _; rw [pk_mul, nI_add]) (by omega) ?_
                      refine pw_mem m_12' ?_
                      rw [zfF_s]
                      refine pw_iinc (ls2 := [(4, _), (0, _), (1, _), (2, _), (3, _)]) (v := nI (k + 1)) dX8_sheet_90 rfl (inc1 k) (by decide) rfl ?_
                      refine pw_goto (tgt := 70) dX8_sheet_93 (by decide) ?_
                      refine pw_sub [1, 2, 3, 4, 0] rfl ?_
                      exact ih_70 (k + 1) nn hlt hx (by omega)
                refine pw_sub [1, 2, 3, 4, 0] rfl ?_
                have hL0 := L_70 41 0 n (Nat.zero_le _) ⟨by unfold shM; rw [show inF (nI s) 0 3 = true from hb_6, hb_15, Bool.and_self, if_pos rfl, if_neg c_20, if_pos c_26, if_pos c_38, cl_nI (by omega)], by unfold sheetX; rw [show inF (nI s) 0 3 = true from hb_6, hb_15, Bool.and_self, if_pos rfl, if_neg c_20, if_pos c_26, if_pos c_38]⟩ (by omega)
                rw [zfF_0, show sr (si (si μ 10 s so) 11 s n) 12 (μ.1 12) = si (si μ 10 s so) 11 s n from sr_self (μ := si (si μ 10 s so) 11 s n) (c := 12)] at hL0
                exact hL0
              · skip
                exact absurd c_58 c_20
            · skip
              refine pw_bipush (v := (-14)) dX8_sheet_41 rfl ?_
              refine pw_iret dX8_sheet_43 rfl ?_
              exact ⟨by unfold sheetX; rw [hb_6, hb_15, Bool.and_self, if_pos rfl, if_neg c_20, if_pos c_26, if_neg c_38], by unfold shM; rw [hb_6, hb_15, Bool.and_self, if_pos rfl, if_neg c_20, if_pos c_26, if_neg c_38]⟩
        · skip
          refine pw_bipush (v := (-2)) dX8_sheet_29 rfl ?_
          refine pw_iret dX8_sheet_31 rfl ?_
          exact ⟨by unfold sheetX; rw [hb_6, hb_15, Bool.and_self, if_pos rfl, if_neg c_20, if_neg c_26], by unfold shM; rw [hb_6, hb_15, Bool.and_self, if_pos rfl, if_neg c_20, if_neg c_26]⟩

set_option maxHeartbeats 4000000 in
set_option maxRecDepth 100000 in
theorem T_X8_cell {l : Launch} {μ : PM} {V : VW} {nm sk st : Nat → Int32} {sn : Int32} {s i v : Int32} (hsh : shOM μ) : CT l SM yX8_cell cX8_cell 4 (some .int) 3 [.ref 0, .int s, .int i, .int v] (mm μ V nm sk st sn) (QI fun x m => x = cellX (μ.1 10) (μ.1 11) s i ∧ m = mm (ceM μ s i v) V nm sk st sn) := by
  refine CT.of rfl (Nat.le_of_ble_eq_true rfl) ?_
  show PW l SM RX8 cX8_cell 4 (some .int) 3 _ 0 [(0, .ref 0), (1, .int s), (2, .int i), (3, .int v)] [] (mm μ V nm sk st sn)
  refine pw_iload_n dX8_cell_0 rfl rfl ?_
  refine pw_iconst (v := 0) dX8_cell_1 rfl ?_
  refine pw_iconst (v := 3) dX8_cell_2 rfl ?_
  refine pw_cSi dX8_cell_3 ms_X8_78 T_X8_in rfl rfl (Nat.le_of_ble_eq_true rfl) (by decide) (fun x_3 m_3 h_3 => ?_)
  obtain ⟨rfl, rfl⟩ := h_3
  refine pw_if_ne (tgt := 12) dX8_cell_6 (by decide) (fun c_6 => ?_) (fun c_6 => ?_)
  · skip
    have hb_6 := b2_n c_6
    obtain ⟨s, hs4, rfl⟩ := is_sh hb_6
    obtain ⟨z, hz40, hz⟩ := hsh s hs4
    have es : inF (nI s) 0 3 = true := hb_6
    refine pw_aload_n dX8_cell_12 rfl rfl ?_
    refine pw_getR dX8_cell_13 fa_X8_37 rfl ?_
    refine pw_iload_n dX8_cell_16 rfl rfl ?_
    refine pw_iald (j := s) dX8_cell_17 rfl rfl (by omega) ?_
    refine pw_top (y := μ.1 10 s) rfl ?_
    refine pw_iconst (v := (-1)) dX8_cell_18 rfl ?_
    refine pw_icmp_ne (tgt := 25) dX8_cell_19 (by decide) (fun c_19 => ?_) (fun c_19 => ?_)
    · skip
      refine pw_iload_n dX8_cell_25 rfl rfl ?_
      refine pw_iconst (v := 0) dX8_cell_26 rfl ?_
      refine pw_aload_n dX8_cell_27 rfl rfl ?_
      refine pw_getR dX8_cell_28 fa_X8_40 rfl ?_
      refine pw_iload_n dX8_cell_31 rfl rfl ?_
      refine pw_iald (j := s) dX8_cell_32 rfl rfl (by omega) ?_
      refine pw_top (y := nI z) hz ?_
      refine pw_iconst (v := 1) dX8_cell_33 rfl ?_
      refine pw_isub dX8_cell_34 ?_
      refine pw_cSi dX8_cell_35 ms_X8_78 T_X8_in rfl rfl (Nat.le_of_ble_eq_true rfl) (by decide) (fun x_35 m_35 h_35 => ?_)
      obtain ⟨rfl, rfl⟩ := h_35
      refine pw_if_ne (tgt := 44) dX8_cell_38 (by decide) (fun c_38 => ?_) (fun c_38 => ?_)
      · skip
        have hb_38 := b2_n c_38
        obtain ⟨i, hi, rfl⟩ := in_true (n := z) hb_38 (by omega)
        refine pw_aload_n dX8_cell_44 rfl rfl ?_
        refine pw_getR dX8_cell_45 fa_X8_43 rfl ?_
        refine pw_bipush (v := 40) dX8_cell_48 rfl ?_
        refine pw_iload_n dX8_cell_50 rfl rfl ?_
        refine pw_imul dX8_cell_51 ?_
        refine pw_iload_n dX8_cell_52 rfl rfl ?_
        refine pw_iadd dX8_cell_53 ?_
        refine pw_aload_n dX8_cell_54 rfl rfl ?_
        refine pw_getR dX8_cell_55 fa_X8_37 rfl ?_
        refine pw_iload_n dX8_cell_58 rfl rfl ?_
        refine pw_iald (j := s) dX8_cell_59 rfl rfl (by omega) ?_
        refine pw_top (y := μ.1 10 s) rfl ?_
        refine pw_if_ne (tgt := 68) dX8_cell_60 (by decide) (fun c_60 => ?_) (fun c_60 => ?_)
        · skip
          refine pw_aload_n dX8_cell_68 rfl rfl ?_
          refine pw_getR dX8_cell_69 fa_X8_37 rfl ?_
          refine pw_iload_n dX8_cell_72 rfl rfl ?_
          refine pw_iald (j := s) dX8_cell_73 rfl rfl (by omega) ?_
          refine pw_top (y := μ.1 10 s) rfl ?_
          refine pw_iconst (v := 1) dX8_cell_74 rfl ?_
          refine pw_icmp_ne (tgt := 83) dX8_cell_75 (by decide) (fun c_75 => ?_) (fun c_75 => ?_)
          · skip
            refine pw_iload_n dX8_cell_83 rfl rfl ?_
            refine pw_top (y := narF (μ.1 10 s) v) (by unfold narF; rw [if_neg c_60, if_neg c_75]) ?_
            refine pw_iast (j := 40 * s + i) dX8_cell_84 rfl (by show nI 40 * nI s + nI i = _; rw [pk_mul, nI_add]) (by omega) ?_
            refine pw_mem m_12 ?_
            refine pw_iconst (v := 1) dX8_cell_85 rfl ?_
            refine pw_iret dX8_cell_86 rfl ?_
            have hc : cellX (μ.1 10) (μ.1 11) (nI s) (nI i) = 1 := by unfold cellX; rw [es, if_pos rfl, cl_nI (by omega), if_neg c_19, hz, show inF (nI i) 0 (nI z - 1) = true from hb_38]; rfl
            exact ⟨by rw [hc], by unfold ceM; rw [hc, if_pos rfl, cl_nI (by omega), cl_nI (by omega)]⟩
          · skip
            refine pw_iload_n dX8_cell_78 rfl rfl ?_
            refine pw_i2s dX8_cell_79 ?_
            refine pw_goto (tgt := 84) dX8_cell_80 (by decide) ?_
            refine pw_top (y := narF (μ.1 10 s) v) (by unfold narF; rw [if_neg c_60, if_pos c_75]) ?_
            refine pw_iast (j := 40 * s + i) dX8_cell_84 rfl (by show nI 40 * nI s + nI i = _; rw [pk_mul, nI_add]) (by omega) ?_
            refine pw_mem m_12 ?_
            refine pw_iconst (v := 1) dX8_cell_85 rfl ?_
            refine pw_iret dX8_cell_86 rfl ?_
            have hc : cellX (μ.1 10) (μ.1 11) (nI s) (nI i) = 1 := by unfold cellX; rw [es, if_pos rfl, cl_nI (by omega), if_neg c_19, hz, show inF (nI i) 0 (nI z - 1) = true from hb_38]; rfl
            exact ⟨by rw [hc], by unfold ceM; rw [hc, if_pos rfl, cl_nI (by omega), cl_nI (by omega)]⟩
        · skip
          refine pw_iload_n dX8_cell_63 rfl rfl ?_
          refine pw_i2b dX8_cell_64 ?_
          refine pw_goto (tgt := 84) dX8_cell_65 (by decide) ?_
          refine pw_top (y := narF (μ.1 10 s) v) (by unfold narF; rw [if_pos c_60]) ?_
          refine pw_iast (j := 40 * s + i) dX8_cell_84 rfl (by show nI 40 * nI s + nI i = _; rw [pk_mul, nI_add]) (by omega) ?_
          refine pw_mem m_12 ?_
          refine pw_iconst (v := 1) dX8_cell_85 rfl ?_
          refine pw_iret dX8_cell_86 rfl ?_
          have hc : cellX (μ.1 10) (μ.1 11) (nI s) (nI i) = 1 := by unfold cellX; rw [es, if_pos rfl, cl_nI (by omega), if_neg c_19, hz, show inF (nI i) 0 (nI z - 1) = true from hb_38]; rfl
          exact ⟨by rw [hc], by unfold ceM; rw [hc, if_pos rfl, cl_nI (by omega), cl_nI (by omega)]⟩
      · skip
        have hb_38 := b2_0 c_38
        refine pw_bipush (v := (-12)) dX8_cell_41 rfl ?_
        refine pw_iret dX8_cell_43 rfl ?_
        have hc : cellX (μ.1 10) (μ.1 11) (nI s) i = -12 := by unfold cellX; rw [es, if_pos rfl, cl_nI (by omega), if_neg c_19, hz, hb_38]; rfl
        exact ⟨by rw [hc], by unfold ceM; rw [hc, if_neg (by decide)]⟩
    · skip
      refine pw_bipush (v := (-11)) dX8_cell_22 rfl ?_
      refine pw_iret dX8_cell_24 rfl ?_
      have hc : cellX (μ.1 10) (μ.1 11) (nI s) i = -11 := by unfold cellX; rw [es, if_pos rfl, cl_nI (by omega), if_pos c_19]
      exact ⟨by rw [hc], by unfold ceM; rw [hc, if_neg (by decide)]⟩
  · skip
    have hb_6 := b2_0 c_6
    refine pw_bipush (v := (-2)) dX8_cell_9 rfl ?_
    refine pw_iret dX8_cell_11 rfl ?_
    have hc : cellX (μ.1 10) (μ.1 11) s i = -2 := by unfold cellX; rw [hb_6]; rfl
    exact ⟨by rw [hc], by unfold ceM; rw [hc, if_neg (by decide)]⟩

set_option maxHeartbeats 4000000 in
set_option maxRecDepth 100000 in
theorem T_X8_copy {l : Launch} {μ : PM} {V : VW} {nm sk st : Nat → Int32} {sn : Int32} {s i o j n : Int32} (hsh : shOM μ) : CT l SM yX8_copy cX8_copy 10 (some .int) 3 [.ref 0, .int s, .int i, .int o, .int j, .int n] (mm μ V nm sk st sn) (QI fun x m => x = copyX (μ.1 10) (μ.1 11) s i o j n ∧ m = mm (cpM μ s i o j n) V nm sk st sn) := by
  refine CT.of rfl (Nat.le_of_ble_eq_true rfl) ?_
  show PW l SM RX8 cX8_copy 10 (some .int) 3 _ 0 [(0, .ref 0), (1, .int s), (2, .int i), (3, .int o), (4, .int j), (5, .int n)] [] (mm μ V nm sk st sn)
  refine pw_iload_n dX8_copy_0 rfl rfl ?_
  refine pw_iconst (v := 0) dX8_copy_1 rfl ?_
  refine pw_iconst (v := 3) dX8_copy_2 rfl ?_
  refine pw_cSi dX8_copy_3 ms_X8_78 T_X8_in rfl rfl (Nat.le_of_ble_eq_true rfl) (by decide) (fun x_3 m_3 h_3 => ?_)
  obtain ⟨rfl, rfl⟩ := h_3
  refine pw_if_eq (tgt := 18) dX8_copy_6 (by decide) (fun c_6 => ?_) (fun c_6 => ?_)
  · skip
    have hb_6 := b2_0 c_6
    refine pw_bipush (v := (-2)) dX8_copy_18 rfl ?_
    refine pw_iret dX8_copy_20 rfl ?_
    have hcx0 : copyX (μ.1 10) (μ.1 11) s i o j n = -2 := by unfold copyX; rw [hb_6]; rfl
    exact ⟨by rw [hcx0], by unfold cpM; rw [hcx0, if_pos (by decide)]⟩
  · skip
    have hb_6 := b2_n c_6
    refine pw_iload_n dX8_copy_9 rfl rfl ?_
    refine pw_iconst (v := 0) dX8_copy_10 rfl ?_
    refine pw_iconst (v := 3) dX8_copy_11 rfl ?_
    refine pw_cSi dX8_copy_12 ms_X8_78 T_X8_in rfl rfl (Nat.le_of_ble_eq_true rfl) (by decide) (fun x_12 m_12 h_12 => ?_)
    obtain ⟨rfl, rfl⟩ := h_12
    refine pw_if_ne (tgt := 21) dX8_copy_15 (by decide) (fun c_15 => ?_) (fun c_15 => ?_)
    · skip
      have hb_15 := b2_n c_15
      obtain ⟨s, hs4, rfl⟩ := is_sh hb_6
      obtain ⟨o, ho4, rfl⟩ := is_sh hb_15
      obtain ⟨zs, hzs40, hzs⟩ := hsh s hs4
      obtain ⟨zo, hzo40, hzo⟩ := hsh o ho4
      have es : inF (nI s) 0 3 = true := hb_6
      have eo : inF (nI o) 0 3 = true := hb_15
      have hcx0 : copyX (μ.1 10) (μ.1 11) (nI s) i (nI o) j n = if μ.1 10 s = -1 then -11 else if μ.1 10 o = -1 then -11 else if μ.1 10 s = μ.1 10 o then (if runF i n (nI zs) && runF j n (nI zo) then n else -12) else -13 := by
        unfold copyX
        rw [es, eo, Bool.and_self, if_pos rfl, cl_nI (by omega), cl_nI (by omega), hzs, hzo]
      refine pw_aload_n dX8_copy_21 rfl rfl ?_
      refine pw_getR dX8_copy_22 fa_X8_37 rfl ?_
      refine pw_iload_n dX8_copy_25 rfl rfl ?_
      refine pw_iald (j := s) dX8_copy_26 rfl rfl (by omega) ?_
      refine pw_top (y := μ.1 10 s) rfl ?_
      refine pw_iconst (v := (-1)) dX8_copy_27 rfl ?_
      refine pw_icmp_eq (tgt := 41) dX8_copy_28 (by decide) (fun c_28 => ?_) (fun c_28 => ?_)
      · skip
        refine pw_bipush (v := (-11)) dX8_copy_41 rfl ?_
        refine pw_iret dX8_copy_43 rfl ?_
        rw [if_pos c_28] at hcx0
        exact ⟨by rw [hcx0], by unfold cpM; rw [hcx0, if_pos (by decide)]⟩
      · skip
        refine pw_aload_n dX8_copy_31 rfl rfl ?_
        refine pw_getR dX8_copy_32 fa_X8_37 rfl ?_
        refine pw_iload_n dX8_copy_35 rfl rfl ?_
        refine pw_iald (j := o) dX8_copy_36 rfl rfl (by omega) ?_
        refine pw_top (y := μ.1 10 o) rfl ?_
        refine pw_iconst (v := (-1)) dX8_copy_37 rfl ?_
        refine pw_icmp_ne (tgt := 44) dX8_copy_38 (by decide) (fun c_38 => ?_) (fun c_38 => ?_)
        · skip
          refine pw_aload_n dX8_copy_44 rfl rfl ?_
          refine pw_getR dX8_copy_45 fa_X8_37 rfl ?_
          refine pw_iload_n dX8_copy_48 rfl rfl ?_
          refine pw_iald (j := s) dX8_copy_49 rfl rfl (by omega) ?_
          refine pw_top (y := μ.1 10 s) rfl ?_
          refine pw_aload_n dX8_copy_50 rfl rfl ?_
          refine pw_getR dX8_copy_51 fa_X8_37 rfl ?_
          refine pw_iload_n dX8_copy_54 rfl rfl ?_
          refine pw_iald (j := o) dX8_copy_55 rfl rfl (by omega) ?_
          refine pw_top (y := μ.1 10 o) rfl ?_
          refine pw_icmp_eq (tgt := 62) dX8_copy_56 (by decide) (fun c_56 => ?_) (fun c_56 => ?_)
          · skip
            skip
            refine pw_iload dX8_copy_62 rfl ?_
            refine pw_if_lt (tgt := 124) dX8_copy_64 (by decide) (fun c_64 => ?_) (fun c_64 => ?_)
            · skip
              refine pw_bipush (v := (-12)) dX8_copy_124 rfl ?_
              refine pw_iret dX8_copy_126 rfl ?_
              have hrf : (runF i n (nI zs) && runF j n (nI zo)) = false := by
                unfold runF
                rw [decide_eq_false (show ¬ 0 ≤ n from Int32.not_le.mpr c_64)]
                simp only [Bool.false_and, Bool.and_false]
              rw [if_neg c_28, if_neg c_38, if_pos c_56, hrf, if_neg Bool.false_ne_true] at hcx0
              exact ⟨by rw [hcx0], by unfold cpM; rw [hcx0, if_pos (by decide)]⟩
            · skip
              refine pw_iload_n dX8_copy_67 rfl rfl ?_
              refine pw_if_lt (tgt := 124) dX8_copy_68 (by decide) (fun c_68 => ?_) (fun c_68 => ?_)
              · skip
                refine pw_bipush (v := (-12)) dX8_copy_124 rfl ?_
                refine pw_iret dX8_copy_126 rfl ?_
                have hrf : (runF i n (nI zs) && runF j n (nI zo)) = false := by
                  unfold runF
                  rw [decide_eq_false (show ¬ 0 ≤ i from Int32.not_le.mpr c_68)]
                  simp only [Bool.false_and, Bool.and_false]
                rw [if_neg c_28, if_neg c_38, if_pos c_56, hrf, if_neg Bool.false_ne_true] at hcx0
                exact ⟨by rw [hcx0], by unfold cpM; rw [hcx0, if_pos (by decide)]⟩
              · skip
                refine pw_iload dX8_copy_71 rfl ?_
                refine pw_if_lt (tgt := 124) dX8_copy_73 (by decide) (fun c_73 => ?_) (fun c_73 => ?_)
                · skip
                  refine pw_bipush (v := (-12)) dX8_copy_124 rfl ?_
                  refine pw_iret dX8_copy_126 rfl ?_
                  have hrf : (runF i n (nI zs) && runF j n (nI zo)) = false := by
                    unfold runF
                    rw [decide_eq_false (show ¬ 0 ≤ j from Int32.not_le.mpr c_73)]
                    simp only [Bool.false_and, Bool.and_false]
                  rw [if_neg c_28, if_neg c_38, if_pos c_56, hrf, if_neg Bool.false_ne_true] at hcx0
                  exact ⟨by rw [hcx0], by unfold cpM; rw [hcx0, if_pos (by decide)]⟩
                · skip
                  refine pw_iload_n dX8_copy_76 rfl rfl ?_
                  refine pw_aload_n dX8_copy_77 rfl rfl ?_
                  refine pw_getR dX8_copy_78 fa_X8_40 rfl ?_
                  refine pw_iload_n dX8_copy_81 rfl rfl ?_
                  refine pw_iald (j := s) dX8_copy_82 rfl rfl (by omega) ?_
                  refine pw_top (y := nI zs) hzs ?_
                  refine pw_icmp_gt (tgt := 124) dX8_copy_83 (by decide) (fun c_83 => ?_) (fun c_83 => ?_)
                  · skip
                    refine pw_bipush (v := (-12)) dX8_copy_124 rfl ?_
                    refine pw_iret dX8_copy_126 rfl ?_
                    have hrf : (runF i n (nI zs) && runF j n (nI zo)) = false := by
                      unfold runF
                      rw [decide_eq_false (show ¬ i ≤ nI zs from Int32.not_le.mpr c_83)]
                      simp only [Bool.false_and, Bool.and_false]
                    rw [if_neg c_28, if_neg c_38, if_pos c_56, hrf, if_neg Bool.false_ne_true] at hcx0
                    exact ⟨by rw [hcx0], by unfold cpM; rw [hcx0, if_pos (by decide)]⟩
                  · skip
                    refine pw_iload dX8_copy_86 rfl ?_
                    refine pw_aload_n dX8_copy_88 rfl rfl ?_
                    refine pw_getR dX8_copy_89 fa_X8_40 rfl ?_
                    refine pw_iload_n dX8_copy_92 rfl rfl ?_
                    refine pw_iald (j := o) dX8_copy_93 rfl rfl (by omega) ?_
                    refine pw_top (y := nI zo) hzo ?_
                    refine pw_icmp_gt (tgt := 124) dX8_copy_94 (by decide) (fun c_94 => ?_) (fun c_94 => ?_)
                    · skip
                      refine pw_bipush (v := (-12)) dX8_copy_124 rfl ?_
                      refine pw_iret dX8_copy_126 rfl ?_
                      have hrf : (runF i n (nI zs) && runF j n (nI zo)) = false := by
                        unfold runF
                        rw [decide_eq_false (show ¬ j ≤ nI zo from Int32.not_le.mpr c_94)]
                        simp only [Bool.false_and, Bool.and_false]
                      rw [if_neg c_28, if_neg c_38, if_pos c_56, hrf, if_neg Bool.false_ne_true] at hcx0
                      exact ⟨by rw [hcx0], by unfold cpM; rw [hcx0, if_pos (by decide)]⟩
                    · skip
                      refine pw_iload dX8_copy_97 rfl ?_
                      refine pw_aload_n dX8_copy_99 rfl rfl ?_
                      refine pw_getR dX8_copy_100 fa_X8_40 rfl ?_
                      refine pw_iload_n dX8_copy_103 rfl rfl ?_
                      refine pw_iald (j := s) dX8_copy_104 rfl rfl (by omega) ?_
                      refine pw_top (y := nI zs) hzs ?_
                      refine pw_iload_n dX8_copy_105 rfl rfl ?_
                      refine pw_isub dX8_copy_106 ?_
                      refine pw_icmp_gt (tgt := 124) dX8_copy_107 (by decide) (fun c_107 => ?_) (fun c_107 => ?_)
                      · skip
                        refine pw_bipush (v := (-12)) dX8_copy_124 rfl ?_
                        refine pw_iret dX8_copy_126 rfl ?_
                        have hrf : (runF i n (nI zs) && runF j n (nI zo)) = false := by
                          unfold runF
                          rw [decide_eq_false (show ¬ n ≤ nI zs - i from Int32.not_le.mpr c_107)]
                          simp only [Bool.false_and, Bool.and_false]
                        rw [if_neg c_28, if_neg c_38, if_pos c_56, hrf, if_neg Bool.false_ne_true] at hcx0
                        exact ⟨by rw [hcx0], by unfold cpM; rw [hcx0, if_pos (by decide)]⟩
                      · skip
                        refine pw_iload dX8_copy_110 rfl ?_
                        refine pw_aload_n dX8_copy_112 rfl rfl ?_
                        refine pw_getR dX8_copy_113 fa_X8_40 rfl ?_
                        refine pw_iload_n dX8_copy_116 rfl rfl ?_
                        refine pw_iald (j := o) dX8_copy_117 rfl rfl (by omega) ?_
                        refine pw_top (y := nI zo) hzo ?_
                        refine pw_iload dX8_copy_118 rfl ?_
                        refine pw_isub dX8_copy_120 ?_
                        refine pw_icmp_le (tgt := 127) dX8_copy_121 (by decide) (fun c_121 => ?_) (fun c_121 => ?_)
                        · skip
                          have hrs : runF i n (nI zs) = true := by
                            unfold runF
                            rw [decide_eq_true (Int32.not_lt.mp c_64), decide_eq_true (Int32.not_lt.mp c_68), decide_eq_true (Int32.not_lt.mp c_83), decide_eq_true (Int32.not_lt.mp c_107)]
                            rfl
                          have hro : runF j n (nI zo) = true := by
                            unfold runF
                            rw [decide_eq_true (Int32.not_lt.mp c_64), decide_eq_true (Int32.not_lt.mp c_73), decide_eq_true (Int32.not_lt.mp c_94), decide_eq_true c_121]
                            rfl
                          obtain ⟨i, c, rfl, rfl, hic⟩ := run_of hzs40 hrs
                          obtain ⟨j, c2, rfl, ec, hjc⟩ := run_of hzo40 hro
                          have ecc : c = c2 := (nI_eq (by omega) (by omega)).mp ec
                          subst ecc
                          rw [if_neg c_28, if_neg c_38, if_pos c_56, hrs, hro, Bool.and_self, if_pos rfl] at hcx0
                          refine pw_bipush (v := 40) dX8_copy_127 rfl ?_
                          refine pw_iload_n dX8_copy_129 rfl rfl ?_
                          refine pw_imul dX8_copy_130 ?_
                          refine pw_iload_n dX8_copy_131 rfl rfl ?_
                          refine pw_iadd dX8_copy_132 ?_
                          refine pw_top (y := nI (40 * s + i)) (by show nI 40 * nI s + nI i = _; rw [pk_mul, nI_add]) ?_
                          refine pw_istore (ls2 := [(6, _), (0, _), (1, _), (2, _), (3, _), (4, _), (5, _)]) dX8_copy_133 (by decide) rfl ?_
                          refine pw_bipush (v := 40) dX8_copy_135 rfl ?_
                          refine pw_iload_n dX8_copy_137 rfl rfl ?_
                          refine pw_imul dX8_copy_138 ?_
                          refine pw_iload dX8_copy_139 rfl ?_
                          refine pw_iadd dX8_copy_141 ?_
                          refine pw_top (y := nI (40 * o + j)) (by show nI 40 * nI o + nI j = _; rw [pk_mul, nI_add]) ?_
                          refine pw_istore (ls2 := [(7, _), (6, _), (0, _), (1, _), (2, _), (3, _), (4, _), (5, _)]) dX8_copy_142 (by decide) rfl ?_
                          refine pw_iconst (v := 0) dX8_copy_144 rfl ?_
                          refine pw_istore (ls2 := [(8, _), (7, _), (6, _), (0, _), (1, _), (2, _), (3, _), (4, _), (5, _)]) dX8_copy_145 (by decide) rfl ?_
                          have L_147 : ∀ (fu_147 : Nat) (k : Nat), (k ≤ c) → c - k < fu_147 → PW l SM RX8 cX8_copy 10 (some .int) 3 (QI fun x m => x = copyX (μ.1 10) (μ.1 11) (nI s) (nI i) (nI o) (nI j) (nI c) ∧ m = mm (cpM μ (nI s) (nI i) (nI o) (nI j) (nI c)) V nm sk st sn) 147 [(0, .ref 0), (1, .int (nI s)), (2, .int (nI i)), (3, .int (nI o)), (4, .int (nI j)), (5, .int (nI c)), (6, .int (nI (40 * s + i))), (7, .int (nI (40 * o + j))), (8, .int (nI k))] [] (mm (sr μ 12 (if 40 * s + i < 40 * o + j then va_cpy (μ.1 12) (μ.1 12) (40 * s + i + (c - k)) (40 * o + j + (c - k)) k else va_cpy (μ.1 12) (μ.1 12) (40 * s + i) (40 * o + j) k)) V nm sk st sn) := by
                            intro fu_147
                            induction fu_147 with
                            | zero =>
                              intro k hk hm_147
                              exact absurd hm_147 (Nat.not_lt_zero _)
                            | succ fu_147 ih_147 =>
                              intro k hk hm_147
                              refine pw_iload dX8_copy_147 rfl ?_
                              refine pw_iload dX8_copy_149 rfl ?_
                              refine pw_icmp_ge (tgt := 201) dX8_copy_151 (by decide) (fun c_151 => ?_) (fun c_151 => ?_)
                              · skip
                                have hge := nI_geD (by omega) c_151
                                have hkc : k = c := by omega
                                refine pw_iload dX8_copy_201 rfl ?_
                                refine pw_iret dX8_copy_203 rfl ?_
                                subst hkc
                                rw [Nat.sub_self, Nat.add_zero, Nat.add_zero, ite_self]
                                exact ⟨hcx0.symm, by unfold cpM; rw [hcx0, if_neg (nI_pos (by omega)), cl_nI (by omega), cl_nI (by omega), cl_nI (by omega), cl_nI (by omega), cl_nI (by omega)]⟩
                              · skip
                                have hlt := nI_ltD (by omega) c_151
                                refine pw_iload dX8_copy_154 rfl ?_
                                refine pw_iload dX8_copy_156 rfl ?_
                                refine pw_icmp_ge (tgt := 171) dX8_copy_158 (by decide) (fun c_158 => ?_) (fun c_158 => ?_)
                                · skip
                                  have hab : 40 * o + j ≤ 40 * s + i := (nI_leI (by omega) (by omega)).mp c_158
                                  refine pw_iload dX8_copy_171 rfl ?_
                                  skip
                                  refine pw_istore (ls2 := [(9, _), (0, _), (1, _), (2, _), (3, _), (4, _), (5, _), (6, _), (7, _), (8, _)]) dX8_copy_173 (by decide) rfl ?_
                                  refine pw_aload_n dX8_copy_175 rfl rfl ?_
                                  refine pw_getR dX8_copy_176 fa_X8_43 rfl ?_
                                  refine pw_iload dX8_copy_179 rfl ?_
                                  refine pw_iload dX8_copy_181 rfl ?_
                                  refine pw_iadd dX8_copy_183 ?_
                                  refine pw_aload_n dX8_copy_184 rfl rfl ?_
                                  refine pw_getR dX8_copy_185 fa_X8_43 rfl ?_
                                  refine pw_iload dX8_copy_188 rfl ?_
                                  refine pw_iload dX8_copy_190 rfl ?_
                                  refine pw_iadd dX8_copy_192 ?_
                                  refine pw_iald (j := 40 * s + i + k) dX8_copy_193 rfl (nI_add _ _) (by omega) ?_
                                  refine pw_iast (j := 40 * o + j + k) dX8_copy_194 rfl (nI_add _ _) (by omega) ?_
                                  refine pw_mem m_12' ?_
                                  refine pw_iinc (ls2 := [(8, _), (9, _), (0, _), (1, _), (2, _), (3, _), (4, _), (5, _), (6, _), (7, _)]) (v := nI (k + 1)) dX8_copy_195 rfl (inc1 k) (by decide) rfl ?_
                                  refine pw_goto (tgt := 147) dX8_copy_198 (by decide) ?_
                                  refine pw_sub [2, 3, 4, 5, 6, 7, 8, 9, 0] rfl ?_
                                  have hh := ih_147 (k + 1) hlt (by omega)
                                  rw [if_neg (Nat.not_lt.mpr hab), ← cpy_f (μ.1 12) hab] at hh
                                  rw [if_neg (Nat.not_lt.mpr hab)]
                                  exact hh
                                · skip
                                  have hab : 40 * s + i < 40 * o + j := by
                                    rcases Nat.lt_or_ge (40 * s + i) (40 * o + j) with g | g
                                    · exact g
                                    · exact absurd (nI_le g (by omega)) c_158
                                  obtain ⟨m, hm⟩ : ∃ m, c - k = m + 1 := ⟨c - k - 1, by omega⟩
                                  refine pw_iload dX8_copy_161 rfl ?_
                                  refine pw_iconst (v := 1) dX8_copy_163 rfl ?_
                                  refine pw_isub dX8_copy_164 ?_
                                  refine pw_iload dX8_copy_165 rfl ?_
                                  refine pw_isub dX8_copy_167 ?_
                                  refine pw_goto (tgt := 173) dX8_copy_168 (by decide) ?_
                                  refine pw_top (y := nI m) (by show nI c - nI 1 - nI k = _; rw [sub_nI (by omega), sub_nI (by omega), show c - 1 - k = m by omega]) ?_
                                  refine pw_istore (ls2 := [(9, _), (0, _), (1, _), (2, _), (3, _), (4, _), (5, _), (6, _), (7, _), (8, _)]) dX8_copy_173 (by decide) rfl ?_
                                  refine pw_aload_n dX8_copy_175 rfl rfl ?_
                                  refine pw_getR dX8_copy_176 fa_X8_43 rfl ?_
                                  refine pw_iload dX8_copy_179 rfl ?_
                                  refine pw_iload dX8_copy_181 rfl ?_
                                  refine pw_iadd dX8_copy_183 ?_
                                  refine pw_aload_n dX8_copy_184 rfl rfl ?_
                                  refine pw_getR dX8_copy_185 fa_X8_43 rfl ?_
                                  refine pw_iload dX8_copy_188 rfl ?_
                                  refine pw_iload dX8_copy_190 rfl ?_
                                  refine pw_iadd dX8_copy_192 ?_
                                  refine pw_iald (j := 40 * s + i + m) dX8_copy_193 rfl (nI_add _ _) (by omega) ?_
                                  refine pw_iast (j := 40 * o + j + m) dX8_copy_194 rfl (nI_add _ _) (by omega) ?_
                                  refine pw_mem m_12' ?_
                                  refine pw_iinc (ls2 := [(8, _), (9, _), (0, _), (1, _), (2, _), (3, _), (4, _), (5, _), (6, _), (7, _)]) (v := nI (k + 1)) dX8_copy_195 rfl (inc1 k) (by decide) rfl ?_
                                  refine pw_goto (tgt := 147) dX8_copy_198 (by decide) ?_
                                  refine pw_sub [2, 3, 4, 5, 6, 7, 8, 9, 0] rfl ?_
                                  have hh := ih_147 (k + 1) hlt (by omega)
                                  rw [if_pos hab, show c - (k + 1) = m by omega, ← cpy_b (μ.1 12) hab] at hh
                                  rw [if_pos hab, hm]
                                  exact hh
                          refine pw_sub [3, 4, 5, 6, 7, 8, 2, 1, 0] rfl ?_
                          have hL0 := L_147 (c + 1) 0 (Nat.zero_le _) (by omega)
                          rw [cpy_0, cpy_0, ite_self, sr_self] at hL0
                          exact hL0
                        · skip
                          refine pw_bipush (v := (-12)) dX8_copy_124 rfl ?_
                          refine pw_iret dX8_copy_126 rfl ?_
                          have hrf : (runF i n (nI zs) && runF j n (nI zo)) = false := by
                            unfold runF
                            rw [decide_eq_false (show ¬ n ≤ nI zo - j from c_121)]
                            simp only [Bool.false_and, Bool.and_false]
                          rw [if_neg c_28, if_neg c_38, if_pos c_56, hrf, if_neg Bool.false_ne_true] at hcx0
                          exact ⟨by rw [hcx0], by unfold cpM; rw [hcx0, if_pos (by decide)]⟩
          · skip
            refine pw_bipush (v := (-13)) dX8_copy_59 rfl ?_
            refine pw_iret dX8_copy_61 rfl ?_
            rw [if_neg c_28, if_neg c_38, if_neg c_56] at hcx0
            exact ⟨by rw [hcx0], by unfold cpM; rw [hcx0, if_pos (by decide)]⟩
        · skip
          refine pw_bipush (v := (-11)) dX8_copy_41 rfl ?_
          refine pw_iret dX8_copy_43 rfl ?_
          rw [if_neg c_28, if_pos c_38] at hcx0
          exact ⟨by rw [hcx0], by unfold cpM; rw [hcx0, if_pos (by decide)]⟩
    · skip
      have hb_15 := b2_0 c_15
      refine pw_bipush (v := (-2)) dX8_copy_18 rfl ?_
      refine pw_iret dX8_copy_20 rfl ?_
      have hcx0 : copyX (μ.1 10) (μ.1 11) s i o j n = -2 := by unfold copyX; rw [hb_6, hb_15]; rfl
      exact ⟨by rw [hcx0], by unfold cpM; rw [hcx0, if_pos (by decide)]⟩

