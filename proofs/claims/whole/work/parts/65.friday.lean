/-! rows of tellings: the class's search and the model's numbers -/
def fldP (g : Nat → Int32) (pt : Nat → List Nat) : Nat → Nat → AC → AC
  | _, 0, a => a
  | k, m + 1, a => fldP g pt (k + 1) m (if a.1 < g k then (g k, pt k) else a)
theorem fldP_add {g : Nat → Int32} {pt : Nat → List Nat} : ∀ (m1 m2 k : Nat) (a : AC), fldP g pt k (m1 + m2) a = fldP g pt (k + m1) m2 (fldP g pt k m1 a)
  | 0, m2, k, a => by rw [Nat.zero_add, Nat.add_zero]; rfl
  | m1 + 1, m2, k, a => by
    rw [show m1 + 1 + m2 = (m1 + m2) + 1 by omega]
    show fldP g pt (k + 1) (m1 + m2) _ = fldP g pt (k + (m1 + 1)) m2 (fldP g pt (k + 1) m1 _)
    rw [fldP_add m1 m2 (k + 1), show k + 1 + m1 = k + (m1 + 1) by omega]
theorem fldP_c {g g2 : Nat → Int32} {pt pt2 : Nat → List Nat} : ∀ (m k k2 : Nat) (a : AC), (∀ i, i < m → g (k + i) = g2 (k2 + i) ∧ pt (k + i) = pt2 (k2 + i)) → fldP g pt k m a = fldP g2 pt2 k2 m a
  | 0, _, _, _, _ => rfl
  | m + 1, k, k2, a, h => by
    obtain ⟨e1, e2⟩ := h 0 (Nat.succ_pos m)
    rw [Nat.add_zero, Nat.add_zero] at e1 e2
    show fldP g pt (k + 1) m (if a.1 < g k then (g k, pt k) else a) = fldP g2 pt2 (k2 + 1) m (if a.1 < g2 k2 then (g2 k2, pt2 k2) else a)
    rw [e1, e2]
    refine fldP_c m (k + 1) (k2 + 1) _ (fun i hi => ?_)
    have g := h (i + 1) (by omega)
    rw [show k + 1 + i = k + (i + 1) by omega, show k2 + 1 + i = k2 + (i + 1) by omega]
    exact g
def dgs (nm nh : Nat) : Nat → Nat → List Nat
  | 0, _ => []
  | m + 1, k => cdF nh (k / nm ^ m) :: dgs nm nh m (k % nm ^ m)
theorem dsc_fld {B : BK} {nj nh : Nat} (hnm : 0 < nj * nh) : ∀ (rem : Nat) (T : VW) (p : List Nat) (sum : Int32) (a : AC), dsc B nj nh rem T p sum a = fldP (fun k => rwL B nh (nj * nh) rem k T sum) (fun k => p ++ dgs (nj * nh) nh rem k) 0 ((nj * nh) ^ rem) a
  | 0, T, p, sum, a => by
    show (if a.1 < sum then (sum, p) else a) = fldP _ _ 0 1 a
    show _ = (if a.1 < sum then (sum, p ++ []) else a)
    rw [List.append_nil]
  | rem + 1, T, p, sum, a => by
    have hP : 0 < (nj * nh) ^ rem := Nat.pow_pos hnm
    have hs : ∀ (m c : Nat) (a : AC), dsS B nh (dsc B nj nh rem) T p sum c m a = fldP (fun k => rwL B nh (nj * nh) (rem + 1) k T sum) (fun k => p ++ dgs (nj * nh) nh (rem + 1) k) (c * (nj * nh) ^ rem) (m * (nj * nh) ^ rem) a := by
      intro m
      induction m with
      | zero => intro c a; rw [Nat.zero_mul]; rfl
      | succ m ih =>
        intro c a
        show dsS B nh (dsc B nj nh rem) T p sum (c + 1) m (dsc B nj nh rem (tellV B T (c / nh) (c % nh)) (p ++ [cdF nh c]) (sum + yAt B T nh c) a) = _
        have x1 : (m + 1) * (nj * nh) ^ rem = (nj * nh) ^ rem + m * (nj * nh) ^ rem := by rw [Nat.succ_mul, Nat.add_comm]
        have x2 : (c + 1) * (nj * nh) ^ rem = c * (nj * nh) ^ rem + (nj * nh) ^ rem := Nat.succ_mul c _
        rw [ih, x1, fldP_add, x2]
        congr 1
        rw [dsc_fld hnm rem]
        refine fldP_c _ _ _ _ (fun i hi => ?_)
        have d1 : (c * (nj * nh) ^ rem + i) / (nj * nh) ^ rem = c := by
          rw [Nat.mul_comm, Nat.mul_add_div hP, Nat.div_eq_of_lt hi, Nat.add_zero]
        have d2 : (c * (nj * nh) ^ rem + i) % (nj * nh) ^ rem = i := by
          rw [Nat.mul_comm, Nat.mul_add_mod, Nat.mod_eq_of_lt hi]
        refine ⟨?_, ?_⟩
        · show rwL B nh (nj * nh) rem (0 + i) _ _ = rwL B nh (nj * nh) rem ((c * (nj * nh) ^ rem + i) % (nj * nh) ^ rem) (tellV B T ((c * (nj * nh) ^ rem + i) / (nj * nh) ^ rem / nh) ((c * (nj * nh) ^ rem + i) / (nj * nh) ^ rem % nh)) (sum + yAt B T nh ((c * (nj * nh) ^ rem + i) / (nj * nh) ^ rem))
          rw [d1, d2, Nat.zero_add]
        · show p ++ [cdF nh c] ++ dgs (nj * nh) nh rem (0 + i) = p ++ (cdF nh ((c * (nj * nh) ^ rem + i) / (nj * nh) ^ rem) :: dgs (nj * nh) nh rem ((c * (nj * nh) ^ rem + i) % (nj * nh) ^ rem))
          rw [d1, d2, Nat.zero_add, List.append_assoc]
          rfl
    show dsS B nh (dsc B nj nh rem) T p sum 0 (nj * nh) a = _
    rw [hs, Nat.zero_mul, Nat.pow_succ, Nat.mul_comm ((nj * nh) ^ rem)]
theorem fld_amx {g : Nat → Int32} {pt : Nat → List Nat} (h0 : -1 < g 0) (p0 : List Nat) : ∀ N, 0 < N → fldP g pt 0 N (-1, p0) = ((amx g N).1, pt (amx g N).2)
  | 0, h => absurd h (by decide)
  | N + 1, _ => by
    rw [fldP_add N 1 0, Nat.zero_add]
    show (if (fldP g pt 0 N (-1, p0)).1 < g N then (g N, pt N) else fldP g pt 0 N (-1, p0)) = ((if (amx g N).1 < g N then (g N, N) else amx g N).1, pt (if (amx g N).1 < g N then (g N, N) else amx g N).2)
    cases N with
    | zero =>
      show (if (-1 : Int32) < g 0 then (g 0, pt 0) else (-1, p0)) = ((if (-1 : Int32) < g 0 then (g 0, 0) else (-1, 0)).1, pt (if (-1 : Int32) < g 0 then (g 0, 0) else (-1, 0)).2)
      rw [if_pos h0, if_pos h0]
    | succ N =>
      rw [fld_amx h0 p0 (N + 1) (Nat.succ_pos N)]
      show (if (amx g (N + 1)).1 < g (N + 1) then _ else _) = _
      by_cases e : (amx g (N + 1)).1 < g (N + 1)
      · rw [if_pos e, if_pos e]
      · rw [if_neg e, if_neg e]
theorem rwL_b {B : BK} {nh nm : Nat} : ∀ (m k : Nat) (T : VW) (s : Nat), ∃ z, z ≤ s + 99 * m ∧ rwL B nh nm m k T (nI s) = nI z
  | 0, _, _, s => ⟨s, Nat.le_refl _, rfl⟩
  | m + 1, k, T, s => by
    obtain ⟨y, hy, ey⟩ := yF_b B T (k / nm ^ m / nh) (k / nm ^ m % nh)
    obtain ⟨z, hz, ez⟩ := rwL_b (B := B) (nh := nh) (nm := nm) m (k % nm ^ m) (tellV B T (k / nm ^ m / nh) (k / nm ^ m % nh)) (s + y)
    refine ⟨z, by omega, ?_⟩
    show rwL B nh nm m (k % nm ^ m) (tellV B T (k / nm ^ m / nh) (k / nm ^ m % nh)) (nI s + yF B T (k / nm ^ m / nh) (k / nm ^ m % nh)) = nI z
    rw [ey, nI_add]
    exact ez
theorem dgs_at {nm nh : Nat} (hnm : 0 < nm) : ∀ (m k i : Nat), k < nm ^ m → i < m → (dgs nm nh m k)[i]? = some (cdF nh (k / nm ^ (m - 1 - i) % nm))
  | 0, _, _, _, h => absurd h (Nat.not_lt_zero _)
  | m + 1, k, 0, hk, _ => by
    show some (cdF nh (k / nm ^ m)) = _
    rw [show m + 1 - 1 - 0 = m by omega, Nat.mod_eq_of_lt]
    rw [Nat.pow_succ] at hk
    exact Nat.div_lt_of_lt_mul hk
  | m + 1, k, i + 1, hk, hi => by
    show (dgs nm nh m (k % nm ^ m))[i]? = _
    rw [dgs_at hnm m (k % nm ^ m) i (Nat.mod_lt _ (Nat.pow_pos hnm)) (by omega), show m + 1 - 1 - (i + 1) = m - 1 - i by omega]
    congr 2
    have e : nm ^ m = nm ^ (m - 1 - i) * (nm * nm ^ i) := by
      rw [Nat.mul_comm nm, ← Nat.pow_succ, ← Nat.pow_add]
      congr 1
      omega
    rw [e, Nat.mod_mul_right_div_self, Nat.mod_mul_right_mod]
/-- FRIDAY: the two answers agree -/
theorem fri_eq {B : BK} {V : VW} {nj nh : Nat} {n what be : Int32} {br : Nat → Int32} (hA : (inF n 1 3 && inF what (-1) (n - 1)) = true → canF nj nh = true → relA be br (dsc B nj nh (cl n) V [] 0 (-1, []))) : friX be br nj nh n what = friF B V nj nh n what := by
  unfold friX friF
  cases e : (inF n 1 3 && inF what (-1) (n - 1)) with
  | false => rfl
  | true =>
    rw [if_pos rfl, if_pos rfl]
    have e1 : inF n 1 3 = true := by simp only [Bool.and_eq_true] at e; exact e.1
    have e2 : inF what (-1) (n - 1) = true := by simp only [Bool.and_eq_true] at e; exact e.2
    cases hc : canF nj nh with
    | false =>
      have h0 : nj * nh = 0 := by
        unfold canF at hc
        rcases Nat.eq_zero_or_pos nj with q | q
        · rw [q, Nat.zero_mul]
        · rcases Nat.eq_zero_or_pos nh with g | g
          · rw [g, Nat.mul_zero]
          · rw [decide_eq_true q, decide_eq_true g] at hc; exact absurd hc (by decide)
      rw [if_neg Bool.false_ne_true, if_pos h0]
      by_cases w : what = -1
      · rw [if_pos w, if_neg (by rw [w]; decide)]
      · rw [if_neg w, if_pos (Int32.not_lt.mp (m1_neg e2 w))]
    | true =>
      obtain ⟨c1, c2⟩ := canF_p hc
      have hnm : 0 < nj * nh := Nat.mul_pos c1 c2
      rw [if_pos rfl, if_neg (show ¬ nj * nh = 0 by omega)]
      obtain ⟨z, hz1, hz3, rfl⟩ := in_13 e1
      have hr := hA e hc
      rw [cl_nI (by omega)] at hr ⊢
      have hN : 0 < (nj * nh) ^ z := Nat.pow_pos hnm
      rw [dsc_fld hnm, fld_amx (by
        obtain ⟨y, _, ey⟩ := rwL_b (B := B) (nh := nh) (nm := nj * nh) z 0 V 0
        show -1 < rwL B nh (nj * nh) z 0 V (nI 0)
        rw [ey]
        exact Int32.lt_of_lt_of_le (by decide) (nI_pos' (by omega))) [] _ hN] at hr
      obtain ⟨r1, r2⟩ := hr
      by_cases w : what = -1
      · rw [if_pos w, if_neg (by rw [w]; decide)]
        exact r1
      · have hw := m1_neg e2 w
        obtain ⟨y, hy, rfl⟩ := in_m1 hz1 hz3 e2 hw
        rw [if_neg w, if_pos (Int32.not_lt.mp hw), cl_nI (by omega)]
        refine r2 y _ ?_
        show ([] ++ dgs (nj * nh) nh z (amx _ ((nj * nh) ^ z)).2)[y]? = _
        rw [List.nil_append, dgs_at hnm z _ y (amx_lt _ hN) hy]
        rfl
