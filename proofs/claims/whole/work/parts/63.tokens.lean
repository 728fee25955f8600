def LR : List TK → List MT → Prop
  | [], [] => True
  | c :: cs, t :: ts => (mdR c.1 c.2.2 t.2.2.1 t.2.2.2 ∧ t.1 = c.2.1) ∧ LR cs ts
  | [], _ :: _ => False
  | _ :: _, [] => False
theorem LR_len : ∀ (cs : List TK) (ts : List MT), LR cs ts → cs.length = ts.length
  | [], [], _ => rfl
  | _ :: cs, _ :: ts, h => by
    rw [List.length_cons, List.length_cons, LR_len cs ts h.2]
  | [], _ :: _, h => h.elim
  | _ :: _, [], h => h.elim
theorem LR_get : ∀ (cs : List TK) (ts : List MT), LR cs ts → ∀ (i : Nat) (c : TK) (t : MT), cs[i]? = some c → ts[i]? = some t → mdR c.1 c.2.2 t.2.2.1 t.2.2.2 ∧ t.1 = c.2.1
  | [], _, _, i, c, t, h, _ => by simp at h
  | _ :: _, [], h, _, _, _, _, _ => h.elim
  | a :: cs, b :: ts, h, 0, c, t, h1, h2 => by
    rw [List.getElem?_cons_zero] at h1 h2
    cases h1
    cases h2
    exact h.1
  | a :: cs, b :: ts, h, i + 1, c, t, h1, h2 => by
    rw [List.getElem?_cons_succ] at h1 h2
    exact LR_get cs ts h.2 i c t h1 h2
theorem num_eq {f : Nat → Int32} {q : Nat} : ∀ (m i : Nat), i + m ≤ 4 → numG f m (q + i) (nvF f q i) = nvF f q (i + m)
  | 0, _, _ => rfl
  | m + 1, i, h => by
    show numG f m (q + i + 1) (nvF f q i * 10 + f (q + i) - 48) = _
    have e : nvF f q (i + 1) = nvF f q i * 10 + f (q + i) - 48 := by
      show (if i < 4 then nI 10 * nvF f q i + f (q + i) - 48 else 0) = _
      rw [if_pos (by omega), Int32.mul_comm]
      rfl
    rw [← e, show q + i + 1 = q + (i + 1) by omega, num_eq m (i + 1) (by omega), show i + 1 + m = i + (m + 1) by omega]
theorem dig_of {x : Int32} (h : digB x = true) : ∃ d, 48 ≤ d ∧ d ≤ 57 ∧ x = nI d := by
  have h2 : inF x 48 57 = true := h
  have h3 : inF x 0 57 = true := by
    unfold inF at h2 ⊢
    simp only [Bool.and_eq_true, decide_eq_true_eq] at h2 ⊢
    exact ⟨Int32.le_trans (by decide) h2.1, h2.2⟩
  obtain ⟨d, hd, rfl⟩ := in_trueL (n := 57) h3 (by decide)
  refine ⟨d, ?_, hd, rfl⟩
  unfold inF at h2
  simp only [Bool.and_eq_true, decide_eq_true_eq] at h2
  exact (nI_leI (a := 48) (by decide) (by omega)).mp h2.1
theorem num_b {f : Nat → Int32} {q : Nat} : ∀ (i : Nat), i ≤ 4 → (∀ j, j < i → digB (f (q + j)) = true) → ∃ z, z < 10 ^ i ∧ nvF f q i = nI z
  | 0, _, _ => ⟨0, by decide, rfl⟩
  | i + 1, h, hd => by
    obtain ⟨z, hz, e⟩ := num_b (f := f) (q := q) i (by omega) (fun j hj => hd j (by omega))
    obtain ⟨d, d1, d2, ed⟩ := dig_of (hd i (by omega))
    refine ⟨10 * z + d - 48, by rw [Nat.pow_succ]; omega, ?_⟩
    show (if i < 4 then nI 10 * nvF f q i + f (q + i) - 48 else 0) = _
    rw [if_pos (by omega), e, ed, pk_mul, nI_add]
    exact sub_nI (a := 48) (by omega)
theorem sgn_z : ∀ z, z < 256 → letB (nI z) = true ∨ digB (nI z) = true ∨ (¬ 0 ≤ ixS ((nI z).toUInt32 % 65536).toInt32 ∧ sgnB (nI z) = false) ∨ (0 ≤ ixS ((nI z).toUInt32 % 65536).toInt32 ∧ sgnB (nI z) = true ∧ nI z ∈ kds ∧ tOf (nI z) = nI z ∧ inF (nI z) 1 3 = false ∧ inF (nI z) 7 12 = false ∧ nI z ≠ 13) := by decide +kernel
theorem end_nx {f : Nat → Int32} {n a : Nat} (h : a < n) : endF f n a = nxE f n a := by
  unfold endF nxE
  rw [if_neg (show ¬ a = n by omega)]
  cases e1 : letB (f a) with
  | true => rw [if_pos rfl, if_pos rfl, sw_n h e1]
  | false =>
    rw [if_neg Bool.false_ne_true, if_neg Bool.false_ne_true]
    cases e2 : digB (f a) with
    | true => rw [if_pos rfl, if_pos rfl, sw_n h e2]
    | false => rfl
theorem head_md {wd f : Nat → Int32} {n a : Nat} (hwd : ∀ j, j < 96 → wd j = mwds.getD j 0) (hby : ∀ i, i < n → ∃ z, z < 256 ∧ f i = nI z) (h : a < n) : mdR (kindN f a (endF f n a)) (if kindN f a (endF f n a) = 13 then numG f (endF f n a - a) a 0 else 0) (nxT wd f n a) (nxV wd f n a) := by
  rw [end_nx h]
  have hb := nxE_b (f := f) h
  unfold nxT nxV
  rw [if_neg (show ¬ a = n by omega), if_neg (show ¬ a = n by omega)]
  cases e1 : letB (f a) with
  | true =>
    rw [if_pos rfl, if_pos rfl]
    have hk : kindN f a (nxE f n a) = nI (wordG f a (nxE f n a) 64 0 0 1) := by unfold kindN; rw [e1, if_pos rfl]
    have hE : nxE f n a = scanF letB f (n - a) a := by unfold nxE; rw [if_neg (by omega), e1, if_pos rfl]
    have hlet : ∀ x, a ≤ x → x < nxE f n a → f x ≠ 32 := fun x h1 h2 e => by
      rw [hE] at h2
      have g := scan_all (n - a) a x h1 h2
      rw [e] at g
      exact absurd g (by decide)
    rw [hk]
    exact word_md hwd hlet (by omega) _
  | false =>
    rw [if_neg Bool.false_ne_true, if_neg Bool.false_ne_true]
    cases e2 : digB (f a) with
    | true =>
      rw [if_pos rfl, if_pos rfl]
      have hk : kindN f a (nxE f n a) = if 4 < nxE f n a - a then 0 else 13 := by unfold kindN; rw [e1, if_neg Bool.false_ne_true, e2, if_pos rfl]
      have hE : nxE f n a = scanF digB f (n - a) a := by unfold nxE; rw [if_neg (by omega), e1, if_neg Bool.false_ne_true, e2, if_pos rfl]
      rw [hk]
      by_cases g : 4 < nxE f n a - a
      · rw [if_pos g, if_pos g]
        exact ⟨by decide, by decide, fun z => absurd z (by decide), fun z => absurd z (by decide), fun z => absurd z (by decide)⟩
      · rw [if_neg g, if_neg g, if_pos rfl]
        have hn := num_eq (f := f) (q := a) (nxE f n a - a) 0 (by omega)
        rw [Nat.add_zero, Nat.zero_add] at hn
        have hn2 : numG f (nxE f n a - a) a 0 = nvF f a (nxE f n a - a) := hn
        obtain ⟨z, hz, ez⟩ := num_b (f := f) (q := a) (nxE f n a - a) (by omega) (fun j hj => scan_all (p := digB) (n - a) a (a + j) (by omega) (by rw [← hE]; omega))
        have hz4 : z < 10 ^ 4 := Nat.lt_of_lt_of_le hz (Nat.pow_le_pow_right (by decide) (by omega))
        exact ⟨by decide, by decide, fun z => absurd z (by decide), fun z => absurd z (by decide), fun _ => ⟨hn2.symm, by rw [hn2, ez]; exact nI_pos' (by omega), by rw [hn2, ez]; exact nI_le (b := 9999) (by omega) (by decide)⟩⟩
    | false =>
      rw [if_neg Bool.false_ne_true, if_neg Bool.false_ne_true]
      have hk : kindN f a (nxE f n a) = if 0 ≤ ixS ((f a).toUInt32 % 65536).toInt32 then f a else 0 := by unfold kindN; rw [e1, if_neg Bool.false_ne_true, e2, if_neg Bool.false_ne_true]
      obtain ⟨z, hz, ez⟩ := hby a h
      rw [ez] at e1 e2 hk ⊢
      rw [hk]
      rcases sgn_z z hz with g | g | ⟨g1, g2⟩ | ⟨g1, g2, g3, g4, g5, g6, g7⟩
      · exact absurd (g.symm.trans e1) (by decide)
      · exact absurd (g.symm.trans e2) (by decide)
      · rw [if_neg g1, g2, if_neg Bool.false_ne_true]
        exact ⟨by decide, by decide, fun z => absurd z (by decide), fun z => absurd z (by decide), fun z => absurd z (by decide)⟩
      · rw [if_pos g1, g2, if_pos rfl]
        exact ⟨g3, g4.symm, fun z => absurd (g5.symm.trans z) (by decide), fun z => absurd (g6.symm.trans z) (by decide), fun z => absurd z g7⟩
theorem mtA_end {wd f : Nat → Int32} {n : Nat} : mtA wd f n n = [(n, n, 0, nxV wd f n n)] := by
  have hq : nxQ f n n = n := by
    unfold nxQ
    rw [Nat.sub_self]
    rfl
  rw [mtA_c (Nat.le_refl n), hq, if_pos rfl, nxE_n, nxT_n]
theorem tok_LR {wd f : Nat → Int32} {n : Nat} (hwd : ∀ j, j < 96 → wd j = mwds.getD j 0) (hby : ∀ i, i < n → ∃ z, z < 256 ∧ f i = nI z) : ∀ (m a : Nat), a ≤ n → n - a ≤ m → LR (toksF f n m a ++ [(14, n, 0)]) (mtA wd f n a) := by
  have hend : LR [(14, n, 0)] (mtA wd f n n) := by
    rw [mtA_end]
    have h14 : ∀ v, mdR 14 0 0 v := fun v => ⟨by decide, by decide, fun z => absurd z (by decide), fun z => absurd z (by decide), fun z => absurd z (by decide)⟩
    exact ⟨⟨h14 _, rfl⟩, trivial⟩
  intro m
  induction m with
  | zero =>
    intro a h1 h2
    rw [show a = n by omega]
    exact hend
  | succ m ih =>
    intro a h1 h2
    by_cases h : a < n
    · by_cases w : f a = 32 ∨ f a = 10
      · have hE : endF f n a = a + 1 := by
          unfold endF
          rcases w with w | w
          · rw [w, show letB 32 = false from rfl, show digB 32 = false from rfl]; rfl
          · rw [w, show letB 10 = false from rfl, show digB 10 = false from rfl]; rfl
        have hT : toksF f n (m + 1) a = toksF f n m (a + 1) := by
          show (if a < n then (if f a = 32 ∨ f a = 10 then toksF f n m (endF f n a) else _) else _) = _
          rw [if_pos h, if_pos w, hE]
        have hQ : nxQ f n a = nxQ f n (a + 1) := by
          unfold nxQ
          rw [show n - a = (n - (a + 1)) + 1 by omega]
          show (if f a = 32 ∨ f a = 10 then _ else _) = _
          rw [if_pos w]
        have hM : mtA wd f n a = mtA wd f n (a + 1) := by
          rw [mtA_c h1, mtA_c (p := a + 1) (by omega), hQ]
        rw [hT, hM]
        exact ih (a + 1) (by omega) (by omega)
      · have hT : toksF f n (m + 1) a = tokN f (kindN f a (endF f n a)) a (endF f n a) :: toksF f n m (endF f n a) := by
          show (if a < n then (if f a = 32 ∨ f a = 10 then _ else _) else _) = _
          rw [if_pos h, if_neg w]
        have hQ : nxQ f n a = a := by
          unfold nxQ
          rw [show n - a = (n - (a + 1)) + 1 by omega]
          show (if f a = 32 ∨ f a = 10 then _ else _) = _
          rw [if_neg w]
        have hb := nxE_b (f := f) h
        rw [hT, mtA_c h1, hQ, if_neg (show ¬ a = n by omega)]
        refine ⟨⟨head_md hwd hby h, rfl⟩, ?_⟩
        rw [end_nx h]
        exact ih (nxE f n a) hb.2 (by omega)
    · have hT : toksF f n (m + 1) a = [] := by
        show (if a < n then _ else _) = _
        rw [if_neg h]
      rw [hT, show a = n by omega]
      exact hend
/-- the i-th token of the model, and the tokens from it on -/
def mtG (wd f : Nat → Int32) (n i : Nat) : MT := (mtA wd f n 0).getD i (0, 0, 0, 0)
def mtD (wd f : Nat → Int32) (n i : Nat) : List MT := (mtA wd f n 0).drop i
theorem mtk_drop {wd f : Nat → Int32} {n : Nat} : ∀ (i p : Nat) (t : MT) (l : List MT), p ≤ n → (mtA wd f n p).drop i = t :: l → (t.2.1 ≤ n ∧ (l = [] ∨ l = mtA wd f n t.2.1)) ∧ ∃ p2, p2 ≤ n ∧ t :: l = mtA wd f n p2
  | 0, p, t, l, hp, h => by
    rw [List.drop_zero] at h
    refine ⟨?_, p, hp, h.symm⟩
    rw [mtA_c hp] at h
    injection h with h1 h2
    subst h1
    have hq := nxQ_b (f := f) hp
    by_cases e : nxQ f n p = n
    · rw [if_pos e] at h2
      refine ⟨?_, Or.inl h2.symm⟩
      show nxE f n (nxQ f n p) ≤ n
      rw [e, nxE_n]
      exact Nat.le_refl n
    · rw [if_neg e] at h2
      exact ⟨(nxE_b (f := f) (show nxQ f n p < n by omega)).2, Or.inr h2.symm⟩
  | i + 1, p, t, l, hp, h => by
    rw [mtA_c hp, List.drop_succ_cons] at h
    have hq := nxQ_b (f := f) hp
    by_cases e : nxQ f n p = n
    · rw [if_pos e, List.drop_nil] at h
      cases h
    · rw [if_neg e] at h
      exact mtk_drop i _ t l (nxE_b (f := f) (show nxQ f n p < n by omega)).2 h
theorem TOK_of {wd f ki pl nu : Nat → Int32} {n : Nat} (hn : n ≤ 160) (hwd : ∀ j, j < 96 → wd j = mwds.getD j 0) (hby : ∀ i, i < n → ∃ z, z < 256 ∧ f i = nI z) (hr : rowT ki pl nu (tkL f n)) : TOK ki nu (mtD wd f n) (mtG wd f n) (tkL f n).length ∧ ∀ i, i < (tkL f n).length → pl i = nI (mtG wd f n i).1 := by
  have hL : LR (tkL f n) (mtA wd f n 0) := tok_LR hwd hby 160 0 (Nat.zero_le _) (by omega)
  have hlen := LR_len _ _ hL
  have hat : ∀ i, i < (tkL f n).length → ∃ c, (tkL f n)[i]? = some c ∧ (mtA wd f n 0)[i]? = some (mtG wd f n i) := fun i hi => by
    refine ⟨_, List.getElem?_eq_getElem hi, ?_⟩
    unfold mtG
    rw [List.getD_eq_getElem?_getD, List.getElem?_eq_getElem (by omega)]
    rfl
  refine ⟨⟨by rw [tkL_len]; exact Nat.succ_le_succ (toksF_len _ _), by rw [tkL_len]; omega, ?_, fun i hi => ?_, fun i hi => ?_⟩, fun i hi => ?_⟩
  · refine (hr _ (14, n, 0) ?_).1
    rw [tkL_len]
    unfold tkL
    show (_ ++ [(14, n, 0)])[(toksF f n 160 0).length]? = some ((14, n, 0) : TK)
    rw [List.getElem?_append_right (Nat.le_refl _), Nat.sub_self]
    rfl
  · obtain ⟨c, h1, h2⟩ := hat i hi
    have h := (LR_get _ _ hL i c _ h1 h2).1
    obtain ⟨r1, r2, r3⟩ := hr i c h1
    rw [r1, r3]
    exact h
  · obtain ⟨c, h1, h2⟩ := hat i hi
    unfold mtD
    rw [List.drop_eq_getElem_cons (by omega)]
    congr 1
    rw [List.getElem?_eq_getElem (by omega)] at h2
    exact Option.some.inj h2
  · obtain ⟨c, h1, h2⟩ := hat i hi
    have h := (LR_get _ _ hL i c _ h1 h2).2
    rw [(hr i c h1).2.1, h]
