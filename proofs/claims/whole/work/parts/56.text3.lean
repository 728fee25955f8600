/-- the model's token: where it begins, where it ends, its sort, its value -/
abbrev MT : Type := Nat × Nat × Int32 × Int32
def mtk (wd f : Nat → Int32) (n : Nat) : Nat → Nat → List MT
  | 0, _ => []
  | m + 1, p => (nxQ f n p, nxE f n (nxQ f n p), nxT wd f n (nxQ f n p), nxV wd f n (nxQ f n p)) :: (if nxQ f n p = n then [] else mtk wd f n m (nxE f n (nxQ f n p)))
theorem nxQ_b {f : Nat → Int32} {n p : Nat} (h : p ≤ n) : p ≤ nxQ f n p ∧ nxQ f n p ≤ n := by
  have := skF_b (f := f) (n - p) p
  unfold nxQ
  omega
theorem scan_1 {p : Int32 → Bool} {f : Nat → Int32} {n q : Nat} (h : q < n) (e : p (f q) = true) : q < scanF p f (n - q) q ∧ scanF p f (n - q) q ≤ n := by
  rw [sw_n h e]
  have := scan_b (p := p) (f := f) (n - (q + 1)) (q + 1)
  omega
theorem nxE_b {f : Nat → Int32} {n q : Nat} (h : q < n) : q < nxE f n q ∧ nxE f n q ≤ n := by
  unfold nxE
  rw [if_neg (by omega)]
  cases e1 : letB (f q) with
  | true =>
    rw [if_pos rfl]
    exact scan_1 h e1
  | false =>
    rw [if_neg Bool.false_ne_true]
    cases e2 : digB (f q) with
    | true =>
      rw [if_pos rfl]
      exact scan_1 h e2
    | false =>
      rw [if_neg Bool.false_ne_true]
      omega
theorem nxE_n {f : Nat → Int32} {n : Nat} : nxE f n n = n := if_pos rfl
theorem mtk_f {wd f : Nat → Int32} {n : Nat} : ∀ (m m2 p : Nat), p ≤ n → n - p + 1 ≤ m → n - p + 1 ≤ m2 → mtk wd f n m p = mtk wd f n m2 p
  | 0, _, _, _, h, _ => absurd h (by omega)
  | _ + 1, 0, _, _, _, h => absurd h (by omega)
  | m + 1, m2 + 1, p, hp, h1, h2 => by
    have hq := nxQ_b (f := f) hp
    show _ :: (if nxQ f n p = n then [] else mtk wd f n m _) = _ :: (if nxQ f n p = n then [] else mtk wd f n m2 _)
    by_cases e : nxQ f n p = n
    · rw [if_pos e, if_pos e]
    · rw [if_neg e, if_neg e]
      have hE := nxE_b (f := f) (show nxQ f n p < n by omega)
      rw [mtk_f m m2 _ hE.2 (by omega) (by omega)]
def mtA (wd f : Nat → Int32) (n p : Nat) : List MT := mtk wd f n (n - p + 1) p
theorem mtA_c {wd f : Nat → Int32} {n p : Nat} (hp : p ≤ n) : mtA wd f n p = (nxQ f n p, nxE f n (nxQ f n p), nxT wd f n (nxQ f n p), nxV wd f n (nxQ f n p)) :: (if nxQ f n p = n then [] else mtA wd f n (nxE f n (nxQ f n p))) := by
  have hq := nxQ_b (f := f) hp
  show _ :: (if nxQ f n p = n then [] else mtk wd f n (n - p) _) = _ :: (if nxQ f n p = n then [] else mtk wd f n _ _)
  by_cases e : nxQ f n p = n
  · rw [if_pos e, if_pos e]
  · rw [if_neg e, if_neg e]
    have hE := nxE_b (f := f) (show nxQ f n p < n by omega)
    rw [mtk_f (n - p) (n - nxE f n (nxQ f n p) + 1) _ hE.2 (by omega) (Nat.le_refl _)]
def eL : List MT → Bool → Bool → List Int32 → Int32 → List Int32 → Bool × List MT × List Int32
  | [], _, _, _, _, w => (false, [], w)
  | t :: ts, wa, mn, hs, o, w =>
    if wa = true then
      (if t.2.2.1 = 1 ∨ t.2.2.1 = 2 then eL ts false mn (unw 7 hs o (w ++ [if t.2.2.1 = 1 then 100000 + t.2.2.2 else t.2.2.2])).1 (unw 7 hs o (w ++ [if t.2.2.1 = 1 then 100000 + t.2.2.2 else t.2.2.2])).2.1 (unw 7 hs o (w ++ [if t.2.2.1 = 1 then 100000 + t.2.2.2 else t.2.2.2])).2.2
      else if t.2.2.1 = 6 ∧ mn = true then (if o = 5 then (false, t :: ts, w) else eL ts true mn (13 :: hs) (o + 1) w)
      else if t.2.2.1 = 45 then (if o = 5 then (false, t :: ts, w) else eL ts true false (19 :: hs) (o + 1) w)
      else if t.2.2.1 = 40 then (if o = 5 then (false, t :: ts, w) else eL ts true true (0 :: hs) (o + 1) w)
      else (false, t :: ts, w))
    else if t.2.2.1 = 59 then ((unw 1 hs o w).1.isEmpty, t :: ts, (unw 1 hs o w).2.2)
    else if t.2.2.1 = 41 then
      (match (unw 1 hs o w).1 with
      | [] => (false, t :: ts, (unw 1 hs o w).2.2)
      | _ :: h2 => eL ts false mn (unw 7 h2 ((unw 1 hs o w).2.1 - 1) (unw 1 hs o w).2.2).1 (unw 7 h2 ((unw 1 hs o w).2.1 - 1) (unw 1 hs o w).2.2).2.1 (unw 7 h2 ((unw 1 hs o w).2.1 - 1) (unw 1 hs o w).2.2).2.2)
    else if sgF t.2.2.1 = -1 then (false, t :: ts, w)
    else if btO (sgF t.2.2.1) (unw (lsF (sgF t.2.2.1)) hs o w).1 = true then eL ts true (decide (sgF t.2.2.1 ≤ 12)) (sgF t.2.2.1 :: (unw (lsF (sgF t.2.2.1)) hs o w).1) (unw (lsF (sgF t.2.2.1)) hs o w).2.1 (unw (lsF (sgF t.2.2.1)) hs o w).2.2
    else (false, t :: ts, (unw (lsF (sgF t.2.2.1)) hs o w).2.2)
theorem nxT_n {wd f : Nat → Int32} {n : Nat} : nxT wd f n n = 0 := if_pos rfl
/-- what a reading leaves: the last token read, the codes -/
def eRQ (μ : PM) (V : VW) (nm sk st : Nat → Int32) (sn : Int32) (C0 : Nat → Int32) (t n L : Nat) (R : Bool × List MT × List Int32) (m : PM) : Prop := ∃ T ts h o H C, R.2.1 = T :: ts ∧ m = mm (xM μ (nI T.2.1) (nI T.1) T.2.2.1 T.2.2.2 h o (nI R.2.2.length) H C) V nm sk st sn ∧ cdR C C0 t R.2.2 ∧ T.2.1 ≤ n ∧ R.2.2.length + (n - T.2.1) ≤ L
set_option maxHeartbeats 4000000 in
set_option maxRecDepth 100000 in
theorem T_X8_eRead {l : Launch} {μ : PM} {V : VW} {nm sk st : Nat → Int32} {sn b tk v h o : Int32} {H C C0 : Nat → Int32} {n p0 t : Nat} {w : List Int32} (hz : μ.1 0 9 = nI n) (hn : n ≤ 160) (hp : p0 ≤ n) (ht : μ.1 0 12 = nI t) (ht6 : t < 6) (hC : cdR C C0 t w) (hl : w.length + (n - p0) ≤ 180) : CT l SM yX8_eRead cX8_eRead 4 (some .boolean) 4 [.ref 0] (mm (xM μ (nI p0) b tk v h o (nI w.length) H C) V nm sk st sn) (QI fun x m => x = b2 (eL (mtA (μ.1 14) (μ.1 6) n p0) true true [] 0 w).1 ∧ eRQ μ V nm sk st sn C0 t n (w.length + (n - p0)) (eL (mtA (μ.1 14) (μ.1 6) n p0) true true [] 0 w) m) := by
  refine CT.of rfl (Nat.le_of_ble_eq_true rfl) ?_
  show PW l SM RX8 cX8_eRead 4 (some .boolean) 4 _ 0 [(0, .ref 0)] [] (mm (xM μ (nI p0) b tk v h o (nI w.length) H C) V nm sk st sn)
  obtain ⟨R0, hR0⟩ : ∃ R0, R0 = (eL (mtA (μ.1 14) (μ.1 6) n p0) true true [] 0 w) := ⟨_, rfl⟩
  obtain ⟨L, hL⟩ : ∃ L, L = w.length + (n - p0) := ⟨_, rfl⟩
  rw [← hR0, ← hL]
  refine pw_aload_n dX8_eRead_0 rfl rfl ?_
  refine pw_iconst (v := 0) dX8_eRead_1 rfl ?_
  refine pw_putI dX8_eRead_2 fa_X8_120 rfl ?_
  refine pw_mem t_30 ?_
  refine pw_aload_n dX8_eRead_5 rfl rfl ?_
  refine pw_iconst (v := 0) dX8_eRead_6 rfl ?_
  refine pw_putI dX8_eRead_7 fa_X8_127 rfl ?_
  refine pw_iconst (v := 1) dX8_eRead_10 rfl ?_
  refine pw_istore_n (ls2 := [(1, _), (0, _)]) dX8_eRead_11 rfl (by decide) rfl ?_
  refine pw_iconst (v := 1) dX8_eRead_12 rfl ?_
  refine pw_istore_n (ls2 := [(2, _), (1, _), (0, _)]) dX8_eRead_13 rfl (by decide) rfl ?_
  have L_14 : ∀ (fu_14 : Nat) (p : Nat) (wa mn : Bool) (hs w : List Int32) (o : Int32) (H C : Nat → Int32) (b tk v : Int32), (p ≤ n) → (eL (mtA (μ.1 14) (μ.1 6) n p) wa mn hs o w = R0) → (stk H hs) → (cdR C C0 t w) → (hs.length + w.length + (n - p) ≤ L) → n - p < fu_14 → PW l SM RX8 cX8_eRead 4 (some .boolean) 4 (QI fun x m => x = b2 R0.1 ∧ eRQ μ V nm sk st sn C0 t n L R0 m) 14 [(0, .ref 0), (1, .int (b2 wa)), (2, .int (b2 mn))] [] (mm (xM μ (nI p) b tk v (nI hs.length) o (nI w.length) H C) V nm sk st sn) := by
    intro fu_14
    induction fu_14 with
    | zero =>
      intro p wa mn hs w o H C b tk v hp hx hst hC hl hm_14
      exact absurd hm_14 (Nat.not_lt_zero _)
    | succ fu_14 ih_14 =>
      intro p wa mn hs w o H C b tk v hp hx hst hC hl hm_14
      refine pw_aload_n dX8_eRead_14 rfl rfl ?_
      refine pw_cVv dX8_eRead_15 mv_X8_140 ckModel (T_X8_next hz hn hp) rfl rfl (Nat.le_of_ble_eq_true rfl) (by decide) (fun m_15 h_15 => ?_)
      obtain rfl := h_15
      obtain ⟨q, hq⟩ : ∃ q, q = nxQ (μ.1 6) n p := ⟨_, rfl⟩
      have hqb := nxQ_b (f := μ.1 6) hp
      rw [mtA_c hp] at hx
      rw [← hq] at hqb hx ⊢
      obtain ⟨T, hT⟩ : ∃ T, T = nxT (μ.1 14) (μ.1 6) n q := ⟨_, rfl⟩
      obtain ⟨W, hW⟩ : ∃ W, W = nxV (μ.1 14) (μ.1 6) n q := ⟨_, rfl⟩
      obtain ⟨E, hE⟩ : ∃ E, E = nxE (μ.1 6) n q := ⟨_, rfl⟩
      rw [← hT, ← hW, ← hE] at hx ⊢
      have hqn : ¬ T = 0 → q < n := fun h0 => by
        rcases Nat.lt_or_ge q n with g | g
        · exact g
        · exact absurd (by rw [hT, show q = n by omega]; exact nxT_n) h0
      have hgo : ¬ T = 0 → E ≤ n ∧ n - E < n - p ∧ (if q = n then [] else mtA (μ.1 14) (μ.1 6) n E) = mtA (μ.1 14) (μ.1 6) n E := fun h0 => by
        have g := hqn h0
        have g2 := nxE_b (f := μ.1 6) g
        rw [← hE] at g2
        exact ⟨g2.2, by omega, if_neg (by omega)⟩
      have hEn : E ≤ n ∧ n - E ≤ n - p := by
        rcases Nat.lt_or_ge q n with g | g
        · have g2 := nxE_b (f := μ.1 6) g
          rw [← hE] at g2
          exact ⟨g2.2, by omega⟩
        · have g2 : E = n := by rw [hE, show q = n by omega]; exact nxE_n
          omega
      unfold eL at hx
      try simp only [] at hx
      refine pw_iload_n dX8_eRead_18 rfl rfl ?_
      refine pw_if_eq (tgt := 150) dX8_eRead_19 (by decide) (fun c_19 => ?_) (fun c_19 => ?_)
      · skip
        have hwa := b2_0 c_19
        subst hwa
        rw [if_neg Bool.false_ne_true] at hx
        refine pw_aload_n dX8_eRead_150 rfl rfl ?_
        refine pw_getI dX8_eRead_151 fa_X8_107 rfl ?_
        refine pw_top (y := T) rfl ?_
        refine pw_bipush (v := 59) dX8_eRead_154 rfl ?_
        refine pw_icmp_ne (tgt := 177) dX8_eRead_156 (by decide) (fun c_156 => ?_) (fun c_156 => ?_)
        · skip
          rw [if_neg c_156] at hx
          refine pw_aload_n dX8_eRead_177 rfl rfl ?_
          refine pw_getI dX8_eRead_178 fa_X8_107 rfl ?_
          refine pw_top (y := T) rfl ?_
          refine pw_bipush (v := 41) dX8_eRead_181 rfl ?_
          refine pw_icmp_ne (tgt := 229) dX8_eRead_183 (by decide) (fun c_183 => ?_) (fun c_183 => ?_)
          · skip
            rw [if_neg c_183] at hx
            refine pw_aload_n dX8_eRead_229 rfl rfl ?_
            refine pw_cVi dX8_eRead_230 mv_X8_147 ckModel T_X8_signOf rfl rfl (Nat.le_of_ble_eq_true rfl) (by decide) (fun x_230 m_230 h_230 => ?_)
            obtain ⟨rfl, rfl⟩ := h_230
            obtain ⟨sg, hsg⟩ : ∃ sg, sg = sgF T := ⟨_, rfl⟩
            rw [← hsg] at hx ⊢
            refine pw_istore_n (ls2 := [(3, _), (0, _), (1, _), (2, _)]) dX8_eRead_233 rfl (by decide) rfl ?_
            refine pw_iload_n dX8_eRead_234 rfl rfl ?_
            refine pw_iconst (v := (-1)) dX8_eRead_235 rfl ?_
            refine pw_icmp_eq (tgt := 247) dX8_eRead_236 (by decide) (fun c_236 => ?_) (fun c_236 => ?_)
            · skip
              have c236 : sg = -1 := c_236
              rw [if_pos c236] at hx
              refine pw_iconst (v := 0) dX8_eRead_247 rfl ?_
              refine pw_zret dX8_eRead_248 rfl (by decide) ?_
              exact ⟨by rw [← hx]; rfl, by rw [← hx]; exact ⟨_, _, _, _, _, _, rfl, rfl, hC, hEn.1, by show w.length + (n - E) ≤ L; omega⟩⟩
            · skip
              have c236 : ¬ sg = -1 := c_236
              rw [if_neg c236] at hx
              refine pw_aload_n dX8_eRead_239 rfl rfl ?_
              refine pw_iload_n dX8_eRead_240 rfl rfl ?_
              refine pw_cVi dX8_eRead_241 mv_X8_150 ckModel (T_X8_between (s := sg) (hs := hs) (o := o) (w := w) (C := C) ht ht6 hst hC (by omega)) rfl rfl (Nat.le_of_ble_eq_true rfl) (by decide) (fun x_241 m_241 h_241 => ?_)
              obtain ⟨rfl, C2, rfl, hs2, hC2⟩ := h_241
              have hln := unw_len (l := lsF sg) hs o w
              obtain ⟨R, hR⟩ : ∃ R, R = unw (lsF sg) hs o w := ⟨_, rfl⟩
              rw [← hR] at hs2 hC2 hx hln ⊢
              refine pw_if_ne (tgt := 249) dX8_eRead_244 (by decide) (fun c_244 => ?_) (fun c_244 => ?_)
              · skip
                have hb_244 := b2_n c_244
                have hbt := b2_n c_244
                have hn0 : ¬ T = 0 := fun g => by rw [g] at hsg; exact absurd hsg c236
                obtain ⟨g1, g2, g3⟩ := hgo hn0
                rw [hbt, if_pos rfl] at hx ⊢
                rw [g3] at hx
                refine pw_iconst (v := 1) dX8_eRead_249 rfl ?_
                refine pw_istore_n (ls2 := [(1, _), (3, _), (0, _), (2, _)]) dX8_eRead_250 rfl (by decide) rfl ?_
                refine pw_iload_n dX8_eRead_251 rfl rfl ?_
                refine pw_bipush (v := 12) dX8_eRead_252 rfl ?_
                refine pw_icmp_gt (tgt := 261) dX8_eRead_254 (by decide) (fun c_254 => ?_) (fun c_254 => ?_)
                · skip
                  have hmn : decide (sg ≤ 12) = false := decide_eq_false (Int32.not_le.mpr c_254)
                  refine pw_iconst (v := 0) dX8_eRead_261 rfl ?_
                  refine pw_istore_n (ls2 := [(2, _), (1, _), (3, _), (0, _)]) dX8_eRead_262 rfl (by decide) rfl ?_
                  refine pw_goto (tgt := 14) dX8_eRead_263 (by decide) ?_
                  refine pw_sub [3, 1, 0] rfl ?_
                  rw [hmn] at hx
                  exact ih_14 E true false (sg :: R.1) R.2.2 R.2.1 _ C2 _ _ _ g1 hx (stk_push hs2) (hC2) (by show R.1.length + 1 + R.2.2.length + (n - E) ≤ L; omega) (by omega)
                · skip
                  have hmn : decide (sg ≤ 12) = true := decide_eq_true (Int32.not_lt.mp c_254)
                  refine pw_iconst (v := 1) dX8_eRead_257 rfl ?_
                  refine pw_goto (tgt := 262) dX8_eRead_258 (by decide) ?_
                  refine pw_istore_n (ls2 := [(2, _), (1, _), (3, _), (0, _)]) dX8_eRead_262 rfl (by decide) rfl ?_
                  refine pw_goto (tgt := 14) dX8_eRead_263 (by decide) ?_
                  refine pw_sub [3, 1, 0] rfl ?_
                  rw [hmn] at hx
                  exact ih_14 E true true (sg :: R.1) R.2.2 R.2.1 _ C2 _ _ _ g1 hx (stk_push hs2) (hC2) (by show R.1.length + 1 + R.2.2.length + (n - E) ≤ L; omega) (by omega)
              · skip
                have hb_244 := b2_0 c_244
                have hbt := b2_0 c_244
                rw [hbt, if_neg Bool.false_ne_true] at hx ⊢
                refine pw_iconst (v := 0) dX8_eRead_247 rfl ?_
                refine pw_zret dX8_eRead_248 rfl (by decide) ?_
                exact ⟨by rw [← hx]; rfl, by rw [← hx]; exact ⟨_, _, _, _, _, _, rfl, rfl, hC2, hEn.1, by show R.2.2.length + (n - E) ≤ L; omega⟩⟩
          · skip
            rw [if_pos c_183] at hx
            have hn0 : ¬ T = 0 := fun g => by rw [g] at c_183; exact absurd c_183 (by decide)
            obtain ⟨g1, g2, g3⟩ := hgo hn0
            refine pw_aload_n dX8_eRead_186 rfl rfl ?_
            refine pw_iconst (v := 1) dX8_eRead_187 rfl ?_
            refine pw_cVv dX8_eRead_188 mv_X8_137 ckModel (T_X8_unwinds (l0 := 1) (hs := hs) (o := o) (w := w) (C := C) ht ht6 hst hC (by omega)) rfl rfl (Nat.le_of_ble_eq_true rfl) (by decide) (fun m_188 h_188 => ?_)
            obtain ⟨C2, rfl, hs2, hC2⟩ := h_188
            have hln := unw_len (l := 1) hs o w
            obtain ⟨⟨r1, ro, rw0⟩, hR⟩ : ∃ R, R = unw 1 hs o w := ⟨_, rfl⟩
            rw [← hR] at hs2 hC2 hx hln ⊢
            change stk H r1 at hs2
            change cdR C2 C0 t rw0 at hC2
            change r1.length + rw0.length = _ at hln
            try simp only [] at hx
            refine pw_aload_n dX8_eRead_191 rfl rfl ?_
            refine pw_getI dX8_eRead_192 fa_X8_120 rfl ?_
            refine pw_top (y := nI r1.length) rfl ?_
            refine pw_if_ne (tgt := 200) dX8_eRead_195 (by decide) (fun c_195 => ?_) (fun c_195 => ?_)
            · skip
              obtain ⟨x, h2, rfl⟩ : ∃ x h2, r1 = x :: h2 := by
                cases r1 with
                | nil => exact absurd rfl c_195
                | cons x h2 => exact ⟨x, h2, rfl⟩
              have hlc : (x :: h2).length = h2.length + 1 := rfl
              try simp only [] at hx
              rw [g3] at hx
              refine pw_aload_n dX8_eRead_200 rfl rfl ?_
              refine pw_dup dX8_eRead_201 rfl ?_
              refine pw_getI dX8_eRead_202 fa_X8_120 rfl ?_
              refine pw_top (y := nI (h2.length + 1)) rfl ?_
              refine pw_iconst (v := 1) dX8_eRead_205 rfl ?_
              refine pw_isub dX8_eRead_206 ?_
              refine pw_top (y := nI h2.length) (nI_pred _) ?_
              refine pw_putI dX8_eRead_207 fa_X8_120 rfl ?_
              refine pw_mem t_30 ?_
              refine pw_aload_n dX8_eRead_210 rfl rfl ?_
              refine pw_dup dX8_eRead_211 rfl ?_
              refine pw_getI dX8_eRead_212 fa_X8_127 rfl ?_
              refine pw_top (y := ro) rfl ?_
              refine pw_iconst (v := 1) dX8_eRead_215 rfl ?_
              refine pw_isub dX8_eRead_216 ?_
              refine pw_putI dX8_eRead_217 fa_X8_127 rfl ?_
              refine pw_mem t_31 ?_
              refine pw_aload_n dX8_eRead_220 rfl rfl ?_
              refine pw_bipush (v := 7) dX8_eRead_221 rfl ?_
              refine pw_cVv dX8_eRead_223 mv_X8_137 ckModel (T_X8_unwinds (l0 := 7) (hs := h2) (o := (ro - 1)) (w := rw0) (C := C2) ht ht6 hs2.2 hC2 (by omega)) rfl rfl (Nat.le_of_ble_eq_true rfl) (by decide) (fun m_223 h_223 => ?_)
              obtain ⟨C3, rfl, hs3, hC3⟩ := h_223
              have hln3 := unw_len (l := 7) h2 (ro - 1) rw0
              obtain ⟨R3, hR3⟩ : ∃ R, R = unw 7 h2 (ro - 1) rw0 := ⟨_, rfl⟩
              rw [← hR3] at hs3 hC3 hx hln3 ⊢
              refine pw_goto (tgt := 14) dX8_eRead_226 (by decide) ?_
              refine pw_sub [0, 1, 2] rfl ?_
              exact ih_14 E false mn R3.1 R3.2.2 R3.2.1 H C3 _ _ _ g1 hx (hs3) (hC3) (by omega) (by omega)
            · skip
              have h0 : r1 = [] := by
                cases r1 with
                | nil => rfl
                | cons x h2 => exact absurd c_195 (nI_ne0 (by simp) (by omega))
              subst h0
              try simp only [] at hx
              refine pw_iconst (v := 0) dX8_eRead_198 rfl ?_
              refine pw_zret dX8_eRead_199 rfl (by decide) ?_
              exact ⟨by rw [← hx]; rfl, by rw [← hx]; exact ⟨_, _, _, _, _, _, rfl, rfl, hC2, hEn.1, by show rw0.length + (n - E) ≤ L; omega⟩⟩
        · skip
          rw [if_pos c_156] at hx
          refine pw_aload_n dX8_eRead_159 rfl rfl ?_
          refine pw_iconst (v := 1) dX8_eRead_160 rfl ?_
          refine pw_cVv dX8_eRead_161 mv_X8_137 ckModel (T_X8_unwinds (l0 := 1) (hs := hs) (o := o) (w := w) (C := C) ht ht6 hst hC (by omega)) rfl rfl (Nat.le_of_ble_eq_true rfl) (by decide) (fun m_161 h_161 => ?_)
          obtain ⟨C2, rfl, hs2, hC2⟩ := h_161
          have hln := unw_len (l := 1) hs o w
          obtain ⟨R, hR⟩ : ∃ R, R = unw 1 hs o w := ⟨_, rfl⟩
          rw [← hR] at hs2 hC2 hx hln ⊢
          refine pw_aload_n dX8_eRead_164 rfl rfl ?_
          refine pw_getI dX8_eRead_165 fa_X8_120 rfl ?_
          refine pw_top (y := nI R.1.length) rfl ?_
          refine pw_if_ne (tgt := 175) dX8_eRead_168 (by decide) (fun c_168 => ?_) (fun c_168 => ?_)
          · skip
            have hem : R.1.isEmpty = false := by
              cases hr : R.1 with
              | nil => rw [hr] at c_168; exact absurd rfl c_168
              | cons x r => rfl
            refine pw_iconst (v := 0) dX8_eRead_175 rfl ?_
            refine pw_zret dX8_eRead_176 rfl (by decide) ?_
            exact ⟨by rw [← hx]; show 0 = b2 R.1.isEmpty; rw [hem]; rfl, by rw [← hx]; exact ⟨_, _, _, _, _, _, rfl, rfl, hC2, hEn.1, by show R.2.2.length + (n - E) ≤ L; omega⟩⟩
          · skip
            have hem : R.1.isEmpty = true := by
              cases hr : R.1 with
              | nil => rfl
              | cons x r => rw [hr] at c_168; exact absurd c_168 (nI_ne0 (by simp) (by rw [hr] at hln; omega))
            refine pw_iconst (v := 1) dX8_eRead_171 rfl ?_
            refine pw_goto (tgt := 176) dX8_eRead_172 (by decide) ?_
            refine pw_zret dX8_eRead_176 rfl (by decide) ?_
            exact ⟨by rw [← hx]; show 1 = b2 R.1.isEmpty; rw [hem]; rfl, by rw [← hx]; exact ⟨_, _, _, _, _, _, rfl, rfl, hC2, hEn.1, by show R.2.2.length + (n - E) ≤ L; omega⟩⟩
      · skip
        have hwa := b2_n c_19
        subst hwa
        rw [if_pos rfl] at hx
        refine pw_aload_n dX8_eRead_22 rfl rfl ?_
        refine pw_getI dX8_eRead_23 fa_X8_107 rfl ?_
        refine pw_top (y := T) rfl ?_
        refine pw_iconst (v := 1) dX8_eRead_26 rfl ?_
        refine pw_icmp_eq (tgt := 38) dX8_eRead_27 (by decide) (fun c_27 => ?_) (fun c_27 => ?_)
        · skip
          have ht12 : T = 1 ∨ T = 2 := Or.inl c_27
          rw [if_pos ht12] at hx
          have hn0 : ¬ T = 0 := fun g => by rw [g] at c_27; exact absurd c_27 (by decide)
          obtain ⟨g1, g2, g3⟩ := hgo hn0
          rw [g3] at hx
          refine pw_aload_n dX8_eRead_38 rfl rfl ?_
          refine pw_aload_n dX8_eRead_39 rfl rfl ?_
          refine pw_getI dX8_eRead_40 fa_X8_107 rfl ?_
          refine pw_top (y := T) rfl ?_
          refine pw_iconst (v := 1) dX8_eRead_43 rfl ?_
          refine pw_icmp_ne (tgt := 57) dX8_eRead_44 (by decide) (fun c_44 => ?_) (fun c_44 => ?_)
          · skip
            exact absurd c_27 c_44
          · skip
            refine pw_ldc dX8_eRead_47 k_X8_143 ?_
            refine pw_aload_n dX8_eRead_49 rfl rfl ?_
            refine pw_getI dX8_eRead_50 fa_X8_110 rfl ?_
            refine pw_top (y := W) rfl ?_
            refine pw_iadd dX8_eRead_53 ?_
            refine pw_goto (tgt := 61) dX8_eRead_54 (by decide) ?_
            obtain ⟨cd, hcd⟩ : ∃ cd, cd = (if T = 1 then 100000 + W else W) := ⟨_, rfl⟩
            rw [← hcd] at hx
            refine pw_top (y := cd) (by rw [hcd, if_pos c_27]) ?_
            refine pw_cVv dX8_eRead_61 mv_X8_130 ckModel (T_X8_puts (w := w) (t := t) ht ht6 (by omega)) rfl rfl (Nat.le_of_ble_eq_true rfl) (by decide) (fun m_61 h_61 => ?_)
            obtain rfl := h_61
            refine pw_aload_n dX8_eRead_64 rfl rfl ?_
            refine pw_bipush (v := 7) dX8_eRead_65 rfl ?_
            have hlw : (w ++ [cd]).length = w.length + 1 := by rw [List.length_append]; rfl
            rw [← hlw]
            refine pw_cVv dX8_eRead_67 mv_X8_137 ckModel (T_X8_unwinds (l0 := 7) (hs := hs) (o := o) (w := (w ++ [cd])) (C := _) ht ht6 hst (cdR_push hC) (by omega)) rfl rfl (Nat.le_of_ble_eq_true rfl) (by decide) (fun m_67 h_67 => ?_)
            obtain ⟨C2, rfl, hs2, hC2⟩ := h_67
            have hln := unw_len (l := 7) hs o (w ++ [cd])
            obtain ⟨R, hR⟩ : ∃ R, R = unw 7 hs o (w ++ [cd]) := ⟨_, rfl⟩
            rw [← hR] at hs2 hC2 hx hln ⊢
            refine pw_iconst (v := 0) dX8_eRead_70 rfl ?_
            refine pw_istore_n (ls2 := [(1, _), (0, _), (2, _)]) dX8_eRead_71 rfl (by decide) rfl ?_
            refine pw_goto (tgt := 14) dX8_eRead_72 (by decide) ?_
            refine pw_sub [1, 0, 2] rfl ?_
            exact ih_14 E false mn R.1 R.2.2 R.2.1 H C2 _ _ _ g1 hx (hs2) (hC2) (by omega) (by omega)
        · skip
          refine pw_aload_n dX8_eRead_30 rfl rfl ?_
          refine pw_getI dX8_eRead_31 fa_X8_107 rfl ?_
          refine pw_top (y := T) rfl ?_
          refine pw_iconst (v := 2) dX8_eRead_34 rfl ?_
          refine pw_icmp_ne (tgt := 75) dX8_eRead_35 (by decide) (fun c_35 => ?_) (fun c_35 => ?_)
          · skip
            have ht12 : ¬ (T = 1 ∨ T = 2) := fun g => g.elim c_27 c_35
            rw [if_neg ht12] at hx
            refine pw_aload_n dX8_eRead_75 rfl rfl ?_
            refine pw_getI dX8_eRead_76 fa_X8_107 rfl ?_
            refine pw_top (y := T) rfl ?_
            refine pw_bipush (v := 6) dX8_eRead_79 rfl ?_
            refine pw_icmp_ne (tgt := 99) dX8_eRead_81 (by decide) (fun c_81 => ?_) (fun c_81 => ?_)
            · skip
              have hnn : ¬ (T = 6 ∧ mn = true) := fun g => c_81 g.1
              rw [if_neg hnn] at hx
              refine pw_aload_n dX8_eRead_99 rfl rfl ?_
              refine pw_getI dX8_eRead_100 fa_X8_107 rfl ?_
              refine pw_top (y := T) rfl ?_
              refine pw_bipush (v := 45) dX8_eRead_103 rfl ?_
              refine pw_icmp_ne (tgt := 124) dX8_eRead_105 (by decide) (fun c_105 => ?_) (fun c_105 => ?_)
              · skip
                rw [if_neg c_105] at hx
                refine pw_aload_n dX8_eRead_124 rfl rfl ?_
                refine pw_getI dX8_eRead_125 fa_X8_107 rfl ?_
                refine pw_top (y := T) rfl ?_
                refine pw_bipush (v := 40) dX8_eRead_128 rfl ?_
                refine pw_icmp_ne (tgt := 148) dX8_eRead_130 (by decide) (fun c_130 => ?_) (fun c_130 => ?_)
                · skip
                  rw [if_neg c_130] at hx
                  refine pw_iconst (v := 0) dX8_eRead_148 rfl ?_
                  refine pw_zret dX8_eRead_149 rfl (by decide) ?_
                  exact ⟨by rw [← hx]; rfl, by rw [← hx]; exact ⟨_, _, _, _, _, _, rfl, rfl, hC, hEn.1, by show w.length + (n - E) ≤ L; omega⟩⟩
                · skip
                  rw [if_pos c_130] at hx
                  have hn0 : ¬ T = 0 := fun g => by rw [g] at c_130; exact absurd c_130 (by decide)
                  obtain ⟨g1, g2, g3⟩ := hgo hn0
                  refine pw_aload_n dX8_eRead_133 rfl rfl ?_
                  refine pw_iconst (v := 0) dX8_eRead_134 rfl ?_
                  refine pw_cVi dX8_eRead_135 mv_X8_144 ckModel (T_X8_opensOne (hs := hs) (by omega)) rfl rfl (Nat.le_of_ble_eq_true rfl) (by decide) (fun x_135 m_135 h_135 => ?_)
                  obtain ⟨rfl, rfl⟩ := h_135
                  refine pw_if_ne (tgt := 143) dX8_eRead_138 (by decide) (fun c_138 => ?_) (fun c_138 => ?_)
                  · skip
                    have hb_138 := b2_n c_138
                    have ho5 : ¬ o = 5 := fun g => by rw [g] at c_138; exact absurd c_138 (by decide)
                    rw [if_neg ho5] at hx ⊢
                    rw [g3] at hx
                    refine pw_iconst (v := 1) dX8_eRead_143 rfl ?_
                    refine pw_istore_n (ls2 := [(2, _), (0, _), (1, _)]) dX8_eRead_144 rfl (by decide) rfl ?_
                    refine pw_goto (tgt := 14) dX8_eRead_145 (by decide) ?_
                    refine pw_sub [1, 2, 0] rfl ?_
                    exact ih_14 E true true (0 :: hs) w (o + 1) _ C _ _ _ g1 hx (stk_push hst) (hC) (by show hs.length + 1 + w.length + (n - E) ≤ L; omega) (by omega)
                  · skip
                    have hb_138 := b2_0 c_138
                    have ho5 : o = 5 := by
                      by_cases g : o = 5
                      · exact g
                      · rw [decide_eq_false g] at c_138; exact absurd c_138 (by decide)
                    rw [if_pos ho5] at hx ⊢
                    refine pw_iconst (v := 0) dX8_eRead_141 rfl ?_
                    refine pw_zret dX8_eRead_142 rfl (by decide) ?_
                    exact ⟨by rw [← hx]; rfl, by rw [← hx]; exact ⟨_, _, _, _, _, _, rfl, rfl, hC, hEn.1, by show w.length + (n - E) ≤ L; omega⟩⟩
              · skip
                rw [if_pos c_105] at hx
                have hn0 : ¬ T = 0 := fun g => by rw [g] at c_105; exact absurd c_105 (by decide)
                obtain ⟨g1, g2, g3⟩ := hgo hn0
                refine pw_aload_n dX8_eRead_108 rfl rfl ?_
                refine pw_bipush (v := 19) dX8_eRead_109 rfl ?_
                refine pw_cVi dX8_eRead_111 mv_X8_144 ckModel (T_X8_opensOne (hs := hs) (by omega)) rfl rfl (Nat.le_of_ble_eq_true rfl) (by decide) (fun x_111 m_111 h_111 => ?_)
                obtain ⟨rfl, rfl⟩ := h_111
                refine pw_if_ne (tgt := 119) dX8_eRead_114 (by decide) (fun c_114 => ?_) (fun c_114 => ?_)
                · skip
                  have hb_114 := b2_n c_114
                  have ho5 : ¬ o = 5 := fun g => by rw [g] at c_114; exact absurd c_114 (by decide)
                  rw [if_neg ho5] at hx ⊢
                  rw [g3] at hx
                  refine pw_iconst (v := 0) dX8_eRead_119 rfl ?_
                  refine pw_istore_n (ls2 := [(2, _), (0, _), (1, _)]) dX8_eRead_120 rfl (by decide) rfl ?_
                  refine pw_goto (tgt := 14) dX8_eRead_121 (by decide) ?_
                  refine pw_sub [1, 2, 0] rfl ?_
                  exact ih_14 E true false (19 :: hs) w (o + 1) _ C _ _ _ g1 hx (stk_push hst) (hC) (by show hs.length + 1 + w.length + (n - E) ≤ L; omega) (by omega)
                · skip
                  have hb_114 := b2_0 c_114
                  have ho5 : o = 5 := by
                    by_cases g : o = 5
                    · exact g
                    · rw [decide_eq_false g] at c_114; exact absurd c_114 (by decide)
                  rw [if_pos ho5] at hx ⊢
                  refine pw_iconst (v := 0) dX8_eRead_117 rfl ?_
                  refine pw_zret dX8_eRead_118 rfl (by decide) ?_
                  exact ⟨by rw [← hx]; rfl, by rw [← hx]; exact ⟨_, _, _, _, _, _, rfl, rfl, hC, hEn.1, by show w.length + (n - E) ≤ L; omega⟩⟩
            · skip
              have hn0 : ¬ T = 0 := fun g => by rw [g] at c_81; exact absurd c_81 (by decide)
              obtain ⟨g1, g2, g3⟩ := hgo hn0
              refine pw_iload_n dX8_eRead_84 rfl rfl ?_
              refine pw_if_eq (tgt := 99) dX8_eRead_85 (by decide) (fun c_85 => ?_) (fun c_85 => ?_)
              · skip
                have hmn := b2_0 c_85
                have hnn : ¬ (T = 6 ∧ mn = true) := fun g => by rw [hmn] at g; exact absurd g.2 Bool.false_ne_true
                rw [if_neg hnn] at hx
                refine pw_aload_n dX8_eRead_99 rfl rfl ?_
                refine pw_getI dX8_eRead_100 fa_X8_107 rfl ?_
                refine pw_top (y := T) rfl ?_
                refine pw_bipush (v := 45) dX8_eRead_103 rfl ?_
                refine pw_icmp_ne (tgt := 124) dX8_eRead_105 (by decide) (fun c_105 => ?_) (fun c_105 => ?_)
                · skip
                  rw [if_neg c_105] at hx
                  refine pw_aload_n dX8_eRead_124 rfl rfl ?_
                  refine pw_getI dX8_eRead_125 fa_X8_107 rfl ?_
                  refine pw_top (y := T) rfl ?_
                  refine pw_bipush (v := 40) dX8_eRead_128 rfl ?_
                  refine pw_icmp_ne (tgt := 148) dX8_eRead_130 (by decide) (fun c_130 => ?_) (fun c_130 => ?_)
                  · skip
                    rw [if_neg c_130] at hx
                    refine pw_iconst (v := 0) dX8_eRead_148 rfl ?_
                    refine pw_zret dX8_eRead_149 rfl (by decide) ?_
                    exact ⟨by rw [← hx]; rfl, by rw [← hx]; exact ⟨_, _, _, _, _, _, rfl, rfl, hC, hEn.1, by show w.length + (n - E) ≤ L; omega⟩⟩
                  · skip
                    rw [if_pos c_130] at hx
                    have hn0 : ¬ T = 0 := fun g => by rw [g] at c_130; exact absurd c_130 (by decide)
                    obtain ⟨g1, g2, g3⟩ := hgo hn0
                    refine pw_aload_n dX8_eRead_133 rfl rfl ?_
                    refine pw_iconst (v := 0) dX8_eRead_134 rfl ?_
                    refine pw_cVi dX8_eRead_135 mv_X8_144 ckModel (T_X8_opensOne (hs := hs) (by omega)) rfl rfl (Nat.le_of_ble_eq_true rfl) (by decide) (fun x_135 m_135 h_135 => ?_)
                    obtain ⟨rfl, rfl⟩ := h_135
                    refine pw_if_ne (tgt := 143) dX8_eRead_138 (by decide) (fun c_138 => ?_) (fun c_138 => ?_)
                    · skip
                      have hb_138 := b2_n c_138
                      have ho5 : ¬ o = 5 := fun g => by rw [g] at c_138; exact absurd c_138 (by decide)
                      rw [if_neg ho5] at hx ⊢
                      rw [g3] at hx
                      refine pw_iconst (v := 1) dX8_eRead_143 rfl ?_
                      refine pw_istore_n (ls2 := [(2, _), (0, _), (1, _)]) dX8_eRead_144 rfl (by decide) rfl ?_
                      refine pw_goto (tgt := 14) dX8_eRead_145 (by decide) ?_
                      refine pw_sub [1, 2, 0] rfl ?_
                      exact ih_14 E true true (0 :: hs) w (o + 1) _ C _ _ _ g1 hx (stk_push hst) (hC) (by show hs.length + 1 + w.length + (n - E) ≤ L; omega) (by omega)
                    · skip
                      have hb_138 := b2_0 c_138
                      have ho5 : o = 5 := by
                        by_cases g : o = 5
                        · exact g
                        · rw [decide_eq_false g] at c_138; exact absurd c_138 (by decide)
                      rw [if_pos ho5] at hx ⊢
                      refine pw_iconst (v := 0) dX8_eRead_141 rfl ?_
                      refine pw_zret dX8_eRead_142 rfl (by decide) ?_
                      exact ⟨by rw [← hx]; rfl, by rw [← hx]; exact ⟨_, _, _, _, _, _, rfl, rfl, hC, hEn.1, by show w.length + (n - E) ≤ L; omega⟩⟩
                · skip
                  rw [if_pos c_105] at hx
                  have hn0 : ¬ T = 0 := fun g => by rw [g] at c_105; exact absurd c_105 (by decide)
                  obtain ⟨g1, g2, g3⟩ := hgo hn0
                  refine pw_aload_n dX8_eRead_108 rfl rfl ?_
                  refine pw_bipush (v := 19) dX8_eRead_109 rfl ?_
                  refine pw_cVi dX8_eRead_111 mv_X8_144 ckModel (T_X8_opensOne (hs := hs) (by omega)) rfl rfl (Nat.le_of_ble_eq_true rfl) (by decide) (fun x_111 m_111 h_111 => ?_)
                  obtain ⟨rfl, rfl⟩ := h_111
                  refine pw_if_ne (tgt := 119) dX8_eRead_114 (by decide) (fun c_114 => ?_) (fun c_114 => ?_)
                  · skip
                    have hb_114 := b2_n c_114
                    have ho5 : ¬ o = 5 := fun g => by rw [g] at c_114; exact absurd c_114 (by decide)
                    rw [if_neg ho5] at hx ⊢
                    rw [g3] at hx
                    refine pw_iconst (v := 0) dX8_eRead_119 rfl ?_
                    refine pw_istore_n (ls2 := [(2, _), (0, _), (1, _)]) dX8_eRead_120 rfl (by decide) rfl ?_
                    refine pw_goto (tgt := 14) dX8_eRead_121 (by decide) ?_
                    refine pw_sub [1, 2, 0] rfl ?_
                    exact ih_14 E true false (19 :: hs) w (o + 1) _ C _ _ _ g1 hx (stk_push hst) (hC) (by show hs.length + 1 + w.length + (n - E) ≤ L; omega) (by omega)
                  · skip
                    have hb_114 := b2_0 c_114
                    have ho5 : o = 5 := by
                      by_cases g : o = 5
                      · exact g
                      · rw [decide_eq_false g] at c_114; exact absurd c_114 (by decide)
                    rw [if_pos ho5] at hx ⊢
                    refine pw_iconst (v := 0) dX8_eRead_117 rfl ?_
                    refine pw_zret dX8_eRead_118 rfl (by decide) ?_
                    exact ⟨by rw [← hx]; rfl, by rw [← hx]; exact ⟨_, _, _, _, _, _, rfl, rfl, hC, hEn.1, by show w.length + (n - E) ≤ L; omega⟩⟩
              · skip
                have hmn := b2_n c_85
                rw [if_pos ⟨c_81, hmn⟩] at hx
                refine pw_aload_n dX8_eRead_88 rfl rfl ?_
                refine pw_bipush (v := 13) dX8_eRead_89 rfl ?_
                refine pw_cVi dX8_eRead_91 mv_X8_144 ckModel (T_X8_opensOne (hs := hs) (by omega)) rfl rfl (Nat.le_of_ble_eq_true rfl) (by decide) (fun x_91 m_91 h_91 => ?_)
                obtain ⟨rfl, rfl⟩ := h_91
                refine pw_if_ne (tgt := 14) dX8_eRead_94 (by decide) (fun c_94 => ?_) (fun c_94 => ?_)
                · skip
                  have hb_94 := b2_n c_94
                  have ho5 : ¬ o = 5 := fun g => by rw [g] at c_94; exact absurd c_94 (by decide)
                  rw [if_neg ho5] at hx ⊢
                  rw [g3] at hx
                  refine pw_sub [0, 1, 2] rfl ?_
                  exact ih_14 E true mn (13 :: hs) w (o + 1) _ C _ _ _ g1 hx (stk_push hst) (hC) (by show hs.length + 1 + w.length + (n - E) ≤ L; omega) (by omega)
                · skip
                  have hb_94 := b2_0 c_94
                  have ho5 : o = 5 := by
                    by_cases g : o = 5
                    · exact g
                    · rw [decide_eq_false g] at c_94; exact absurd c_94 (by decide)
                  rw [if_pos ho5] at hx ⊢
                  refine pw_iconst (v := 0) dX8_eRead_97 rfl ?_
                  refine pw_zret dX8_eRead_98 rfl (by decide) ?_
                  exact ⟨by rw [← hx]; rfl, by rw [← hx]; exact ⟨_, _, _, _, _, _, rfl, rfl, hC, hEn.1, by show w.length + (n - E) ≤ L; omega⟩⟩
          · skip
            have ht12 : T = 1 ∨ T = 2 := Or.inr c_35
            rw [if_pos ht12] at hx
            have hn0 : ¬ T = 0 := fun g => by rw [g] at c_35; exact absurd c_35 (by decide)
            obtain ⟨g1, g2, g3⟩ := hgo hn0
            rw [g3] at hx
            refine pw_aload_n dX8_eRead_38 rfl rfl ?_
            refine pw_aload_n dX8_eRead_39 rfl rfl ?_
            refine pw_getI dX8_eRead_40 fa_X8_107 rfl ?_
            refine pw_top (y := T) rfl ?_
            refine pw_iconst (v := 1) dX8_eRead_43 rfl ?_
            refine pw_icmp_ne (tgt := 57) dX8_eRead_44 (by decide) (fun c_44 => ?_) (fun c_44 => ?_)
            · skip
              refine pw_aload_n dX8_eRead_57 rfl rfl ?_
              refine pw_getI dX8_eRead_58 fa_X8_110 rfl ?_
              obtain ⟨cd, hcd⟩ : ∃ cd, cd = (if T = 1 then 100000 + W else W) := ⟨_, rfl⟩
              rw [← hcd] at hx
              refine pw_top (y := cd) (by rw [hcd, if_neg c_27]; rfl) ?_
              refine pw_cVv dX8_eRead_61 mv_X8_130 ckModel (T_X8_puts (w := w) (t := t) ht ht6 (by omega)) rfl rfl (Nat.le_of_ble_eq_true rfl) (by decide) (fun m_61 h_61 => ?_)
              obtain rfl := h_61
              refine pw_aload_n dX8_eRead_64 rfl rfl ?_
              refine pw_bipush (v := 7) dX8_eRead_65 rfl ?_
              have hlw : (w ++ [cd]).length = w.length + 1 := by rw [List.length_append]; rfl
              rw [← hlw]
              refine pw_cVv dX8_eRead_67 mv_X8_137 ckModel (T_X8_unwinds (l0 := 7) (hs := hs) (o := o) (w := (w ++ [cd])) (C := _) ht ht6 hst (cdR_push hC) (by omega)) rfl rfl (Nat.le_of_ble_eq_true rfl) (by decide) (fun m_67 h_67 => ?_)
              obtain ⟨C2, rfl, hs2, hC2⟩ := h_67
              have hln := unw_len (l := 7) hs o (w ++ [cd])
              obtain ⟨R, hR⟩ : ∃ R, R = unw 7 hs o (w ++ [cd]) := ⟨_, rfl⟩
              rw [← hR] at hs2 hC2 hx hln ⊢
              refine pw_iconst (v := 0) dX8_eRead_70 rfl ?_
              refine pw_istore_n (ls2 := [(1, _), (0, _), (2, _)]) dX8_eRead_71 rfl (by decide) rfl ?_
              refine pw_goto (tgt := 14) dX8_eRead_72 (by decide) ?_
              refine pw_sub [1, 0, 2] rfl ?_
              exact ih_14 E false mn R.1 R.2.2 R.2.1 H C2 _ _ _ g1 hx (hs2) (hC2) (by omega) (by omega)
            · skip
              exact absurd c_44 c_27
  refine pw_sub [2, 1, 0] rfl ?_
  refine pw_mem t_31 ?_
  exact L_14 (n + 1) p0 true true [] w 0 H C b tk v hp hR0.symm trivial hC (by show 0 + w.length + (n - p0) ≤ L; omega) (by omega)

