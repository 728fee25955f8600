/-! the words depend on what is counted alone -/
theorem jkF_c {a b : Nat} {U V : VW} (e : EqV a b U V) (j : Int32) : jkF U j = jkF V j := by unfold jkF; rw [e.1.1]
theorem hrF_c {a b : Nat} {U V : VW} (e : EqV a b U V) (h : Int32) : hrF U h = hrF V h := by unfold hrF; rw [e.1.2.1]
theorem refT_c {a b : Nat} {U V : VW} (e : EqV a b U V) (j h : Int32) : refT U j h = refT V j h := by unfold refT; rw [jkF_c e, hrF_c e]
theorem allF_c {a b : Nat} {U V : VW} (e : EqV a b U V) : allF U = allF V := by unfold allF; rw [e.1.2.1]
theorem areF_c {a b : Nat} {U V : VW} (e : EqV a b U V) (x : Int32) : areF U x = areF V x := by unfold areF; rw [allF_c e]
theorem jk_cl {V : VW} {j : Int32} {nj : Nat} (h1 : V 0 1 = nI nj) (hj : nj ≤ 5) (h : jkF V j = true) : cl j < nj := by
  obtain ⟨k, hk, _, rfl⟩ := jk_of h1 hj h
  rw [cl_nI (by omega)]
  exact hk
theorem hr_cl {V : VW} {j : Int32} {nh : Nat} (h5 : V 0 5 = nI nh) (hj : nh ≤ 6) (h : hrF V j = true) : cl j < nh := by
  obtain ⟨k, hk, _, rfl⟩ := hr_of h5 hj h
  rw [cl_nI (by omega)]
  exact hk
theorem countF_c {a b : Nat} {U V : VW} (e : EqV a b U V) (x y w : Int32) : countF U x y w = countF V x y w := by
  unfold countF
  rw [e.1.1, e.1.2.1, e.1.2.2.1, e.1.2.2.2]
section CONG
variable {nj nh : Nat} {U V : VW} {B : BK}
theorem asksF_c (e : EqV nj nh U V) (h5 : V 0 5 = nI nh) (hh : nh ≤ 6) (p t h m : Int32) : asksF B U p t h m = asksF B V p t h m := by
  unfold asksF
  rw [hrF_c e]
  cases hb : hrF V h with
  | false => simp only [Bool.false_and, Bool.and_false, Bool.false_eq_true, if_false]
  | true => rw [saysF_c e (hr_cl h5 hh hb)]
theorem toldF_c (e : EqV nj nh U V) (h1 : V 0 1 = nI nj) (hj : nj ≤ 5) (j w : Int32) : toldF U j w = toldF V j w := by
  unfold toldF
  rw [jkF_c e]
  cases hb : jkF V j with
  | false => rfl
  | true =>
    obtain ⟨e1, e2, e3⟩ := e.2.1 _ (jk_cl h1 hj hb)
    rw [e1, e2, e3]
theorem trF_c (e : EqV nj nh U V) {h : Nat} (hh : h < nh) (w : Int32) : trF U h w = trF V h w := by
  obtain ⟨e4, e5, e6, e7, e8⟩ := e.2.2 h hh
  unfold trF
  rw [e4, e5, e6, e7, e8]
theorem ofF_c (e : EqV nj nh U V) (h5 : V 0 5 = nI nh) (hh : nh ≤ 6) (h w : Int32) : ofF U h w = ofF V h w := by
  unfold ofF
  rw [hrF_c e]
  cases hb : hrF V h with
  | false => rfl
  | true => rw [trF_c e (hr_cl h5 hh hb)]
theorem ref_cl (h1 : V 0 1 = nI nj) (hj : nj ≤ 5) (h5 : V 0 5 = nI nh) (hh : nh ≤ 6) {j h : Int32} (r : refT V j h = 0) : cl j < nj ∧ cl h < nh := ⟨jk_cl h1 hj (refT_0 r).1, hr_cl h5 hh (refT_0 r).2⟩
theorem yieldsF_c (e : EqV nj nh U V) (h1 : V 0 1 = nI nj) (hj : nj ≤ 5) (h5 : V 0 5 = nI nh) (hh : nh ≤ 6) (j h : Int32) : yieldsF B U j h = yieldsF B V j h := by
  unfold yieldsF
  rw [refT_c e]
  by_cases r : refT V j h = 0
  · obtain ⟨a, b⟩ := ref_cl h1 hj h5 hh r
    rw [if_pos r, if_pos r, yF_c e a b]
  · rw [if_neg r, if_neg r]
theorem fadesF_c (e : EqV nj nh U V) (h5 : V 0 5 = nI nh) (hh : nh ≤ 6) (h : Int32) : fadesF B U h = fadesF B V h := by
  unfold fadesF
  rw [hrF_c e]
  cases hb : hrF V h with
  | false => simp only [Bool.false_and, Bool.and_false, Bool.false_eq_true, if_false]
  | true => rw [fadeF_c e (hr_cl h5 hh hb)]
theorem mnL_c {j h : Nat} (hj : j < nj) (hh : h < nh) (mu : Int32) : ∀ (m k : Nat) (U V : VW), EqV nj nh U V → mnL B j h mu m k U = mnL B j h mu m k V
  | 0, _, _, _, _ => rfl
  | m + 1, k, U, V, e => by
    unfold mnL
    rw [yF_c e hj hh, mnL_c hj hh mu m (k + 1) _ _ (tellV_c e hj hh)]
theorem mineF_c (e : EqV nj nh U V) (h1 : V 0 1 = nI nj) (hj : nj ≤ 5) (h5 : V 0 5 = nI nh) (hh : nh ≤ 6) (j h mu : Int32) : mineF B U j h mu = mineF B V j h mu := by
  unfold mineF
  rw [refT_c e]
  by_cases r : refT V j h = 0
  · obtain ⟨a, b⟩ := ref_cl h1 hj h5 hh r
    rw [if_pos r, if_pos r, mnL_c a b mu 100 0 _ _ e]
  · rw [if_neg r, if_neg r]
theorem teF_c (e : EqV nj nh U V) {j : Nat} (hj : j < nj) : ∀ m, m ≤ nh → teF B U j m = teF B V j m
  | 0, _ => rfl
  | m + 1, hm => by
    unfold teF
    rw [teF_c e hj m (by omega), yF_c (tlE_c (h := 0) e hj m (by omega)) hj (by omega)]
theorem roL_c (e : EqV nj nh U V) : ∀ (m j : Nat) (b : Int32 × Int32), j + m ≤ nj → roL B U nh m j b = roL B V nh m j b
  | 0, _, _, _ => rfl
  | m + 1, j, b, h => by
    unfold roL
    rw [teF_c e (show j < nj by omega) nh (Nat.le_refl _), roL_c e m (j + 1) _ (by omega)]
theorem roundF_c (e : EqV nj nh U V) (w : Int32) : roundF B U nj nh w = roundF B V nj nh w := by
  unfold roundF
  rw [roL_c e nj 0 _ (by omega)]
theorem wbF_c (e : EqV nj nh U V) {j h : Nat} (hj : j < nj) (hh : h < nh) : wbF B nh U j h = wbF B nh V j h := by
  unfold wbF
  exact yF_c (tlE_c (h := 0) (tlE_c e hj (nh - (h + 1)) (by omega)) hj h (by omega)) hj hh
theorem laL_c (e : EqV nj nh U V) {j : Nat} (hj : j < nj) : ∀ (m h : Nat) (b : Int32 × Int32), h + m ≤ nh → laL B U nh j m h b = laL B V nh j m h b
  | 0, _, _, _ => rfl
  | m + 1, h, b, hm => by
    unfold laL
    rw [yF_c e hj (show h < nh by omega), wbF_c e hj (show h < nh by omega), laL_c e hj m (h + 1) _ (by omega)]
theorem lastF_c (e : EqV nj nh U V) (h1 : V 0 1 = nI nj) (hj : nj ≤ 5) (j : Int32) : lastF B U nh j = lastF B V nh j := by
  unfold lastF
  rw [jkF_c e]
  cases hb : jkF V j with
  | false => simp only [Bool.false_and, Bool.and_false, Bool.false_eq_true, if_false]
  | true => rw [if_pos rfl, if_pos rfl, laL_c e (jk_cl h1 hj hb) nh 0 _ (by omega)]
theorem grL_c (h0 : 0 < nj) (h2 : 0 < nh) : ∀ (m : Nat) (U V : VW) (s : Int32), EqV nj nh U V → grL B nj nh m U s = grL B nj nh m V s
  | 0, _, _, _, _ => rfl
  | m + 1, U, V, s, e => by
    obtain ⟨a, b⟩ := deF_lt (B := B) (V := V) h0 h2
    unfold grL
    rw [deF_c e, yF_c e a b, grL_c h0 h2 m _ _ _ (tellV_c e a b)]
theorem greedyF_c (e : EqV nj nh U V) (n w : Int32) : greedyF B U nj nh n w = greedyF B V nj nh n w := by
  unfold greedyF
  cases hc : canF nj nh with
  | false => rfl
  | true =>
    obtain ⟨a, b⟩ := canF_p hc
    rw [deF_c e, grL_c a b _ _ _ _ e]
theorem drL_c (h0 : 0 < nj) (h2 : 0 < nh) : ∀ (m a : Nat) (U V : VW) (s : Int32), EqV nj nh U V → drL B nj nh m a U s = drL B nj nh m a V s
  | 0, _, _, _, _, _ => rfl
  | m + 1, a, U, V, s, e => by
    have x := Nat.mod_lt (lotN a) h0
    have y := Nat.mod_lt (lotN a / nj) h2
    unfold drL
    rw [yF_c e x y, drL_c h0 h2 m _ _ _ _ (tellV_c e x y)]
theorem drS_c (h0 : 0 < nj) (h2 : 0 < nh) (e : EqV nj nh U V) (sd n : Nat) : drS B U nj nh sd n = drS B V nj nh sd n := drL_c h0 h2 n (sd + 1) U V 0 e
theorem drawnF_c (e : EqV nj nh U V) (sd n : Int32) : drawnF B U nj nh sd n = drawnF B V nj nh sd n := by
  unfold drawnF
  cases hc : canF nj nh with
  | false => rfl
  | true =>
    obtain ⟨a, b⟩ := canF_p hc
    rw [drS_c a b e]
theorem abL_c (h0 : 0 < nj) (h2 : 0 < nh) (e : EqV nj nh U V) (sd many : Nat) (mu : Int32) : ∀ m k a, abL B U nj nh sd many mu m k a = abL B V nj nh sd many mu m k a
  | 0, _, _ => rfl
  | m + 1, k, a => by
    unfold abL
    rw [drS_c h0 h2 e, abL_c h0 h2 e sd many mu m (k + 1)]
theorem oddsF_c (e : EqV nj nh U V) (sd ms mu pa : Int32) : oddsF B U nj nh sd ms mu pa = oddsF B V nj nh sd ms mu pa := by
  unfold oddsF
  cases hc : canF nj nh with
  | false => simp only [Bool.and_false, Bool.false_eq_true, if_false]
  | true =>
    obtain ⟨a, b⟩ := canF_p hc
    unfold odF odA
    rw [abL_c a b e]
theorem minuteF_c {fr fr2 ca ca2 : Nat → Int32} {la th : Int32} : ∀ n, (∀ h, h < n → fr h = fr2 h ∧ ca h = ca2 h) → minuteF fr ca la th n = minuteF fr2 ca2 la th n
  | 0, _ => rfl
  | h + 1, g => by
    unfold minuteF
    rw [(g h (by omega)).1, (g h (by omega)).2, minuteF_c h (fun k hk => g k (by omega))]
theorem atLastF_c {fr fr2 ca ca2 : Nat → Int32} {n : Nat} {a th : Int32} (g : ∀ h, h < n → fr h = fr2 h ∧ ca h = ca2 h) : ∀ k, atLastF fr ca n a th k = atLastF fr2 ca2 n a th k
  | 0 => rfl
  | k + 1 => by
    unfold atLastF
    rw [atLastF_c g k, minuteF_c n g]
theorem mtlF_c {fr fr2 ca ca2 : Nat → Int32} {n : Nat} {th : Int32} (g : ∀ h, h < n → fr h = fr2 h ∧ ca h = ca2 h) : ∀ (m : Nat) (a : Int32), mtlF fr ca n th m a = mtlF fr2 ca2 n th m a
  | 0, _ => rfl
  | m + 1, a => by
    unfold mtlF
    rw [minuteF_c n g, mtlF_c g m]
theorem frca (e : EqV nj nh U V) : ∀ h, h < nh → U 6 h = V 6 h ∧ U 8 h = V 8 h := fun h hh => ⟨(e.2.2 h hh).2.2.1, (e.2.2 h hh).2.2.2.2⟩
theorem caughtF_c (e : EqV nj nh U V) (f m : Int32) : caughtF U nh f m = caughtF V nh f m := by
  unfold caughtF
  rw [areF_c e, allF_c e, atLastF_c (frca e)]
theorem panicF_c (e : EqV nj nh U V) (f w : Int32) : panicF U nh f w = panicF V nh f w := by
  unfold panicF
  rw [areF_c e, allF_c e, atLastF_c (frca e), mtlF_c (frca e)]
theorem sdL_c (e : EqV nj nh U V) : ∀ (m i : Nat) (b : Int32), sdL U nh m i b = sdL V nh m i b
  | 0, _, _ => rfl
  | m + 1, i, b => by
    unfold sdL
    rw [allF_c e, atLastF_c (frca e), sdL_c e m]
theorem seedsF_c (e : EqV nj nh U V) (w : Int32) : seedsF U nh w = seedsF V nh w := by
  unfold seedsF
  rw [allF_c e, sdL_c e]
theorem spL_c (e : EqV nj nh U V) (f ma : Int32) : ∀ (m i : Nat) (b : Int32), spL U nh f ma m i b = spL V nh f ma m i b
  | 0, _, _ => rfl
  | m + 1, i, b => by
    unfold spL
    rw [allF_c e, atLastF_c (frca e), spL_c e f ma m]
theorem stopF_c (e : EqV nj nh U V) (f ma : Int32) : stopF U nh f ma = stopF V nh f ma := by
  unfold stopF
  rw [areF_c e, spL_c e]
theorem dayF_c {fr fr2 : Nat → Int32} {n : Nat} {on had : Int32} : ∀ (h : Nat) (x : Int32), (∀ k, k < h → fr k = fr2 k) → dayF fr n on had h x = dayF fr2 n on had h x
  | 0, _, _ => rfl
  | h + 1, x, g => by
    unfold dayF
    rw [dayF_c h x (fun k hk => g k (by omega)), g h (by omega)]
theorem daysF_c {fr fr2 : Nat → Int32} {n : Nat} {on fi : Int32} (g : ∀ k, k < n → fr k = fr2 k) : ∀ d, daysF fr n on fi d = daysF fr2 n on fi d
  | 0 => rfl
  | d + 1 => by
    unfold daysF
    rw [daysF_c g d, dayF_c n _ g]
theorem hbF_c (e : EqV nj nh U V) {j : Nat} (hj : j < nj) (fi : Int32) (d : Nat) : hbF U nh j fi d = hbF V nh j fi d := by
  unfold hbF
  rw [(e.2.1 j hj).1, (e.2.1 j hj).2.1, daysF_c (fun k hk => (e.2.2 k hk).2.2.1)]
theorem spreadF_c (e : EqV nj nh U V) (h1 : V 0 1 = nI nj) (hj : nj ≤ 5) (j f d : Int32) : spreadF U nh j f d = spreadF V nh j f d := by
  unfold spreadF
  rw [jkF_c e, areF_c e]
  cases hb : jkF V j with
  | false => simp only [Bool.false_and, Bool.and_false, Bool.false_eq_true, if_false]
  | true => rw [hbF_c e (jk_cl h1 hj hb)]
theorem thL_c (e : EqV nj nh U V) {j : Nat} (hj : j < nj) (h : Nat) : ∀ (m d : Nat), thL U nh j h m d = thL V nh j h m d
  | 0, _ => rfl
  | m + 1, d => by
    unfold thL
    rw [hbF_c e hj, allF_c e, thL_c e hj h m]
theorem throughF_c (e : EqV nj nh U V) (h1 : V 0 1 = nI nj) (hj : nj ≤ 5) (h5 : V 0 5 = nI nh) (hh : nh ≤ 6) (j h : Int32) : throughF U nh j h = throughF V nh j h := by
  unfold throughF
  rw [refT_c e]
  by_cases r : refT V j h = 0
  · rw [if_pos r, if_pos r, thL_c e (ref_cl h1 hj h5 hh r).1]
  · rw [if_neg r, if_neg r]
theorem orL_c (e : EqV nj nh U V) {j : Nat} (hj : j < nj) (x : Int32) (d : Nat) : ∀ (m h : Nat) (b : Int32), orL U nh j x d m h b = orL V nh j x d m h b
  | 0, _, _ => rfl
  | m + 1, h, b => by
    unfold orL
    rw [hbF_c e hj, orL_c e hj x d m]
theorem originF_c (e : EqV nj nh U V) (h1 : V 0 1 = nI nj) (hj : nj ≤ 5) (j x d : Int32) : originF U nh j x d = originF V nh j x d := by
  unfold originF
  rw [jkF_c e, areF_c e]
  cases hb : jkF V j with
  | false => simp only [Bool.false_and, Bool.and_false, Bool.false_eq_true, if_false]
  | true => rw [orL_c e (jk_cl h1 hj hb)]
theorem fuL_c (e : EqV nj nh U V) {j : Nat} (hj : j < nj) (d : Nat) : ∀ (m h : Nat) (b : Int32 × Int32), fuL U nh j d m h b = fuL V nh j d m h b
  | 0, _, _ => rfl
  | m + 1, h, b => by
    unfold fuL
    rw [hbF_c e hj, fuL_c e hj d m]
theorem furF_c (e : EqV nj nh U V) (h1 : V 0 1 = nI nj) (hj : nj ≤ 5) (j d w : Int32) : furF U nh j d w = furF V nh j d w := by
  unfold furF
  rw [jkF_c e]
  cases hb : jkF V j with
  | false => simp only [Bool.false_and, Bool.and_false, Bool.false_eq_true, if_false]
  | true => rw [fuL_c e (jk_cl h1 hj hb)]
theorem chF_c {r r2 : Nat → Int32} (g : ∀ k, k < 16 → r k = r2 k) {a b : Nat} (ha : a < 4) (hb : b < 4) (m : Int64) : chF r a b m = chF r2 a b m := by
  unfold chF
  rw [g (4 * a + b) (by omega)]
theorem goS_c {r r2 : Nat → Int32} (g : ∀ k, k < 16 → r k = r2 k) {fi : Nat} {f f2 : Nat → Int64 → Nat → Nat → Int64 × Int32 → Int64 × Int32} (hf : ∀ (t : Nat) (m : Int64) (d b : Nat) (a : Int64 × Int32), t < 4 → f t m d b a = f2 t m d b a) {at0 : Nat} (ha : at0 < 4) (m : Int64) (dg b : Nat) : ∀ (k t : Nat) (a : Int64 × Int32), t + k ≤ 4 → goS r fi f at0 m dg b t k a = goS r2 fi f2 at0 m dg b t k a
  | 0, _, _, _ => rfl
  | k + 1, t, a, h => by
    unfold goS
    rw [chF_c g ha (show t < 4 by omega), hf t _ _ _ _ (by omega), goS_c g hf ha m dg b k (t + 1) _ (by omega)]
theorem goF_c {r r2 : Nat → Int32} (g : ∀ k, k < 16 → r k = r2 k) {fi : Nat} : ∀ (fu at0 : Nat) (m : Int64) (dg b : Nat) (a : Int64 × Int32), at0 < 4 → goF r fi fu at0 m dg b a = goF r2 fi fu at0 m dg b a
  | 0, _, _, _, _, _, _ => rfl
  | fu + 1, at0, m, dg, b, a, ha => goS_c g (fun t m d b a ht => goF_c g fu t m d b a ht) ha m dg b 4 0 a (by omega)
theorem tw_cl {a : Int32} (h : inF a 0 3 = true) : cl a < 4 := by
  obtain ⟨k, hk, rfl⟩ := is_sh h
  rw [cl_nI (by omega)]
  exact hk
theorem changeF_c (g : ∀ k, k < 16 → U 9 k = V 9 k) (a b m : Int32) : changeF U a b m = changeF V a b m := by
  unfold changeF
  cases ha : inF a 0 3 with
  | false => simp only [Bool.false_and, Bool.and_false, Bool.false_eq_true, if_false]
  | true =>
    cases hb : inF b 0 3 with
    | false => simp only [Bool.false_and, Bool.and_false, Bool.false_eq_true, if_false]
    | true => rw [chF_c g (tw_cl ha) (tw_cl hb)]
theorem gainF_c (g : ∀ k, k < 16 → U 9 k = V 9 k) (a m w : Int32) : gainF U a m w = gainF V a m w := by
  unfold gainF
  cases ha : inF a 0 3 with
  | false => simp only [Bool.false_and, Bool.and_false, Bool.false_eq_true, if_false]
  | true => rw [goF_c g 4 _ _ _ _ _ (tw_cl ha)]
theorem rsF_c (e : EqV nj nh U V) (so sz : Nat → Int32) (s : Int32) : rsF so sz U s = rsF so sz V s := by unfold rsF; rw [e.1.1]
theorem rjF_c (e : EqV nj nh U V) (so sz : Nat → Int32) (s h : Int32) : rjF so sz U s h = rjF so sz V s h := by unfold rjF; rw [rsF_c e, hrF_c e]
theorem rjjF_c (e : EqV nj nh U V) (so sz : Nat → Int32) (s h j : Int32) : rjjF so sz U s h j = rjjF so sz V s h j := by unfold rjjF; rw [rjF_c e, jkF_c e]
theorem judgeF_c (e : EqV nj nh U V) (h5 : V 0 5 = nI nh) (hh : nh ≤ 6) (so sz ce : Nat → Int32) (s h : Int32) : judgeF B U so sz ce nj s h = judgeF B V so sz ce nj s h := by
  unfold judgeF
  rw [rjF_c e]
  by_cases r : rjF so sz V s h = 0
  · rw [if_pos r, if_pos r, otF_c e (hr_cl h5 hh (rj_0 r).2) nj 0 (by omega)]
  · rw [if_neg r, if_neg r]
theorem whL_c (e : EqV nj nh U V) (ce : Nat → Int32) (s : Nat) : ∀ (m h : Nat) (b : Int32), h + m ≤ nh → whL B U ce s nj m h b = whL B V ce s nj m h b
  | 0, _, _, _ => rfl
  | m + 1, h, b, hm => by
    unfold whL
    rw [otF_c e (show h < nh by omega) nj 0 (by omega), whL_c e ce s m (h + 1) _ (by omega)]
theorem whoseF_c (e : EqV nj nh U V) (so sz ce : Nat → Int32) (s : Int32) : whoseF B U so sz ce nj nh s = whoseF B V so sz ce nj nh s := by
  unfold whoseF
  rw [rsF_c e, whL_c e ce (cl s) nh 0 0 (by omega)]
theorem biL_c (e : EqV nj nh U V) (ce : Nat → Int32) (s r i : Nat) {h : Nat} (hh : h < nh) : ∀ (m f : Nat) (b : Int32), biL B U ce s h nj r i m f b = biL B V ce s h nj r i m f b
  | 0, _, _ => rfl
  | m + 1, f, b => by
    unfold biL
    rw [fitF_c (vu_c e) hh, biL_c e ce s r i hh m]
theorem humF_c (e : EqV nj nh U V) (h5 : V 0 5 = nI nh) (hh : nh ≤ 6) (so sz ce : Nat → Int32) (s h : Int32) : humF B U so sz ce nj s h = humF B V so sz ce nj s h := by
  unfold humF
  rw [rjF_c e]
  by_cases r : rjF so sz V s h = 0
  · rw [if_pos r, if_pos r, biL_c e _ _ _ _ (hr_cl h5 hh (rj_0 r).2)]
  · rw [if_neg r, if_neg r]
theorem lawsF_c (e : EqV nj nh U V) (h5 : V 0 5 = nI nh) (hh : nh ≤ 6) (so sz ce : Nat → Int32) (n : Nat) (s h : Int32) : lawsF B U so sz ce nj n s h = lawsF B V so sz ce nj n s h := by
  unfold lawsF
  rw [rjF_c e]
  by_cases r : rjF so sz V s h = 0
  · rw [if_pos r, if_pos r, biL_c e _ _ _ _ (hr_cl h5 hh (rj_0 r).2)]
  · rw [if_neg r, if_neg r]
theorem kindsF_c (e : EqV nj nh U V) (h5 : V 0 5 = nI nh) (hh : nh ≤ 6) (so sz ce : Nat → Int32) (s h j : Int32) : kindsF B U so sz ce nj s h j = kindsF B V so sz ce nj s h j := by
  unfold kindsF
  rw [rjjF_c e]
  by_cases r : rjjF so sz V s h j = 0
  · rw [if_pos r, if_pos r, biL_c e _ _ _ _ (hr_cl h5 hh (rj_0 (rjj_0 r).1).2), biL_c e _ _ _ _ (hr_cl h5 hh (rj_0 (rjj_0 r).1).2)]
  · rw [if_neg r, if_neg r]
theorem weL_c (e : EqV nj nh U V) (ce : Nat → Int32) (s i : Nat) {h : Nat} (hh : h < nh) : ∀ (m f : Nat) (b : Nat × Int32), weL B U ce s h nj i m f b = weL B V ce s h nj i m f b
  | 0, _, _ => rfl
  | m + 1, f, b => by
    unfold weL
    rw [fitF_c (vu_c e) hh, weL_c e ce s i hh m]
theorem wearF_c (e : EqV nj nh U V) (h5 : V 0 5 = nI nh) (hh : nh ≤ 6) (so sz ce : Nat → Int32) (s h j : Int32) : wearF B U so sz ce nj s h j = wearF B V so sz ce nj s h j := by
  unfold wearF
  rw [rjjF_c e]
  by_cases r : rjjF so sz V s h j = 0
  · rw [if_pos r, if_pos r, weL_c e _ _ _ (hr_cl h5 hh (rj_0 (rjj_0 r).1).2)]
  · rw [if_neg r, if_neg r]
theorem heL_c (e : EqV nj nh U V) (ce : Nat → Int32) (s : Nat) {h : Nat} (hh : h < nh) : ∀ (m f : Nat) (b : Nat × Int32 × Int32), heL B U ce s h nj m f b = heL B V ce s h nj m f b
  | 0, _, _ => rfl
  | m + 1, f, b => by
    unfold heL
    rw [fitF_c (vu_c e) hh, heL_c e ce s hh m]
theorem heaF_c (e : EqV nj nh U V) (h5 : V 0 5 = nI nh) (hh : nh ≤ 6) (so sz ce : Nat → Int32) (s h w : Int32) : heaF B U so sz ce nj s h w = heaF B V so sz ce nj s h w := by
  unfold heaF
  rw [rjF_c e]
  by_cases r : rjF so sz V s h = 0
  · have ha : heaA B U ce nj (cl s) (cl h) = heaA B V ce nj (cl s) (cl h) := by
      unfold heaA aljF
      rw [heL_c e ce (cl s) (hr_cl h5 hh (rj_0 r).2), e.1.1]
    rw [if_pos r, if_pos r, ha]
  · rw [if_neg r, if_neg r]
theorem amL_c (e : EqV nj nh U V) (ce : Nat → Int32) (s : Nat) {h : Nat} (hh : h < nh) : ∀ (m j : Nat) (x : Int64), j + m ≤ nj → amL B U ce s h m j x = amL B V ce s h m j x
  | 0, _, _, _ => rfl
  | m + 1, j, x, hm => by
    unfold amL
    rw [yF_c e (show j < nj by omega) hh, saysF_c e hh, (e.2.1 j (by omega)).2.1, (e.2.1 j (by omega)).2.2, amL_c e ce s hh m (j + 1) _ (by omega)]
theorem amissF_c (e : EqV nj nh U V) (h5 : V 0 5 = nI nh) (hh : nh ≤ 6) (so sz ce : Nat → Int32) (s h : Int32) : amissF B U so sz ce nj s h = amissF B V so sz ce nj s h := by
  unfold amissF
  rw [rjF_c e]
  by_cases r : rjF so sz V s h = 0
  · rw [if_pos r, if_pos r, amL_c e ce (cl s) (hr_cl h5 hh (rj_0 r).2) nj 0 0 (by omega)]
  · rw [if_neg r, if_neg r]
theorem takF_c (e : EqV nj nh U V) (h1 : V 0 1 = nI nj) (hj : nj ≤ 5) (h5 : V 0 5 = nI nh) (hh : nh ≤ 6) (i k : Int32) : takF U i k = takF V i k := by
  have e1 : tkH U (i - 5) k = tkH V (i - 5) k := by
    unfold tkH
    rw [hrF_c e]
    cases hb : hrF V (i - 5) with
    | false => rfl
    | true => rw [(e.2.2 _ (hr_cl h5 hh hb)).2.1]
  have e2 : tkJ U i k = tkJ V i k := by
    unfold tkJ
    rw [jkF_c e]
    cases hb : jkF V i with
    | false => rfl
    | true => rw [(e.2.1 _ (jk_cl h1 hj hb)).1]
  unfold takF
  rw [e1, e2]
theorem filmX_c (e : EqV nj nh U V) (s h : Int32) : filmX U s h = filmX V s h := by
  unfold filmX
  rw [hrF_c e, e.1.1]
end CONG
