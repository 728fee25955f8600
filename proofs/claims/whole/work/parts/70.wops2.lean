theorem mayF_c {nj nh : Nat} {U V : VW} (e : EqV nj nh U V) (h : Nat) (w v : Int32) : mayF U h w v = mayF V h w v := by
  unfold mayF
  rw [e.1.1, e.1.2.1]
theorem pw_1 : ∀ n, n < 6 → shF n - 1 = nI (2 ^ n - 1) := by decide +kernel
theorem IA_be {nj nh h : Nat} {V U : VW} {w v : Int32} (hA : IA nj nh V U) (hm : mayF V h w v = true) : IA nj nh (beV V h w v) (beV U h w v) := by
  unfold mayF at hm
  unfold beV
  by_cases q0 : w = 0
  · rw [if_pos q0, if_pos q0]
    exact IA_vu hA (fun q => by omega) (by omega) (by omega) (fun q => by omega) (fun q => by omega) (fun q => by omega)
  · rw [if_neg q0, if_neg q0]
    rw [if_neg q0] at hm
    by_cases q1 : w = 1
    · rw [if_pos q1, if_pos q1]
      rw [if_pos q1] at hm
      refine IA_vu hA (fun q => by omega) (by omega) (by omega) (fun _ => ?_) (fun q => by omega) (fun q => by omega)
      exact in_trueL (n := 9999) hm (by decide)
    · rw [if_neg q1, if_neg q1]
      rw [if_neg q1] at hm
      by_cases q2 : w = 2
      · rw [if_pos q2, if_pos q2]
        exact IA_vu hA (fun q => by omega) (by omega) (by omega) (fun q => by omega) (fun q => by omega) (fun q => by omega)
      · rw [if_neg q2, if_neg q2]
        rw [if_neg q2] at hm
        by_cases q3 : w = 3
        · rw [if_pos q3, if_pos q3]
          rw [if_pos q3, hA.1] at hm
          refine IA_vu hA (fun q => by omega) (by omega) (by omega) (fun q => by omega) (fun _ => ?_) (fun q => by omega)
          have hp : 2 ^ nj ≤ 2 ^ 5 := Nat.pow_le_pow_right (by decide) hA.2.1
          have h0 : 0 < 2 ^ nj := Nat.two_pow_pos nj
          have hq : inF v 0 (nI (2 ^ nj - 1)) = true := by
            rw [← pw_1 nj (by have := hA.2.1; omega)]
            exact hm
          obtain ⟨k, hk, e⟩ := in_trueL hq (by omega)
          exact ⟨k, by omega, e⟩
        · rw [if_neg q3, if_neg q3]
          exact IA_vu hA (fun q => by omega) (by omega) (by omega) (fun q => by omega) (fun q => by omega) (fun q => by omega)
theorem beV_r {V : VW} {h r : Nat} {w v : Int32} (hr : r < 4) : beV V h w v r = V r := by
  unfold beV
  split
  · exact vu_other _ _ _ _ (by omega)
  · split
    · exact vu_other _ _ _ _ (by omega)
    · split
      · exact vu_other _ _ _ _ (by omega)
      · split
        · exact vu_other _ _ _ _ (by omega)
        · exact vu_other _ _ _ _ (by omega)
theorem OP_set {l : Launch} {h what v : Int32} : OPI l yX7_set cX7_set 5 yX8_set cX8_set 5 [.int h, .int what, .int v] := by
  rintro μ ν ⟨μ0, V, nm, sk, ν0, U, nm2, sk2, st, rfl, rfl, r⟩
  obtain ⟨nj, nh, hA, hB, hT, hW, hS, hI⟩ := id r
  have e := hA.2.2.2.2.1
  have c1 : hrF U h = hrF V h := (hrF_c e h).symm
  have c2 : mayF U (cl h) what v = mayF V (cl h) what v := (mayF_c e _ _ _).symm
  refine ⟨setX V h what v, 4, 4, PC μ0 (setV V h what v), PN ν0 (setV U h what v), by decide, by decide, CT.mono (T_X7_set hA.2.2.1 hA.2.2.2.1) (QI.mono fun x m g => ⟨g.1, pc_a g.2⟩), CT.mono (T_X8_set hA.u5 hA.2.2.2.1) (QI.mono fun x m g => ⟨g.1.trans ?_, pn_a g.2⟩), fun a b => INV_of ?_⟩
  · unfold setX
    rw [c1, c2]
    by_cases q : hrF V h = true
    · rw [if_pos q, if_pos q, trF_c e (hr_cl hA.2.2.1 hA.2.2.2.1 q)]
    · rw [if_neg q, if_neg q]
  · unfold setV
    rw [c1, c2]
    by_cases q : hrF V h = true
    · rw [if_pos q, if_pos q]
      by_cases q2 : mayF V (cl h) what v = true
      · rw [if_pos q2, if_pos q2]
        exact ⟨nj, nh, IA_be hA q2, IB_w hB (by rw [beV_r (by decide)]), hT, hW, hS, II_w hI (Nat.le_refl _) (fun j _ => ⟨by rw [beV_r (by decide)], by rw [beV_r (by decide)]⟩)⟩
      · rw [if_neg q2, if_neg q2]
        exact r
    · rw [if_neg q, if_neg q]
      exact r
theorem or_pw : ∀ n, n ≤ 5 → ∀ j, j < n → ∀ z, z < 2 ^ n → z ||| 2 ^ j < 2 ^ n := fun n _ j hj z hz => Nat.or_lt_two_pow hz (Nat.pow_lt_pow_right (by decide) hj)
theorem IA_tell {B : BK} {nj nh j h : Nat} {V U : VW} (hA : IA nj nh V U) (hj : j < nj) (hh : h < nh) : IA nj nh (tellV B V j h) (tellV B U j h) := by
  have hp := hA.pw
  obtain ⟨a1, a2, a3, a4, e, a6, a7, a8, a9, a10, a11⟩ := hA
  refine ⟨a1, a2, a3, a4, tellV_c e hj hh, a6, fun x hx => (pw_tell (hp j h hj hh) (hp j x hj hx)).1, fun x hx => (pw_tell (hp j h hj hh) (hp x h hx hh)).2, fun x hx => ?_, a10, a11⟩
  show ∃ z, z < 2 ^ nj ∧ upd (U 7) h (U 7 h ||| shF j) x = nI z
  by_cases q : x = h
  · subst q
    obtain ⟨z, hz, ez⟩ := a9 x hx
    have h5 : 2 ^ nj ≤ 2 ^ 5 := Nat.pow_le_pow_right (by decide) a2
    have hj5 : 2 ^ j < 2 ^ nj := Nat.pow_lt_pow_right (by decide) hj
    rw [upd_s, ez, shF_2 j (by omega), (nI_or (by omega) (by omega)).1]
    exact ⟨_, or_pw nj a2 j hj z hz, rfl⟩
  · rw [upd_o _ _ q]
    exact a9 x hx
theorem OP_tell {l : Launch} {j h : Int32} : OPI l yX7_tell cX7_tell 4 yX8_tell cX8_tell 4 [.int j, .int h] := by
  rintro μ ν ⟨μ0, V, nm, sk, ν0, U, nm2, sk2, st, rfl, rfl, r⟩
  obtain ⟨nj, nh, hA, hB, hT, hW, hS, hI⟩ := id r
  have e := hA.2.2.2.2.1
  refine ⟨yieldsF (bk μ0) V j h, 7, 6, PC μ0 (tellVV (bk μ0) V j h), PN ν0 (tellVV (bk μ0) U j h), by decide, by decide, CT.mono (T_X7_tell r.okC hA.1 hA.2.1 hA.2.2.1 hA.2.2.2.1) (QI.mono fun x m h => ⟨h.1, pc_b h.2⟩), CT.mono (T_X8_tell r.okL hA.u1 hA.2.1 hA.u5 hA.2.2.2.1 hA.pw) (QI.mono fun x m g => ⟨g.1.trans (yieldsF_c e hA.u1 hA.2.1 hA.u5 hA.2.2.2.1 _ _).symm, pn_c g.2⟩), fun a b => INV_of ?_⟩
  unfold tellVV
  rw [← refT_c e]
  by_cases q : refT V j h = 0
  · obtain ⟨x, y⟩ := ref_cl hA.1 hA.2.1 hA.2.2.1 hA.2.2.2.1 q
    rw [if_pos q, if_pos q]
    exact ⟨nj, nh, IA_tell hA x y, IB_w hB rfl, hT, hW, hS, II_w hI (Nat.le_refl _) (fun j _ => ⟨rfl, rfl⟩)⟩
  · rw [if_neg q, if_neg q]
    exact r
theorem OP_pay {l : Launch} {h o v : Int32} : OPI l yX7_pay cX7_pay 4 yX8_pay cX8_pay 4 [.int h, .int o, .int v] := by
  rintro μ ν ⟨μ0, V, nm, sk, ν0, U, nm2, sk2, st, rfl, rfl, r⟩
  obtain ⟨nj, nh, hA, hB, hT, hW, hS, hI⟩ := id r
  have e := hA.2.2.2.2.1
  have c : payOK U h o = payOK V h o := by
    unfold payOK
    rw [hrF_c e, hrF_c e]
  have hk : payOK V h o = true → cl h < nh ∧ cl o < nh := by
    intro q
    unfold payOK at q
    simp only [Bool.and_eq_true] at q
    exact ⟨hr_cl hA.2.2.1 hA.2.2.2.1 q.1, hr_cl hA.2.2.1 hA.2.2.2.1 q.2.1⟩
  refine ⟨payX V h o v, 3, 3, PC μ0 (payS V h o v), PN ν0 (payS U h o v), by decide, by decide, CT.mono (T_X7_pay hA.2.2.1 hA.2.2.2.1) (QI.mono fun x m g => ⟨g.1, pc_a g.2⟩), CT.mono (T_X8_pay hA.u5 hA.2.2.2.1) (QI.mono fun x m g => ⟨g.1.trans ?_, pn_a g.2⟩), fun a b => INV_of ?_⟩
  · unfold payX
    rw [c]
    by_cases q : payOK V h o = true
    · obtain ⟨x, y⟩ := hk q
      rw [if_pos q, if_pos q, (e.2.2 _ x).2.1, (e.2.2 _ y).2.1]
    · rw [if_neg q, if_neg q]
  · unfold payS
    rw [c]
    by_cases q : payOK V h o = true
    · obtain ⟨x, y⟩ := hk q
      have hne : cl h ≠ cl o ∨ cl h = cl o := by omega
      obtain ⟨a, ha, ea⟩ := hA.2.2.2.2.2.2.1 _ x
      obtain ⟨b, hb, eb⟩ := hA.2.2.2.2.2.2.1 _ y
      rw [if_pos q, if_pos q, (e.2.2 _ x).2.1, (e.2.2 _ y).2.1]
      by_cases q2 : inF v 0 9999 = true
      · obtain ⟨w, hw, rfl⟩ := in_trueL (n := 9999) q2 (by decide)
        rw [if_pos q2, if_pos q2, ea, eb]
        by_cases q3 : nI a < nI w
        · rw [if_pos q3, if_pos q3]
          exact r
        · rw [if_neg q3, if_neg q3]
          by_cases q4 : 9999 < nI b + nI w
          · rw [if_pos q4, if_pos q4]
            exact r
          · rw [if_neg q4, if_neg q4]
            have w1 : w ≤ a := Nat.le_of_not_lt fun z => q3 (nI_lt z (by omega))
            have w2 : b + w ≤ 9999 := by
              rw [nI_add] at q4
              exact Nat.le_of_not_lt fun z => q4 (nI_lt (a := 9999) z (by omega))
            unfold payV
            rw [(e.2.2 _ x).2.1, (e.2.2 _ y).2.1, ea, eb]
            refine ⟨nj, nh, IA_vu (IA_vu hA (fun q => by omega) (by omega) (by omega) (fun _ => ⟨a - w, by omega, sub_n w1⟩) (fun q => by omega) (fun q => by omega)) (fun q => by omega) (by omega) (by omega) (fun _ => ⟨b + w, w2, nI_add b w⟩) (fun q => by omega) (fun q => by omega), IB_w hB rfl, hT, hW, hS, II_w hI (Nat.le_refl _) (fun j _ => ⟨rfl, rfl⟩)⟩
      · rw [if_neg q2, if_neg q2]
        exact r
    · rw [if_neg q, if_neg q]
      exact r
