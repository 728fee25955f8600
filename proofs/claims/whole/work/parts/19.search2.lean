/-- the block of a level behind a telling -/
theorem refresh_ok {B : BK} {T : VW} {nj nh L j h : Nat} {ws : Nat → Int32} {y : Int32} (hL : 1 ≤ L) (hj5 : nj ≤ 5) (hh6 : nh ≤ 6) (hj : j < nj) (hh : h < nh) (hw : wsOK B T nj nh (L - 1) ws) :
    wsOK B (laughV T j h y) nj nh L (fillS (fillS (va_cpy ws ws (30 * (L - 1)) (30 * L) 30) (30 * L + 6 * j) 1 (fun o => yF B (laughV T j h y) j o) nh) (30 * L + h) 6 (fun o => yF B (laughV T j h y) o h) nj) := by
  intro j2 h2 hj2 hh2
  by_cases e1 : h2 = h
  · subst e1
    rw [show 30 * L + 6 * j2 + h2 = (30 * L + h2) + 6 * j2 by omega, fillS_in (by decide) hj2]
  · rw [fillS_out (fun i hi => by omega)]
    by_cases e2 : j2 = j
    · subst e2
      rw [show 30 * L + 6 * j2 + h2 = (30 * L + 6 * j2) + 1 * h2 by omega, fillS_in (by decide) hh2]
    · rw [fillS_out (fun i hi => by omega), yF_tell y e2 e1]
      unfold va_cpy
      rw [if_pos ⟨by omega, by omega⟩, show 30 * (L - 1) + (30 * L + 6 * j2 + h2 - 30 * L) = 30 * (L - 1) + 6 * j2 + h2 by omega]
      exact hw j2 h2 hj2 hh2
theorem refresh_low {B : BK} {T : VW} {nj nh L j h x : Nat} {ws : Nat → Int32} (hx : x < 30 * L) :
    fillS (fillS (va_cpy ws ws (30 * (L - 1)) (30 * L) 30) (30 * L + 6 * j) 1 (fun o => yF B T j o) nh) (30 * L + h) 6 (fun o => yF B T o h) nj x = ws x := by
  rw [fillS_out (fun i _ => by omega), fillS_out (fun i _ => by omega)]
  unfold va_cpy
  rw [if_neg (by omega)]
theorem dsS_at {B : BK} {nh nj j h : Nat} {rec0 : VW → List Nat → Int32 → AC → AC} {T : VW} {p : List Nat} {sum : Int32} {q q2 X : AC} (hh : h < nh) (hm : j * nh + h < nj * nh) (hx : dsS B nh rec0 T p sum (j * nh + h) (nj * nh - (j * nh + h)) q = X)
    (h2 : q2 = rec0 (tellV B T j h) (p ++ [10 * j + h]) (sum + yF B T j h) q) : dsS B nh rec0 T p sum (j * nh + (h + 1)) (nj * nh - (j * nh + (h + 1))) q2 = X := by
  rw [← hx, show nj * nh - (j * nh + h) = (nj * nh - (j * nh + (h + 1))) + 1 by omega]
  have e : dsS B nh rec0 T p sum (j * nh + h) ((nj * nh - (j * nh + (h + 1))) + 1) q = dsS B nh rec0 T p sum (j * nh + h + 1) (nj * nh - (j * nh + (h + 1))) (rec0 (tellV B T ((j * nh + h) / nh) ((j * nh + h) % nh)) (p ++ [cdF nh (j * nh + h)]) (sum + yAt B T nh (j * nh + h)) q) := by rw [dsS]
  rw [e]
  unfold yAt cdF
  rw [(divmod_at hh).1, (divmod_at hh).2, ← h2]
  rfl

set_option maxHeartbeats 4000000 in
set_option maxRecDepth 100000 in
theorem descend_step {l : Launch} {μ : PM} {nj nh L : Nat} (hL3 : L ≤ 3) (hj5 : nj ≤ 5) (hh6 : nh ≤ 6) (rem k1 k2 : Nat) (hk : 7 ≤ k1) (hk2 : k1 + 1 ≤ k2)
  (hrec : ∀ {T : VW} {nm sk r br ws : Nat → Int32} {be sum : Int32} {p : List Nat} {a : AC}, 1 ≤ rem → okC μ T → T 0 1 = nI nj → T 0 5 = nI nh → p.length + rem = L → relP r p → relA be br a → wsOK (bk μ) T nj nh p.length ws → CT l SC yX4_descend cX4_descend 10 none k1 [.ref 13, .int (nI p.length), .int sum] (sc (wr (sM μ (nI L) be r br ws) 32 T) nm sk) (QV fun m => ∃ nm2 sk2 be2 r2 br2 ws2, m = (sc (wr (sM μ (nI L) be2 r2 br2 ws2) 32 T) nm2 sk2) ∧ relA be2 br2 (dsc (bk μ) nj nh rem T p sum a) ∧ (∀ k, k < p.length → r2 k = r k) ∧ ∀ x, x < 30 * (p.length + 1) → ws2 x = ws x))
  {T : VW} {nm sk r br ws : Nat → Int32} {be sum : Int32} {p : List Nat} {a : AC} (hc : okC μ T) (h1 : T 0 1 = nI nj) (h5 : T 0 5 = nI nh) (hpl : p.length + (rem + 1) = L) (hp : relP r p) (hA : relA be br a) (hws : wsOK (bk μ) T nj nh p.length ws) : CT l SC yX4_descend cX4_descend 10 none k2 [.ref 13, .int (nI p.length), .int sum] (sc (wr (sM μ (nI L) be r br ws) 32 T) nm sk) (QV fun m => ∃ nm2 sk2 be2 r2 br2 ws2, m = (sc (wr (sM μ (nI L) be2 r2 br2 ws2) 32 T) nm2 sk2) ∧ relA be2 br2 (dsc (bk μ) nj nh (rem + 1) T p sum a) ∧ (∀ k, k < p.length → r2 k = r k) ∧ ∀ x, x < 30 * (p.length + 1) → ws2 x = ws x) := by

  refine CT.of rfl (Nat.le_of_ble_eq_true rfl) ?_
  show PW l SC RX4 cX4_descend 10 none (k2) _ 0 [(0, .ref 13), (1, .int (nI p.length)), (2, .int sum)] [] (sc (wr (sM μ (nI L) be r br ws) 32 T) nm sk)
  refine pw_iload_n dX4_descend_0 rfl rfl ?_
  refine pw_aload_n dX4_descend_1 rfl rfl ?_
  refine pw_getI dX4_descend_2 fa_X4_9 rfl ?_
  refine pw_top (y := nI L) rfl ?_
  refine pw_icmp_lt (tgt := 9) dX4_descend_5 (by decide) (fun c_5 => ?_) (fun c_5 => ?_)
  · skip
    refine pw_aload_n dX4_descend_9 rfl rfl ?_
    refine pw_getR dX4_descend_10 fa_X4_28 rfl ?_
    refine pw_astore_n (ls2 := [(3, _), (0, _), (1, _), (2, _)]) dX4_descend_13 rfl (by decide) rfl ?_
    refine pw_iconst (v := 0) dX4_descend_14 rfl ?_
    refine pw_istore (ls2 := [(4, _), (3, _), (0, _), (1, _), (2, _)]) dX4_descend_15 (by decide) rfl ?_
    have L_17 : ∀ (fu_17 : Nat) (j : Nat) (nm1 sk1 r1 br1 ws1 : Nat → Int32) (be1 : Int32) (q : AC), (j ≤ nj) → (relA be1 br1 q) → (∀ k, k < p.length → r1 k = r k) → (∀ x, x < 30 * (p.length + 1) → ws1 x = ws x) → (dsS (bk μ) nh (dsc (bk μ) nj nh rem) T p sum (j * nh) (nj * nh - (j * nh)) q = dsS (bk μ) nh (dsc (bk μ) nj nh rem) T p sum 0 (nj * nh) a) → nj - j < fu_17 → PW l SC RX4 cX4_descend 10 none (k2) (QV fun m => ∃ nm2 sk2 be2 r2 br2 ws2, m = (sc (wr (sM μ (nI L) be2 r2 br2 ws2) 32 T) nm2 sk2) ∧ relA be2 br2 (dsS (bk μ) nh (dsc (bk μ) nj nh rem) T p sum 0 (nj * nh) a) ∧ (∀ k, k < p.length → r2 k = r k) ∧ ∀ x, x < 30 * (p.length + 1) → ws2 x = ws x) 17 [(0, .ref 13), (1, .int (nI p.length)), (2, .int sum), (3, .ref 32), (4, .int (nI j))] [] (sc (wr (sM μ (nI L) be1 r1 br1 ws1) 32 T) nm1 sk1) := by
      intro fu_17
      induction fu_17 with
      | zero =>
        intro j nm1 sk1 r1 br1 ws1 be1 q hj hA1 hr1 hw1 hq hm_17
        exact absurd hm_17 (Nat.not_lt_zero _)
      | succ fu_17 ih_17 =>
        intro j nm1 sk1 r1 br1 ws1 be1 q hj hA1 hr1 hw1 hq hm_17
        refine pw_iload dX4_descend_17 rfl ?_
        refine pw_aload_n dX4_descend_19 rfl rfl ?_
        refine pw_getI dX4_descend_20 fa_X4_38 rfl ?_
        refine pw_top (y := nI nj) h1 ?_
        refine pw_icmp_ge (tgt := 186) dX4_descend_23 (by decide) (fun c_23 => ?_) (fun c_23 => ?_)
        · skip
          have hgj := nI_geD (by omega) c_23
          refine pw_vret dX4_descend_186 rfl ?_
          have e : j = nj := by omega
          subst e
          rw [Nat.sub_self] at hq
          have hq2 : q = _ := hq
          rw [← hq2]
          exact ⟨_, _, _, _, _, _, rfl, hA1, hr1, hw1⟩
        · skip
          have hlj := nI_ltD (by omega) c_23
          refine pw_iconst (v := 0) dX4_descend_26 rfl ?_
          refine pw_istore (ls2 := [(5, _), (0, _), (1, _), (2, _), (3, _), (4, _)]) dX4_descend_27 (by decide) rfl ?_
          have L_29 : ∀ (fu_29 : Nat) (h : Nat) (nm1 sk1 r1 br1 ws1 : Nat → Int32) (be1 : Int32) (q : AC), (h ≤ nh) → (relA be1 br1 q) → (∀ k, k < p.length → r1 k = r k) → (∀ x, x < 30 * (p.length + 1) → ws1 x = ws x) → (dsS (bk μ) nh (dsc (bk μ) nj nh rem) T p sum (j * nh + h) (nj * nh - (j * nh + h)) q = dsS (bk μ) nh (dsc (bk μ) nj nh rem) T p sum 0 (nj * nh) a) → nh - h < fu_29 → PW l SC RX4 cX4_descend 10 none (k2) (QV fun m => ∃ nm2 sk2 be2 r2 br2 ws2, m = (sc (wr (sM μ (nI L) be2 r2 br2 ws2) 32 T) nm2 sk2) ∧ relA be2 br2 (dsS (bk μ) nh (dsc (bk μ) nj nh rem) T p sum 0 (nj * nh) a) ∧ (∀ k, k < p.length → r2 k = r k) ∧ ∀ x, x < 30 * (p.length + 1) → ws2 x = ws x) 29 [(0, .ref 13), (1, .int (nI p.length)), (2, .int sum), (3, .ref 32), (4, .int (nI j)), (5, .int (nI h))] [] (sc (wr (sM μ (nI L) be1 r1 br1 ws1) 32 T) nm1 sk1) := by
            intro fu_29
            induction fu_29 with
            | zero =>
              intro h nm1 sk1 r1 br1 ws1 be1 q hh hA1 hr1 hw1 hq hm_29
              exact absurd hm_29 (Nat.not_lt_zero _)
            | succ fu_29 ih_29 =>
              intro h nm1 sk1 r1 br1 ws1 be1 q hh hA1 hr1 hw1 hq hm_29
              refine pw_iload dX4_descend_29 rfl ?_
              refine pw_aload_n dX4_descend_31 rfl rfl ?_
              refine pw_getI dX4_descend_32 fa_X4_43 rfl ?_
              refine pw_top (y := nI nh) h5 ?_
              refine pw_icmp_ge (tgt := 180) dX4_descend_35 (by decide) (fun c_35 => ?_) (fun c_35 => ?_)
              · skip
                have hgh := nI_geD (by omega) c_35
                refine pw_iinc (ls2 := [(4, _), (0, _), (1, _), (2, _), (3, _), (5, _)]) (v := nI (j + 1)) dX4_descend_180 rfl (inc1 j) (by decide) rfl ?_
                refine pw_goto (tgt := 17) dX4_descend_183 (by decide) ?_
                refine pw_sub [1, 2, 3, 4, 0] rfl ?_
                have e : h = nh := by omega
                subst e
                exact ih_17 (j + 1) nm1 sk1 r1 br1 ws1 be1 q hlj hA1 hr1 hw1 (by rw [Nat.succ_mul]; exact hq) (by omega)
              · skip
                have hlh := nI_ltD (by omega) c_35
                have hmul : j * nh + h < nj * nh := by
                  have := Nat.mul_le_mul_right nh (show j + 1 ≤ nj by omega)
                  rw [Nat.succ_mul] at this
                  omega
                refine pw_aload_n dX4_descend_38 rfl rfl ?_
                refine pw_getR dX4_descend_39 fa_X4_18 rfl ?_
                refine pw_iload_n dX4_descend_42 rfl rfl ?_
                refine pw_bipush (v := 10) dX4_descend_43 rfl ?_
                refine pw_iload dX4_descend_45 rfl ?_
                refine pw_imul dX4_descend_47 ?_
                refine pw_iload dX4_descend_48 rfl ?_
                refine pw_iadd dX4_descend_50 ?_
                refine pw_top (y := nI (10 * j + h)) (by show nI 10 * nI j + nI h = _; rw [pk_mul, nI_add]) ?_
                refine pw_iast (j := p.length) dX4_descend_51 rfl rfl (by omega) ?_
                refine pw_mem (by rw [si_sc (by decide) (by decide), si_wrO (by decide), sM_r]) ?_
                refine pw_aload_n dX4_descend_52 rfl rfl ?_
                refine pw_getR dX4_descend_53 fa_X4_25 rfl ?_
                refine pw_iload_n dX4_descend_56 rfl rfl ?_
                refine pw_iload dX4_descend_57 rfl ?_
                refine pw_iload dX4_descend_59 rfl ?_
                refine pw_cSi dX4_descend_61 ms_X4_46 T_X4_place rfl rfl (Nat.le_of_ble_eq_true rfl) (by omega) (fun x_61 m_61 h_61 => ?_)
                obtain ⟨rfl, rfl⟩ := h_61
                refine pw_iald (j := 30 * p.length + 6 * j + h) dX4_descend_64 rfl rfl (by omega) ?_
                have hyv : ws1 (30 * p.length + 6 * j + h) = yF (bk μ) T j h := by rw [hw1 _ (by omega)]; exact hws j h (by omega) (by omega)
                have hya : yAt (bk μ) T nh (j * nh + h) = yF (bk μ) T j h := by unfold yAt; rw [(divmod_at hlh).1, (divmod_at hlh).2]
                have hcd : cdF nh (j * nh + h) = 10 * j + h := by unfold cdF; rw [(divmod_at hlh).1, (divmod_at hlh).2]
                refine pw_top (y := yF (bk μ) T j h) hyv ?_
                refine pw_istore (ls2 := [(6, _), (0, _), (1, _), (2, _), (3, _), (4, _), (5, _)]) dX4_descend_65 (by decide) rfl ?_
                refine pw_iload_n dX4_descend_67 rfl rfl ?_
                refine pw_aload_n dX4_descend_68 rfl rfl ?_
                refine pw_getI dX4_descend_69 fa_X4_9 rfl ?_
                refine pw_iconst (v := 1) dX4_descend_72 rfl ?_
                refine pw_isub dX4_descend_73 ?_
                refine pw_top2 (y := nI p.length) rfl ?_
                refine pw_top (y := nI (L - 1)) (by obtain ⟨x, rfl⟩ : ∃ x, L = x + 1 := ⟨L - 1, by omega⟩; exact nI_sub1) ?_
                refine pw_icmp_ne (tgt := 88) dX4_descend_74 (by decide) (fun c_74 => ?_) (fun c_74 => ?_)
                · skip
                  have hne : 1 ≤ rem := by
                    rcases Nat.eq_zero_or_pos rem with h0 | h0
                    · exact absurd (congrArg nI (by omega)) c_74
                    · exact h0
                  refine pw_aload_n dX4_descend_88 rfl rfl ?_
                  refine pw_getR dX4_descend_89 fa_X4_65 rfl ?_
                  refine pw_iload dX4_descend_92 rfl ?_
                  refine pw_iald (j := j) dX4_descend_94 rfl rfl (by omega) ?_
                  refine pw_top (y := T 3 j) rfl ?_
                  refine pw_istore (ls2 := [(7, _), (6, _), (0, _), (1, _), (2, _), (3, _), (4, _), (5, _)]) dX4_descend_95 (by decide) rfl ?_
                  refine pw_aload_n dX4_descend_97 rfl rfl ?_
                  refine pw_getR dX4_descend_98 fa_X4_68 rfl ?_
                  refine pw_iload dX4_descend_101 rfl ?_
                  refine pw_iald (j := h) dX4_descend_103 rfl rfl (by omega) ?_
                  refine pw_top (y := T 5 h) rfl ?_
                  refine pw_istore (ls2 := [(8, _), (7, _), (6, _), (0, _), (1, _), (2, _), (3, _), (4, _), (5, _)]) dX4_descend_104 (by decide) rfl ?_
                  refine pw_aload_n dX4_descend_106 rfl rfl ?_
                  refine pw_getR dX4_descend_107 fa_X4_71 rfl ?_
                  refine pw_iload dX4_descend_110 rfl ?_
                  refine pw_iald (j := h) dX4_descend_112 rfl rfl (by omega) ?_
                  refine pw_top (y := T 7 h) rfl ?_
                  refine pw_istore (ls2 := [(9, _), (8, _), (7, _), (6, _), (0, _), (1, _), (2, _), (3, _), (4, _), (5, _)]) dX4_descend_113 (by decide) rfl ?_
                  refine pw_aload_n dX4_descend_115 rfl rfl ?_
                  refine pw_iload dX4_descend_116 rfl ?_
                  refine pw_iload dX4_descend_118 rfl ?_
                  refine pw_iload dX4_descend_120 rfl ?_
                  refine pw_cVv dX4_descend_122 mv_X4_74 ckThought (T_X6_laugh (w := 32) i32 (by omega) (by omega)) rfl rfl (Nat.le_of_ble_eq_true rfl) (by omega) (fun m_122 h_122 => ?_)
                  obtain rfl := h_122
                  refine pw_aload_n dX4_descend_125 rfl rfl ?_
                  refine pw_iload_n dX4_descend_126 rfl rfl ?_
                  refine pw_iconst (v := 1) dX4_descend_127 rfl ?_
                  refine pw_iadd dX4_descend_128 ?_
                  refine pw_iload dX4_descend_129 rfl ?_
                  refine pw_iload dX4_descend_131 rfl ?_
                  refine pw_eq (st' := [.int (nI h), .int (nI j), .int (nI (p.length + 1)), .ref 13]) rfl rfl (by rw [← nI_1] <;> rfl) rfl ?_
                  refine pw_cVv dX4_descend_133 mv_X4_78 ckSearch (T_X4_refresh (T := laughV T j h (yF (bk μ) T j h)) (nj := nj) (nh := nh) (okC_V hc rfl) h1 h5 hj5 hh6 (by omega) (by omega) (by omega) (by omega)) rfl rfl (Nat.le_of_ble_eq_true rfl) (by omega) (fun m_133 h_133 => ?_)
                  obtain ⟨nm3, sk3, rfl⟩ := h_133
                  refine pw_aload_n dX4_descend_136 rfl rfl ?_
                  refine pw_iload_n dX4_descend_137 rfl rfl ?_
                  refine pw_iconst (v := 1) dX4_descend_138 rfl ?_
                  refine pw_iadd dX4_descend_139 ?_
                  refine pw_iload_n dX4_descend_140 rfl rfl ?_
                  refine pw_iload dX4_descend_141 rfl ?_
                  refine pw_iadd dX4_descend_143 ?_
                  refine pw_eq (st' := [.int (sum + yF (bk μ) T j h), .int (nI (p ++ [cdF nh (j * nh + h)]).length), .ref 13]) rfl rfl (by rw [List.length_append]; show _ = [Value.int (sum + yF (bk μ) T j h), Value.int (nI p.length + 1), Value.ref 13]; rw [nI_1]; rfl) rfl ?_
                  refine pw_cSv dX4_descend_144 ms_X4_53 (hrec (p := p ++ [cdF nh (j * nh + h)]) (T := laughV T j h (yF (bk μ) T j h)) (a := q) hne (okC_V hc rfl) h1 h5 (by rw [List.length_append]; show p.length + 1 + rem = L; omega) (by rw [hcd]; exact relP_push (relP_keep hp hr1)) hA1 (by rw [List.length_append]; exact refresh_ok (L := p.length + 1) (by omega) hj5 hh6 hlj hlh (fun j2 h2 a2 b2 => by rw [Nat.add_sub_cancel, hw1 _ (by omega)]; exact hws j2 h2 a2 b2))) rfl rfl (Nat.le_of_ble_eq_true rfl) (by omega) (fun m_144 h_144 => ?_)
                  obtain ⟨nm4, sk4, be4, r4, br4, ws4, rfl, hA4, hr4, hw4⟩ := h_144
                  refine pw_aload_n dX4_descend_147 rfl rfl ?_
                  refine pw_getR dX4_descend_148 fa_X4_65 rfl ?_
                  refine pw_iload dX4_descend_151 rfl ?_
                  refine pw_iload dX4_descend_153 rfl ?_
                  refine pw_iast (j := j) dX4_descend_155 rfl rfl (by omega) ?_
                  refine pw_mem (siw (w := 32) (r := 3) i32 (by decide)) ?_
                  refine pw_aload_n dX4_descend_156 rfl rfl ?_
                  refine pw_getR dX4_descend_157 fa_X4_68 rfl ?_
                  refine pw_iload dX4_descend_160 rfl ?_
                  refine pw_iload dX4_descend_162 rfl ?_
                  refine pw_iast (j := h) dX4_descend_164 rfl rfl (by omega) ?_
                  refine pw_mem (siw (w := 32) (r := 5) i32 (by decide)) ?_
                  refine pw_aload_n dX4_descend_165 rfl rfl ?_
                  refine pw_getR dX4_descend_166 fa_X4_71 rfl ?_
                  refine pw_iload dX4_descend_169 rfl ?_
                  refine pw_iload dX4_descend_171 rfl ?_
                  refine pw_iast (j := h) dX4_descend_173 rfl rfl (by omega) ?_
                  refine pw_mem (siw (w := 32) (r := 7) i32 (by decide)) ?_
                  rw [laugh_back]
                  refine pw_iinc (ls2 := [(5, _), (9, _), (8, _), (7, _), (6, _), (0, _), (1, _), (2, _), (3, _), (4, _)]) (v := nI (h + 1)) dX4_descend_174 rfl (inc1 h) (by decide) rfl ?_
                  refine pw_goto (tgt := 29) dX4_descend_177 (by decide) ?_
                  refine pw_sub [5, 6, 7, 8, 9, 0] rfl ?_
                  exact ih_29 (h + 1) nm4 sk4 r4 br4 ws4 be4 _ hlh hA4 (fun k hk => by rw [hr4 k (by rw [List.length_append]; show k < p.length + 1; omega), upd_o _ _ (by omega)]; exact hr1 k hk) (fun x hx => by rw [hw4 x (by rw [List.length_append]; show x < 30 * (p.length + 1 + 1); omega), refresh_low hx]; exact hw1 x hx) (dsS_at hlh hmul hq (by rw [hcd]; rfl)) (by omega)
                · skip
                  have h0 : rem = 0 := by
                    have := (nI_eq (by omega) (by omega)).mp c_74
                    omega
                  subst h0
                  refine pw_aload_n dX4_descend_77 rfl rfl ?_
                  refine pw_iload_n dX4_descend_78 rfl rfl ?_
                  refine pw_iload dX4_descend_79 rfl ?_
                  refine pw_iadd dX4_descend_81 ?_
                  refine pw_cVv dX4_descend_82 mv_X4_61 ckSearch T_X4_compare rfl rfl (Nat.le_of_ble_eq_true rfl) (by omega) (fun m_82 h_82 => ?_)
                  obtain rfl := h_82
                  refine pw_goto (tgt := 174) dX4_descend_85 (by decide) ?_
                  skip
                  refine pw_iinc (ls2 := [(5, _), (6, _), (0, _), (1, _), (2, _), (3, _), (4, _)]) (v := nI (h + 1)) dX4_descend_174 rfl (inc1 h) (by decide) rfl ?_
                  refine pw_goto (tgt := 29) dX4_descend_177 (by decide) ?_
                  refine pw_sub [2, 3, 4, 5, 6, 0] rfl ?_
                  exact ih_29 (h + 1) nm1 sk1 _ _ ws1 _ _ hlh (relA_cmp hA1 (relP_push (c := 10 * j + h) (relP_keep hp hr1)) (by rw [List.length_append]; show p.length + 1 ≤ 3; omega)) (fun k hk => by rw [upd_o _ _ (by omega)]; exact hr1 k hk) hw1 (dsS_at hlh hmul hq rfl) (by omega)
          refine pw_sub [1, 2, 3, 4, 5, 0] rfl ?_
          exact L_29 (nh + 1) 0 nm1 sk1 r1 br1 ws1 be1 q (Nat.zero_le _) hA1 hr1 hw1 hq (by omega)
    refine pw_sub [2, 3, 4, 1, 0] rfl ?_
    exact L_17 (nj + 1) 0 nm sk r br ws be a (Nat.zero_le _) hA (fun _ _ => rfl) (fun _ _ => rfl) (by rw [Nat.zero_mul]; rfl) (by omega)
  · skip
    exact absurd (nI_lt (by omega) (by omega)) c_5

theorem descend_all {l : Launch} {μ : PM} {nj nh L : Nat} (hL3 : L ≤ 3) (hj5 : nj ≤ 5) (hh6 : nh ≤ 6) : ∀ (rem : Nat) {T : VW} {nm sk r br ws : Nat → Int32} {be sum : Int32} {p : List Nat} {a : AC}, okC μ T → T 0 1 = nI nj → T 0 5 = nI nh → p.length + (rem + 1) = L → relP r p → relA be br a → wsOK (bk μ) T nj nh p.length ws → CT l SC yX4_descend cX4_descend 10 none (8 + rem) [.ref 13, .int (nI p.length), .int sum] (sc (wr (sM μ (nI L) be r br ws) 32 T) nm sk) (QV fun m => ∃ nm2 sk2 be2 r2 br2 ws2, m = (sc (wr (sM μ (nI L) be2 r2 br2 ws2) 32 T) nm2 sk2) ∧ relA be2 br2 (dsc (bk μ) nj nh (rem + 1) T p sum a) ∧ (∀ k, k < p.length → r2 k = r k) ∧ ∀ x, x < 30 * (p.length + 1) → ws2 x = ws x)
  | 0, _, _, _, _, _, _, _, _, _, _, g1, g2, g3, g4, g5, g6, g7 => descend_step hL3 hj5 hh6 0 7 8 (by decide) (by decide) (fun h => absurd h (by decide)) g1 g2 g3 g4 g5 g6 g7
  | rem + 1, _, _, _, _, _, _, _, _, _, _, g1, g2, g3, g4, g5, g6, g7 => descend_step hL3 hj5 hh6 (rem + 1) (8 + rem) (8 + (rem + 1)) (by omega) (by omega) (fun _ f1 f2 f3 f4 f5 f6 f7 => descend_all hL3 hj5 hh6 rem f1 f2 f3 f4 f5 f6 f7) g1 g2 g3 g4 g5 g6 g7
theorem descend_n {l : Launch} {μ : PM} {nj nh n n1 : Nat} (e : n1 + 1 = n) (hL3 : n ≤ 3) (hj5 : nj ≤ 5) (hh6 : nh ≤ 6) {T : VW} {nm sk r br ws : Nat → Int32} (hc : okC μ T) (h1 : T 0 1 = nI nj) (h5 : T 0 5 = nI nh) (hws : ∀ j h, j < nj → h < nh → ws (6 * j + h) = yF (bk μ) T j h) :
    CT l SC yX4_descend cX4_descend 10 none (8 + n1) [.ref 13, .int 0, .int 0] (sc (wr (sM μ (nI n) (-1) r br ws) 32 T) nm sk) (QV fun m => ∃ nm2 sk2 be2 r2 br2 ws2, m = (sc (wr (sM μ (nI n) be2 r2 br2 ws2) 32 T) nm2 sk2) ∧ relA be2 br2 (dsc (bk μ) nj nh n T [] 0 (-1, []))) := by
  subst e
  have h9 := descend_all (l := l) (μ := μ) (L := n1 + 1) (nm := nm) (sk := sk) (r := r) (br := br) (ws := ws) (a := (-1, [])) (p := []) (sum := 0) (be := -1) hL3 hj5 hh6 n1 hc h1 h5 (Nat.zero_add _) (fun k c hk => by cases hk) ⟨rfl, fun k c hk => by cases hk⟩ (fun j h a b => by
    show ws (30 * 0 + 6 * j + h) = _
    rw [Nat.mul_zero, Nat.zero_add]
    exact hws j h a b)
  exact CT.mono h9 (by
    rintro r0 m ⟨e0, nm2, sk2, be2, r2, br2, ws2, e1, e2, -, -⟩
    exact ⟨e0, nm2, sk2, be2, r2, br2, ws2, e1, e2⟩)

