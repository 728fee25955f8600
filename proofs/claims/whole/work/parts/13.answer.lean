theorem nI_sub1 {n : Nat} : nI (n + 1) - 1 = nI n := nI_pred n
theorem in_t {t n : Nat} (h : t < n) (hn : n < 2 ^ 30) : inF (nI t) 0 (nI n - 1) = true := by
  obtain ⟨m, rfl⟩ : ∃ m, n = m + 1 := ⟨n - 1, by omega⟩
  rw [nI_sub1]
  unfold inF
  rw [decide_eq_true (nI_pos' (by omega)), decide_eq_true (nI_le (by omega) (by omega))]
  rfl
theorem nm_ix {c : Int32} (h1 : ¬ c < -6) (h2 : c < 0) : -1 - c = nI (-1 - c).toNatClampNeg ∧ (-1 - c).toNatClampNeg < 6 := by
  have a1 : ¬ c.toInt < (-6 : Int32).toInt := fun h => h1 (Int32.lt_iff_toInt_lt.mpr h)
  have a2 := Int32.lt_iff_toInt_lt.mp h2
  have e6 : (-6 : Int32).toInt = -6 := rfl
  have e0 : (0 : Int32).toInt = 0 := rfl
  have e1 : (-1 : Int32).toInt = -1 := rfl
  have hs : (-1 - c).toInt = -1 - c.toInt := by
    rw [Int32.toInt_sub, e1]
    apply Int.bmod_eq_of_le <;> omega
  have hc : (-1 - c).toNatClampNeg = (-1 - c.toInt).toNat := by
    show (-1 - c).toInt.toNat = _
    rw [hs]
  refine ⟨?_, by omega⟩
  apply Int32.toInt_inj.mp
  rw [nI_toInt (by omega), hc, hs]
  omega
theorem stepL_pushP {nm : Nat → Int32} {c : Int32} {s : List Int32} (h1 : ¬ c < -6) (h2 : ¬ c < 0) (h3 : s.length < 64) : stepL nm c s = c :: s := by
  unfold stepL
  rw [if_pos (Int32.not_lt.mp h1), if_pos h3, if_pos (Int32.not_lt.mp h2)]
theorem stepL_pushN {nm : Nat → Int32} {c : Int32} {s : List Int32} (h1 : ¬ c < -6) (h2 : c < 0) (h3 : s.length < 64) : stepL nm c s = nm (-1 - c).toNatClampNeg :: s := by
  unfold stepL
  rw [if_pos (Int32.not_lt.mp h1), if_pos h3, if_neg (fun h => absurd h2 (Int32.not_lt.mpr h))]
theorem stepL_full {nm : Nat → Int32} {c : Int32} {s : List Int32} (h1 : ¬ c < -6) (h3 : ¬ s.length < 64) : stepL nm c s = s := by
  unfold stepL
  rw [if_pos (Int32.not_lt.mp h1), if_neg h3]
theorem stepL_un {nm : Nat → Int32} {c a : Int32} {r : List Int32} (h1 : c < -6) (h2 : ¬ c < -11) : stepL nm c (a :: r) = (if c = -11 then -a else if a = 0 then 1 else 0) :: r := by
  unfold stepL
  rw [if_neg (fun h => absurd h1 (Int32.not_lt.mpr h)), if_pos (Int32.not_lt.mp h2)]
theorem stepL_un0 {nm : Nat → Int32} {c : Int32} (h1 : c < -6) (h2 : ¬ c < -11) : stepL nm c [] = [] := by
  unfold stepL
  rw [if_neg (fun h => absurd h1 (Int32.not_lt.mpr h)), if_pos (Int32.not_lt.mp h2)]
theorem stepL_bin {nm : Nat → Int32} {c a b : Int32} {r : List Int32} (h1 : c < -6) (h2 : c < -11) : stepL nm c (b :: a :: r) = joinF c a b :: r := by
  unfold stepL
  rw [if_neg (fun h => absurd h1 (Int32.not_lt.mpr h)), if_neg (fun h => absurd h2 (Int32.not_lt.mpr h))]
theorem stepL_bin1 {nm : Nat → Int32} {c : Int32} {s : List Int32} (h1 : c < -6) (h2 : c < -11) (h3 : s.length ≤ 1) : stepL nm c s = s := by
  unfold stepL
  rw [if_neg (fun h => absurd h1 (Int32.not_lt.mpr h)), if_neg (fun h => absurd h2 (Int32.not_lt.mpr h))]
  match s, h3 with
  | [], _ => rfl
  | [a], _ => rfl
  | a :: b :: r, h => simp at h
set_option maxHeartbeats 4000000 in
set_option maxRecDepth 100000 in
theorem T_X1_answer {l : Launch} {μ : PM} {nm sk0 : Nat → Int32} {size t p : Nat} (hs : μ.1 1 0 = nI size) (hb : bookOK size (μ.1 3)) (ht : t < size) (hp : p < 3) : CT l SC yX1_answer cX1_answer 10 (some .int) 3 [.ref 1, .int (nI t), .int (nI p)] (sc μ nm sk0) (QI fun x m => x = lawF (μ.1 2) (μ.1 3) nm t p ∧ ∃ sk, m = sc μ nm sk) := by
  refine CT.of rfl (Nat.le_of_ble_eq_true rfl) ?_
  show PW l SC RX1 cX1_answer 10 (some .int) 3 _ 0 [(0, .ref 1), (1, .int (nI t)), (2, .int (nI p))] [] (sc μ nm sk0)
  obtain ⟨f, hf⟩ : ∃ f, f = lawB (μ.1 3) t p := ⟨_, rfl⟩
  obtain ⟨z, hz⟩ : ∃ z, z = lawE (μ.1 3) t p := ⟨_, rfl⟩
  have hs6 := hb.1
  have hze : μ.1 3 (3 * t + p) = nI z := by rw [hz]; exact (hb.2 t p ht hp).1
  have hz2 : z ≤ 160 := by rw [hz]; exact (hb.2 t p ht hp).2
  have hf2 : f ≤ 160 := by
    rw [hf]; unfold lawB
    split
    · omega
    · exact (hb.2 t (p - 1) ht (by omega)).2
  have hR : lawF (μ.1 2) (μ.1 3) nm t p = (runL (μ.1 2) nm (160 * t + f) (z - f) []).headD 0 := by unfold lawF; rw [← hf, ← hz]
  have hin : inF (nI t) 0 (nI size - 1) = true := in_t ht (by omega)
  have hin2 : inF (nI p) 0 2 = true := by
    have h3 : p = 0 ∨ p = 1 ∨ p = 2 := by omega
    rcases h3 with rfl | rfl | rfl <;> rfl
  refine pw_iload_n dX1_answer_0 rfl rfl ?_
  refine pw_iconst (v := 0) dX1_answer_1 rfl ?_
  refine pw_aload_n dX1_answer_2 rfl rfl ?_
  refine pw_getI dX1_answer_3 fa_X1_11 rfl ?_
  refine pw_iconst (v := 1) dX1_answer_6 rfl ?_
  refine pw_isub dX1_answer_7 ?_
  refine pw_cSi dX1_answer_8 ms_X1_34 T_X7_within rfl rfl (Nat.le_of_ble_eq_true rfl) (by decide) (fun x_8 m_8 h_8 => ?_)
  obtain ⟨rfl, rfl⟩ := h_8
  rw [show (sc μ nm sk0).1 1 0 = nI size from hs, hin]
  refine pw_if_eq (tgt := 23) dX1_answer_11 (by decide) (fun c_11 => ?_) (fun c_11 => ?_)
  · skip
    exact absurd c_11 (by decide)
  · skip
    refine pw_iload_n dX1_answer_14 rfl rfl ?_
    refine pw_iconst (v := 0) dX1_answer_15 rfl ?_
    refine pw_iconst (v := 2) dX1_answer_16 rfl ?_
    refine pw_cSi dX1_answer_17 ms_X1_34 T_X7_within rfl rfl (Nat.le_of_ble_eq_true rfl) (by decide) (fun x_17 m_17 h_17 => ?_)
    obtain ⟨rfl, rfl⟩ := h_17
    rw [hin2]
    refine pw_if_ne (tgt := 25) dX1_answer_20 (by decide) (fun c_20 => ?_) (fun c_20 => ?_)
    · skip
      refine pw_iload_n dX1_answer_25 rfl rfl ?_
      refine pw_sipush (v := 160) dX1_answer_26 rfl ?_
      refine pw_imul dX1_answer_29 ?_
      refine pw_top (y := nI (160 * t)) (by show nI t * nI 160 = _; rw [pk_mul, Nat.mul_comm]) ?_
      refine pw_istore_n (ls2 := [(3, _), (0, _), (1, _), (2, _)]) dX1_answer_30 rfl (by decide) rfl ?_
      have J_51 : ∀ (y : Int32), (y = nI f) → PW l SC RX1 cX1_answer 10 (some .int) 3 (QI fun x m => x = lawF (μ.1 2) (μ.1 3) nm t p ∧ ∃ sk, m = sc μ nm sk) 51 [(0, .ref 1), (1, .int (nI t)), (2, .int (nI p)), (3, .int (nI (160 * t)))] [.int y] (sc μ nm sk0) := by
        intro y hy
        refine pw_top hy ?_
        refine pw_istore (ls2 := [(4, _), (0, _), (1, _), (2, _), (3, _)]) dX1_answer_51 (by decide) rfl ?_
        refine pw_aload_n dX1_answer_53 rfl rfl ?_
        refine pw_getR dX1_answer_54 fa_X1_19 rfl ?_
        refine pw_iload_n dX1_answer_57 rfl rfl ?_
        refine pw_iconst (v := 3) dX1_answer_58 rfl ?_
        refine pw_imul dX1_answer_59 ?_
        refine pw_iload_n dX1_answer_60 rfl rfl ?_
        refine pw_iadd dX1_answer_61 ?_
        refine pw_iald (j := 3 * t + p) dX1_answer_62 rfl (by show nI t * nI 3 + nI p = _; rw [pk_mul, nI_add, Nat.mul_comm]) (by omega) ?_
        refine pw_top (y := nI z) hze ?_
        refine pw_istore (ls2 := [(5, _), (4, _), (0, _), (1, _), (2, _), (3, _)]) dX1_answer_63 (by decide) rfl ?_
        refine pw_iconst (v := 0) dX1_answer_65 rfl ?_
        refine pw_top (y := nI ([] : List Int32).length) rfl ?_
        refine pw_istore (ls2 := [(6, _), (5, _), (4, _), (0, _), (1, _), (2, _), (3, _)]) dX1_answer_66 (by decide) rfl ?_
        refine pw_iload_n dX1_answer_68 rfl rfl ?_
        refine pw_iload dX1_answer_69 rfl ?_
        refine pw_iadd dX1_answer_71 ?_
        refine pw_top (y := nI (160 * t + f + 0)) (by rw [nI_add] <;> rfl) ?_
        refine pw_istore (ls2 := [(7, _), (6, _), (5, _), (4, _), (0, _), (1, _), (2, _), (3, _)]) dX1_answer_72 (by decide) rfl ?_
        have L_74 : ∀ (fu_74 : Nat) (j : Nat) (s : List Int32) (sk : Nat → Int32), (s.length ≤ 64) → (stk sk s) → (j ≤ 160) → (runL (μ.1 2) nm (160 * t + f + j) (z - f - j) s = runL (μ.1 2) nm (160 * t + f) (z - f) []) → z - f - j < fu_74 → PW l SC RX1 cX1_answer 10 (some .int) 3 (QI fun x m => x = lawF (μ.1 2) (μ.1 3) nm t p ∧ ∃ sk, m = sc μ nm sk) 74 [(0, .ref 1), (1, .int (nI t)), (2, .int (nI p)), (3, .int (nI (160 * t))), (4, .int (nI f)), (5, .int (nI z)), (6, .int (nI s.length)), (7, .int (nI (160 * t + f + j)))] [] (sc μ nm sk) := by
          intro fu_74
          induction fu_74 with
          | zero =>
            intro j s sk hlen hst hjm hrun hm_74
            exact absurd hm_74 (Nat.not_lt_zero _)
          | succ fu_74 ih_74 =>
            intro j s sk hlen hst hjm hrun hm_74
            refine pw_iload dX1_answer_74 rfl ?_
            refine pw_iload_n dX1_answer_76 rfl rfl ?_
            refine pw_iload dX1_answer_77 rfl ?_
            refine pw_iadd dX1_answer_79 ?_
            refine pw_top2 (y := nI (160 * t + f + j)) rfl ?_
            refine pw_top (y := nI (160 * t + z)) (by rw [nI_add]) ?_
            refine pw_icmp_ge (tgt := 241) dX1_answer_80 (by decide) (fun c_80 => ?_) (fun c_80 => ?_)
            · skip
              have hge : z ≤ f + j := by have := (nI_leI (by omega) (by omega)).mp c_80; omega
              refine pw_iload dX1_answer_241 rfl ?_
              refine pw_if_le (tgt := 258) dX1_answer_243 (by decide) (fun c_243 => ?_) (fun c_243 => ?_)
              · skip
                refine pw_iconst (v := 0) dX1_answer_258 rfl ?_
                refine pw_iret dX1_answer_259 rfl ?_
                refine ⟨?_, _, rfl⟩
                rw [hR, ← hrun, show z - f - j = 0 by omega]
                have hs0 : s = [] := by
                  cases s with
                  | nil => rfl
                  | cons a r => exact absurd c_243 (nI_nle (Nat.succ_pos _) (by simp only [List.length_cons] at hlen ⊢; omega))
                rw [hs0]; rfl
              · skip
                refine pw_aload_n dX1_answer_246 rfl rfl ?_
                refine pw_getR dX1_answer_247 fa_X1_25 rfl ?_
                refine pw_iload dX1_answer_250 rfl ?_
                refine pw_iconst (v := 1) dX1_answer_252 rfl ?_
                refine pw_isub dX1_answer_253 ?_
                obtain ⟨a, r, rfl⟩ : ∃ a r, s = a :: r := by
                  cases s with
                  | nil => exact absurd (by decide) c_243
                  | cons a r => exact ⟨a, r, rfl⟩
                simp only [List.length_cons] at hlen
                refine pw_iald (j := r.length) dX1_answer_254 rfl nI_sub1 (by omega) ?_
                refine pw_goto (tgt := 259) dX1_answer_255 (by decide) ?_
                refine pw_iret dX1_answer_259 rfl ?_
                refine ⟨?_, _, rfl⟩
                rw [hR, ← hrun, show z - f - j = 0 by omega]
                exact hst.1
            · skip
              have hlt : f + j < z := by
                rcases Nat.lt_or_ge (f + j) z with h | h
                · exact h
                · exact absurd (nI_le (by omega) (by omega)) c_80
              refine pw_aload_n dX1_answer_83 rfl rfl ?_
              refine pw_getR dX1_answer_84 fa_X1_15 rfl ?_
              refine pw_iload dX1_answer_87 rfl ?_
              refine pw_iald (j := 160 * t + f + j) dX1_answer_89 rfl rfl (by omega) ?_
              obtain ⟨cst, hc⟩ : ∃ q, q = μ.1 2 (160 * t + f + j) := ⟨_, rfl⟩
              refine pw_top (y := cst) hc.symm ?_
              refine pw_istore (ls2 := [(8, _), (0, _), (1, _), (2, _), (3, _), (4, _), (5, _), (6, _), (7, _)]) dX1_answer_90 (by decide) rfl ?_
              refine pw_iload dX1_answer_92 rfl ?_
              refine pw_bipush (v := (-6)) dX1_answer_94 rfl ?_
              refine pw_icmp_lt (tgt := 138) dX1_answer_96 (by decide) (fun c_96 => ?_) (fun c_96 => ?_)
              · skip
                refine pw_iload dX1_answer_138 rfl ?_
                refine pw_bipush (v := (-11)) dX1_answer_140 rfl ?_
                refine pw_icmp_lt (tgt := 196) dX1_answer_142 (by decide) (fun c_142 => ?_) (fun c_142 => ?_)
                · skip
                  refine pw_iload dX1_answer_196 rfl ?_
                  refine pw_iconst (v := 1) dX1_answer_198 rfl ?_
                  refine pw_icmp_le (tgt := 235) dX1_answer_199 (by decide) (fun c_199 => ?_) (fun c_199 => ?_)
                  · skip
                    have hs1 : s.length ≤ 1 := by
                      rcases Nat.lt_or_ge 1 s.length with h | h
                      · exact absurd c_199 (nI_ge h (by omega))
                      · exact h
                    skip
                    refine pw_iinc (ls2 := [(7, _), (8, _), (0, _), (1, _), (2, _), (3, _), (4, _), (5, _), (6, _)]) (v := nI ((160 * t + f + j) + 1)) dX1_answer_235 rfl (inc1 (160 * t + f + j)) (by decide) rfl ?_
                    refine pw_goto (tgt := 74) dX1_answer_238 (by decide) ?_
                    refine pw_sub [2, 3, 4, 5, 6, 7, 8, 0] rfl ?_
                    exact ih_74 (j + 1) s sk hlen hst (by omega) (by rw [← hrun, show z - f - j = (z - f - (j + 1)) + 1 by omega]; show _ = runL _ _ (160 * t + f + j + 1) _ (stepL nm (μ.1 2 (160 * t + f + j)) _); rw [← hc, stepL_bin1 c_96 c_142 hs1]; rfl) (by omega)
                  · skip
                    obtain ⟨b, a, r, rfl⟩ : ∃ b a r, s = b :: a :: r := by
                      match s, c_199 with
                      | [], h => exact absurd (by decide) h
                      | [x], h => exact absurd (show nI 1 ≤ 1 by decide) h
                      | b :: a :: r, _ => exact ⟨b, a, r, rfl⟩
                    simp only [List.length_cons] at hlen
                    refine pw_iinc (ls2 := [(6, _), (8, _), (0, _), (1, _), (2, _), (3, _), (4, _), (5, _), (7, _)]) (v := nI (r.length + 1)) dX1_answer_202 rfl (dec1 _) (by decide) rfl ?_
                    refine pw_aload_n dX1_answer_205 rfl rfl ?_
                    refine pw_getR dX1_answer_206 fa_X1_25 rfl ?_
                    refine pw_iload dX1_answer_209 rfl ?_
                    refine pw_iconst (v := 1) dX1_answer_211 rfl ?_
                    refine pw_isub dX1_answer_212 ?_
                    refine pw_iload dX1_answer_213 rfl ?_
                    refine pw_aload_n dX1_answer_215 rfl rfl ?_
                    refine pw_getR dX1_answer_216 fa_X1_25 rfl ?_
                    refine pw_iload dX1_answer_219 rfl ?_
                    refine pw_iconst (v := 1) dX1_answer_221 rfl ?_
                    refine pw_isub dX1_answer_222 ?_
                    refine pw_iald (j := r.length) dX1_answer_223 rfl nI_sub1 (by omega) ?_
                    refine pw_aload_n dX1_answer_224 rfl rfl ?_
                    refine pw_getR dX1_answer_225 fa_X1_25 rfl ?_
                    refine pw_iload dX1_answer_228 rfl ?_
                    refine pw_iald (j := r.length + 1) dX1_answer_230 rfl rfl (by omega) ?_
                    refine pw_eq (st' := [.int b, .int a, .int cst, .int (nI (r.length + 1) - 1), .ref 5]) rfl rfl (by rw [show (sc μ nm sk).1 5 (r.length + 1) = b from hst.1, show (sc μ nm sk).1 5 r.length = a from hst.2.1]) rfl ?_
                    refine pw_cSi dX1_answer_231 ms_X1_38 T_X1_joined rfl rfl (Nat.le_of_ble_eq_true rfl) (by decide) (fun x_231 m_231 h_231 => ?_)
                    obtain ⟨rfl, rfl⟩ := h_231
                    refine pw_iast (j := r.length) dX1_answer_234 rfl nI_sub1 (by omega) ?_
                    refine pw_mem si_sk ?_
                    refine pw_iinc (ls2 := [(7, _), (6, _), (8, _), (0, _), (1, _), (2, _), (3, _), (4, _), (5, _)]) (v := nI ((160 * t + f + j) + 1)) dX1_answer_235 rfl (inc1 (160 * t + f + j)) (by decide) rfl ?_
                    refine pw_goto (tgt := 74) dX1_answer_238 (by decide) ?_
                    refine pw_sub [3, 4, 5, 6, 7, 8, 1, 0] rfl ?_
                    exact ih_74 (j + 1) (joinF cst a b :: r) (upd sk r.length (joinF cst a b)) (by simp only [List.length_cons]; omega) (stk_push hst.2.2) (by omega) (by rw [← hrun, show z - f - j = (z - f - (j + 1)) + 1 by omega]; show _ = runL _ _ (160 * t + f + j + 1) _ (stepL nm (μ.1 2 (160 * t + f + j)) _); rw [← hc, stepL_bin c_96 c_142]; rfl) (by omega)
                · skip
                  refine pw_iload dX1_answer_145 rfl ?_
                  refine pw_if_le (tgt := 235) dX1_answer_147 (by decide) (fun c_147 => ?_) (fun c_147 => ?_)
                  · skip
                    have hs0 : s = [] := by
                      cases s with
                      | nil => rfl
                      | cons a r => exact absurd c_147 (nI_nle (Nat.succ_pos _) (by simp only [List.length_cons] at hlen ⊢; omega))
                    subst hs0
                    skip
                    refine pw_iinc (ls2 := [(7, _), (8, _), (0, _), (1, _), (2, _), (3, _), (4, _), (5, _), (6, _)]) (v := nI ((160 * t + f + j) + 1)) dX1_answer_235 rfl (inc1 (160 * t + f + j)) (by decide) rfl ?_
                    refine pw_goto (tgt := 74) dX1_answer_238 (by decide) ?_
                    refine pw_sub [2, 3, 4, 5, 6, 7, 8, 0] rfl ?_
                    exact ih_74 (j + 1) [] sk (Nat.zero_le _) trivial (by omega) (by rw [← hrun, show z - f - j = (z - f - (j + 1)) + 1 by omega]; show _ = runL _ _ (160 * t + f + j + 1) _ (stepL nm (μ.1 2 (160 * t + f + j)) _); rw [← hc, stepL_un0 c_96 c_142]; rfl) (by omega)
                  · skip
                    obtain ⟨a, r, rfl⟩ : ∃ a r, s = a :: r := by
                      cases s with
                      | nil => exact absurd (by decide) c_147
                      | cons a r => exact ⟨a, r, rfl⟩
                    simp only [List.length_cons] at hlen
                    refine pw_aload_n dX1_answer_150 rfl rfl ?_
                    refine pw_getR dX1_answer_151 fa_X1_25 rfl ?_
                    refine pw_iload dX1_answer_154 rfl ?_
                    refine pw_iconst (v := 1) dX1_answer_156 rfl ?_
                    refine pw_isub dX1_answer_157 ?_
                    refine pw_iald (j := r.length) dX1_answer_158 rfl nI_sub1 (by omega) ?_
                    refine pw_top (y := a) hst.1 ?_
                    refine pw_istore (ls2 := [(9, _), (8, _), (0, _), (1, _), (2, _), (3, _), (4, _), (5, _), (6, _), (7, _)]) dX1_answer_159 (by decide) rfl ?_
                    refine pw_aload_n dX1_answer_161 rfl rfl ?_
                    refine pw_getR dX1_answer_162 fa_X1_25 rfl ?_
                    refine pw_iload dX1_answer_165 rfl ?_
                    refine pw_iconst (v := 1) dX1_answer_167 rfl ?_
                    refine pw_isub dX1_answer_168 ?_
                    refine pw_iload dX1_answer_169 rfl ?_
                    refine pw_bipush (v := (-11)) dX1_answer_171 rfl ?_
                    refine pw_icmp_ne (tgt := 182) dX1_answer_173 (by decide) (fun c_173 => ?_) (fun c_173 => ?_)
                    · skip
                      refine pw_iload dX1_answer_182 rfl ?_
                      refine pw_if_ne (tgt := 191) dX1_answer_184 (by decide) (fun c_184 => ?_) (fun c_184 => ?_)
                      · skip
                        refine pw_iconst (v := 0) dX1_answer_191 rfl ?_
                        refine pw_iast (j := r.length) dX1_answer_192 rfl nI_sub1 (by omega) ?_
                        refine pw_mem si_sk ?_
                        refine pw_goto (tgt := 235) dX1_answer_193 (by decide) ?_
                        skip
                        refine pw_iinc (ls2 := [(7, _), (9, _), (8, _), (0, _), (1, _), (2, _), (3, _), (4, _), (5, _), (6, _)]) (v := nI ((160 * t + f + j) + 1)) dX1_answer_235 rfl (inc1 (160 * t + f + j)) (by decide) rfl ?_
                        refine pw_goto (tgt := 74) dX1_answer_238 (by decide) ?_
                        refine pw_sub [3, 4, 5, 6, 7, 8, 9, 0] rfl ?_
                        exact ih_74 (j + 1) (0 :: r) (upd sk r.length 0) hlen (stk_push hst.2) (by omega) (by rw [← hrun, show z - f - j = (z - f - (j + 1)) + 1 by omega]; show _ = runL _ _ (160 * t + f + j + 1) _ (stepL nm (μ.1 2 (160 * t + f + j)) _); rw [← hc, stepL_un c_96 c_142, if_neg c_173, if_neg c_184]; rfl) (by omega)
                      · skip
                        refine pw_iconst (v := 1) dX1_answer_187 rfl ?_
                        refine pw_goto (tgt := 192) dX1_answer_188 (by decide) ?_
                        refine pw_iast (j := r.length) dX1_answer_192 rfl nI_sub1 (by omega) ?_
                        refine pw_mem si_sk ?_
                        refine pw_goto (tgt := 235) dX1_answer_193 (by decide) ?_
                        skip
                        refine pw_iinc (ls2 := [(7, _), (9, _), (8, _), (0, _), (1, _), (2, _), (3, _), (4, _), (5, _), (6, _)]) (v := nI ((160 * t + f + j) + 1)) dX1_answer_235 rfl (inc1 (160 * t + f + j)) (by decide) rfl ?_
                        refine pw_goto (tgt := 74) dX1_answer_238 (by decide) ?_
                        refine pw_sub [3, 4, 5, 6, 7, 8, 9, 0] rfl ?_
                        exact ih_74 (j + 1) (1 :: r) (upd sk r.length 1) hlen (stk_push hst.2) (by omega) (by rw [← hrun, show z - f - j = (z - f - (j + 1)) + 1 by omega]; show _ = runL _ _ (160 * t + f + j + 1) _ (stepL nm (μ.1 2 (160 * t + f + j)) _); rw [← hc, stepL_un c_96 c_142, if_neg c_173, if_pos c_184]; rfl) (by omega)
                    · skip
                      refine pw_iload dX1_answer_176 rfl ?_
                      refine pw_ineg dX1_answer_178 ?_
                      refine pw_goto (tgt := 192) dX1_answer_179 (by decide) ?_
                      refine pw_iast (j := r.length) dX1_answer_192 rfl nI_sub1 (by omega) ?_
                      refine pw_mem si_sk ?_
                      refine pw_goto (tgt := 235) dX1_answer_193 (by decide) ?_
                      skip
                      refine pw_iinc (ls2 := [(7, _), (9, _), (8, _), (0, _), (1, _), (2, _), (3, _), (4, _), (5, _), (6, _)]) (v := nI ((160 * t + f + j) + 1)) dX1_answer_235 rfl (inc1 (160 * t + f + j)) (by decide) rfl ?_
                      refine pw_goto (tgt := 74) dX1_answer_238 (by decide) ?_
                      refine pw_sub [3, 4, 5, 6, 7, 8, 9, 0] rfl ?_
                      exact ih_74 (j + 1) (-a :: r) (upd sk r.length (-a)) hlen (stk_push hst.2) (by omega) (by rw [← hrun, show z - f - j = (z - f - (j + 1)) + 1 by omega]; show _ = runL _ _ (160 * t + f + j + 1) _ (stepL nm (μ.1 2 (160 * t + f + j)) _); rw [← hc, stepL_un c_96 c_142, if_pos c_173]; rfl) (by omega)
              · skip
                refine pw_iload dX1_answer_99 rfl ?_
                refine pw_bipush (v := 64) dX1_answer_101 rfl ?_
                refine pw_icmp_ge (tgt := 235) dX1_answer_103 (by decide) (fun c_103 => ?_) (fun c_103 => ?_)
                · skip
                  have hful : ¬ s.length < 64 := fun h => absurd c_103 (nI_ge h (by decide))
                  skip
                  refine pw_iinc (ls2 := [(7, _), (8, _), (0, _), (1, _), (2, _), (3, _), (4, _), (5, _), (6, _)]) (v := nI ((160 * t + f + j) + 1)) dX1_answer_235 rfl (inc1 (160 * t + f + j)) (by decide) rfl ?_
                  refine pw_goto (tgt := 74) dX1_answer_238 (by decide) ?_
                  refine pw_sub [2, 3, 4, 5, 6, 7, 8, 0] rfl ?_
                  exact ih_74 (j + 1) s sk hlen hst (by omega) (by rw [← hrun, show z - f - j = (z - f - (j + 1)) + 1 by omega]; show _ = runL _ _ (160 * t + f + j + 1) _ (stepL nm (μ.1 2 (160 * t + f + j)) _); rw [← hc, stepL_full c_96 hful]; rfl) (by omega)
                · skip
                  have hroom : s.length < 64 := by
                    rcases Nat.lt_or_ge s.length 64 with h | h
                    · exact h
                    · exact absurd (nI_le (b := s.length) h (by omega)) c_103
                  refine pw_aload_n dX1_answer_106 rfl rfl ?_
                  refine pw_getR dX1_answer_107 fa_X1_25 rfl ?_
                  refine pw_iload dX1_answer_110 rfl ?_
                  refine pw_iload dX1_answer_112 rfl ?_
                  refine pw_if_lt (tgt := 122) dX1_answer_114 (by decide) (fun c_114 => ?_) (fun c_114 => ?_)
                  · skip
                    refine pw_aload_n dX1_answer_122 rfl rfl ?_
                    refine pw_getR dX1_answer_123 fa_X1_22 rfl ?_
                    refine pw_iconst (v := (-1)) dX1_answer_126 rfl ?_
                    refine pw_iload dX1_answer_127 rfl ?_
                    refine pw_isub dX1_answer_129 ?_
                    refine pw_iald (j := (-1 - cst).toNatClampNeg) dX1_answer_130 rfl (nm_ix c_96 c_114).1 (nm_ix c_96 c_114).2 ?_
                    refine pw_iast (j := s.length) dX1_answer_131 rfl rfl hroom ?_
                    refine pw_mem si_sk ?_
                    refine pw_iinc (ls2 := [(6, _), (8, _), (0, _), (1, _), (2, _), (3, _), (4, _), (5, _), (7, _)]) (v := nI (s.length + 1)) dX1_answer_132 rfl (inc1 _) (by decide) rfl ?_
                    refine pw_goto (tgt := 235) dX1_answer_135 (by decide) ?_
                    skip
                    refine pw_iinc (ls2 := [(7, _), (6, _), (8, _), (0, _), (1, _), (2, _), (3, _), (4, _), (5, _)]) (v := nI ((160 * t + f + j) + 1)) dX1_answer_235 rfl (inc1 (160 * t + f + j)) (by decide) rfl ?_
                    refine pw_goto (tgt := 74) dX1_answer_238 (by decide) ?_
                    refine pw_sub [3, 4, 5, 6, 7, 8, 1, 0] rfl ?_
                    exact ih_74 (j + 1) (nm (-1 - cst).toNatClampNeg :: s) (upd sk s.length (nm (-1 - cst).toNatClampNeg)) (by simp only [List.length_cons]; omega) (stk_push hst) (by omega) (by rw [← hrun, show z - f - j = (z - f - (j + 1)) + 1 by omega]; show _ = runL _ _ (160 * t + f + j + 1) _ (stepL nm (μ.1 2 (160 * t + f + j)) _); rw [← hc, stepL_pushN c_96 c_114 hroom]; rfl) (by omega)
                  · skip
                    refine pw_iload dX1_answer_117 rfl ?_
                    refine pw_goto (tgt := 131) dX1_answer_119 (by decide) ?_
                    refine pw_iast (j := s.length) dX1_answer_131 rfl rfl hroom ?_
                    refine pw_mem si_sk ?_
                    refine pw_iinc (ls2 := [(6, _), (8, _), (0, _), (1, _), (2, _), (3, _), (4, _), (5, _), (7, _)]) (v := nI (s.length + 1)) dX1_answer_132 rfl (inc1 _) (by decide) rfl ?_
                    refine pw_goto (tgt := 235) dX1_answer_135 (by decide) ?_
                    skip
                    refine pw_iinc (ls2 := [(7, _), (6, _), (8, _), (0, _), (1, _), (2, _), (3, _), (4, _), (5, _)]) (v := nI ((160 * t + f + j) + 1)) dX1_answer_235 rfl (inc1 (160 * t + f + j)) (by decide) rfl ?_
                    refine pw_goto (tgt := 74) dX1_answer_238 (by decide) ?_
                    refine pw_sub [3, 4, 5, 6, 7, 8, 1, 0] rfl ?_
                    exact ih_74 (j + 1) (cst :: s) (upd sk s.length cst) (by simp only [List.length_cons]; omega) (stk_push hst) (by omega) (by rw [← hrun, show z - f - j = (z - f - (j + 1)) + 1 by omega]; show _ = runL _ _ (160 * t + f + j + 1) _ (stepL nm (μ.1 2 (160 * t + f + j)) _); rw [← hc, stepL_pushP c_96 c_114 hroom]; rfl) (by omega)
        refine pw_sub [4, 5, 6, 7, 3, 2, 1, 0] rfl ?_
        exact L_74 (z - f + 1) 0 [] sk0 (Nat.zero_le _) trivial (by omega) rfl (by omega)
      refine pw_iload_n dX1_answer_31 rfl rfl ?_
      refine pw_if_ne (tgt := 39) dX1_answer_32 (by decide) (fun c_32 => ?_) (fun c_32 => ?_)
      · skip
        refine pw_aload_n dX1_answer_39 rfl rfl ?_
        refine pw_getR dX1_answer_40 fa_X1_19 rfl ?_
        refine pw_iload_n dX1_answer_43 rfl rfl ?_
        refine pw_iconst (v := 3) dX1_answer_44 rfl ?_
        refine pw_imul dX1_answer_45 ?_
        refine pw_iload_n dX1_answer_46 rfl rfl ?_
        refine pw_iadd dX1_answer_47 ?_
        refine pw_iconst (v := 1) dX1_answer_48 rfl ?_
        refine pw_isub dX1_answer_49 ?_
        have hp0 : p ≠ 0 := fun h => c_32 (by rw [h]; rfl)
        refine pw_iald (j := 3 * t + (p - 1)) dX1_answer_50 rfl (by obtain ⟨p1, rfl⟩ : ∃ p1, p = p1 + 1 := ⟨p - 1, by omega⟩; show nI t * nI 3 + nI (p1 + 1) - 1 = _; rw [pk_mul, nI_add, show t * 3 + (p1 + 1) = (t * 3 + p1) + 1 by omega, nI_sub1]; congr 1; omega) (by omega) ?_
        refine pw_sub [1, 2, 3, 0] rfl ?_
        exact J_51 _ (by show μ.1 3 (3 * t + (p - 1)) = _; rw [(hb.2 t (p - 1) ht (by omega)).1, hf]; unfold lawB; rw [if_neg hp0])
      · skip
        refine pw_iconst (v := 0) dX1_answer_35 rfl ?_
        have hp0 : p = 0 := (nI_eq (by omega) (by decide)).mp c_32
        refine pw_top (y := nI f) (by rw [hf]; unfold lawB; rw [if_pos hp0]; rfl) ?_
        refine pw_goto (tgt := 51) dX1_answer_36 (by decide) ?_
        refine pw_sub [1, 2, 3, 0] rfl ?_
        exact J_51 _ rfl
    · skip
      exact absurd c_20 (by decide)

