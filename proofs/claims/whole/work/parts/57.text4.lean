abbrev TX : Type := Bool × Nat × Nat × List Int32 × List Nat
def exR (wd f : Nat → Int32) (n p : Nat) (w : List Int32) : Bool × List MT × List Int32 := eL (mtA wd f n p) true true [] 0 w
def exT (R : Bool × List MT × List Int32) : MT := R.2.1.headD (0, 0, 0, 0)
def txL (wd f : Nat → Int32) (n : Nat) : Nat → Nat → Nat → List Int32 → List Nat → TX
  | 0, _, p, w, ss => (true, p, 0, w, ss)
  | m + 1, k, p, w, ss => if nxT wd f n (nxQ f n p) = 3 ∧ nxV wd f n (nxQ f n p) = nI k then
      (if (exR wd f n (nxE f n (nxQ f n p)) w).1 = true then txL wd f n m (k + 1) (exT (exR wd f n (nxE f n (nxQ f n p)) w)).2.1 (exR wd f n (nxE f n (nxQ f n p)) w).2.2 (ss ++ [w.length])
        else (false, (exT (exR wd f n (nxE f n (nxQ f n p)) w)).2.1, (exT (exR wd f n (nxE f n (nxQ f n p)) w)).1, (exR wd f n (nxE f n (nxQ f n p)) w).2.2, ss ++ [w.length]))
      else (false, nxE f n (nxQ f n p), nxQ f n p, w, ss ++ [w.length])
def txA (wd f : Nat → Int32) (n : Nat) : TX := txL wd f n 3 0 0 [] []
def txG (wd f : Nat → Int32) (n : Nat) (X : TX) : Bool := X.1 && decide (nxT wd f n (nxQ f n X.2.1) = 0)
def txB (f : Nat → Int32) (n : Nat) (X : TX) : Nat := if X.1 = true then nxQ f n X.2.1 else X.2.2.1
def txX (wd f : Nat → Int32) (n t : Nat) (X : TX) : Int32 := if txG wd f n X = true then nI t else -100 - nI (txB f n X)
/-- the starts of the first t texts stand; those of the new one are these -/
def stR (S S0 : Nat → Int32) (t : Nat) (ss : List Nat) : Prop := (∀ i, i < 4 * t → S i = S0 i) ∧ ∀ j v, ss[j]? = some v → S (4 * t + j) = nI v
theorem stR_push {S S0 : Nat → Int32} {t v : Nat} {ss : List Nat} (h : stR S S0 t ss) : stR (upd S (4 * t + ss.length) (nI v)) S0 t (ss ++ [v]) := by
  refine ⟨fun i hi => ?_, fun j d hj => ?_⟩
  · rw [upd_o _ _ (by omega)]
    exact h.1 i hi
  · by_cases e : j < ss.length
    · rw [List.getElem?_append_left e] at hj
      rw [upd_o _ _ (by omega)]
      exact h.2 j d hj
    · have e2 : j = ss.length := by
        have := (List.getElem?_eq_some_iff.mp hj).1
        simp only [List.length_append, List.length_cons, List.length_nil] at this
        omega
      subst e2
      rw [List.getElem?_append_right (Nat.le_refl _), Nat.sub_self] at hj
      cases hj
      rw [upd_s]
theorem stR_last {S S0 : Nat → Int32} {t : Nat} {ss : List Nat} {v : Int32} (h : stR S S0 t ss) {j : Nat} : (∀ i, i < 4 * t → upd S (4 * t + j) v i = S0 i) := by
  intro i hi
  rw [upd_o _ _ (by omega)]
  exact h.1 i hi
theorem t_8 {μ : PM} {V : VW} {nm sk st S : Nat → Int32} {sn a b t v h o u x : Int32} {H C : Nat → Int32} {j : Nat} : si (mm (xM (sr μ 8 S) a b t v h o u H C) V nm sk st sn) 8 j x = mm (xM (sr μ 8 (upd S j x)) a b t v h o u H C) V nm sk st sn := by
  rw [m_8]
  congr 1
  refine PM_ext (fun c => ?_) rfl
  by_cases e : c = 8
  · subst e
    rw [si_same]
    rfl
  · rw [si_other _ _ _ _ e]
    show (if c = 0 then _ else if c = 7 then C else if c = 15 then H else (sr μ 8 S).1 c) = if c = 0 then _ else if c = 7 then C else if c = 15 then H else (sr μ 8 (upd S j x)).1 c
    rw [sr_other _ _ _ e, sr_other _ _ _ e]
    rfl
def txM (μ : PM) (good : Bool) (t : Nat) (S : Nat → Int32) (a b tk v h o u : Int32) (H C : Nat → Int32) : PM := if good = true then si (si (xM (sr μ 8 S) a b tk v h o u H C) 0 9 0) 0 12 (nI (t + 1)) else si (xM (sr μ 8 S) a b tk v h o u H C) 0 9 0
def txQ (μ : PM) (V : VW) (nm sk st : Nat → Int32) (sn : Int32) (t n : Nat) (X : TX) (m : PM) : Prop := ∃ S a b tk v h o u H C, m = mm (txM μ (txG (μ.1 14) (μ.1 6) n X) t S a b tk v h o u H C) V nm sk st sn ∧ cdR C (μ.1 7) t X.2.2.2.1 ∧ (∀ i, i < 4 * t → S i = μ.1 8 i) ∧ (txG (μ.1 14) (μ.1 6) n X = true → ∀ j v, (X.2.2.2.2 ++ [X.2.2.2.1.length])[j]? = some v → S (4 * t + j) = nI v) ∧ X.2.2.2.1.length ≤ 180
set_option maxHeartbeats 4000000 in
set_option maxRecDepth 100000 in
theorem T_X8_text {l : Launch} {μ : PM} {V : VW} {nm sk st : Nat → Int32} {sn : Int32} {t n : Nat} (ht : μ.1 0 12 = nI t) (ht6 : t ≤ 6) (hz : μ.1 0 9 = nI n) (hn : n ≤ 160) : CT l SM yX8_text cX8_text 3 (some .int) 5 [.ref 0] (mm μ V nm sk st sn) (QI fun x m => (t = 6 → x = -4 ∧ m = mm μ V nm sk st sn) ∧ (t < 6 → x = txX (μ.1 14) (μ.1 6) n t (txA (μ.1 14) (μ.1 6) n) ∧ txQ μ V nm sk st sn t n (txA (μ.1 14) (μ.1 6) n) m)) := by
  refine CT.of rfl (Nat.le_of_ble_eq_true rfl) ?_
  show PW l SM RX8 cX8_text 3 (some .int) 5 _ 0 [(0, .ref 0)] [] (mm μ V nm sk st sn)
  obtain ⟨X, hX⟩ : ∃ X, X = txA (μ.1 14) (μ.1 6) n := ⟨_, rfl⟩
  rw [← hX]
  refine pw_aload_n dX8_text_0 rfl rfl ?_
  refine pw_getI dX8_text_1 fa_X8_91 rfl ?_
  refine pw_top (y := nI t) ht ?_
  refine pw_bipush (v := 6) dX8_text_4 rfl ?_
  refine pw_icmp_ne (tgt := 12) dX8_text_6 (by decide) (fun c_6 => ?_) (fun c_6 => ?_)
  · skip
    have ht5 : t < 6 := by
      rcases Nat.lt_or_ge t 6 with g | g
      · exact g
      · exact absurd (show nI t = 6 by rw [show t = 6 by omega]; rfl) c_6
    refine pw_mem (show mm μ V nm sk st sn = mm (xM (sr μ 8 (μ.1 8)) (μ.1 0 24) (μ.1 0 25) (μ.1 0 26) (μ.1 0 27) (μ.1 0 30) (μ.1 0 31) (μ.1 0 32) (μ.1 15) (μ.1 7)) V nm sk st sn from by rw [sr_self, tM_self]) ?_
    refine pw_aload_n dX8_text_12 rfl rfl ?_
    refine pw_iconst (v := 0) dX8_text_13 rfl ?_
    refine pw_putI dX8_text_14 fa_X8_101 rfl ?_
    refine pw_mem t_24 ?_
    refine pw_aload_n dX8_text_17 rfl rfl ?_
    refine pw_iconst (v := 0) dX8_text_18 rfl ?_
    refine pw_putI dX8_text_19 fa_X8_117 rfl ?_
    refine pw_mem t_32 ?_
    refine pw_iconst (v := 1) dX8_text_22 rfl ?_
    refine pw_istore_n (ls2 := [(1, _), (0, _)]) dX8_text_23 rfl (by decide) rfl ?_
    refine pw_iconst (v := 0) dX8_text_24 rfl ?_
    refine pw_istore_n (ls2 := [(2, _), (1, _), (0, _)]) dX8_text_25 rfl (by decide) rfl ?_
    have L_26 : ∀ (fu_26 : Nat) (k : Nat) (g : Bool) (p bq : Nat) (w : List Int32) (ss : List Nat) (b tk v h o : Int32) (S H C : Nat → Int32), (k ≤ 3) → (p ≤ n) → ((g = true ∧ txL (μ.1 14) (μ.1 6) n (3 - k) k p w ss = X) ∨ (g = false ∧ (false, p, bq, w, ss) = X ∧ b = nI bq)) → (ss.length = k) → (stR S (μ.1 8) t ss) → (cdR C (μ.1 7) t w) → (w.length + (n - p) ≤ 160) → 3 - k < fu_26 → PW l SM RX8 cX8_text 3 (some .int) 5 (QI fun x m => (t = 6 → x = -4 ∧ m = mm μ V nm sk st sn) ∧ (t < 6 → x = txX (μ.1 14) (μ.1 6) n t X ∧ txQ μ V nm sk st sn t n X m)) 26 [(0, .ref 0), (1, .int (b2 g)), (2, .int (nI k))] [] (mm (xM (sr μ 8 S) (nI p) b tk v h o (nI w.length) H C) V nm sk st sn) := by
      intro fu_26
      induction fu_26 with
      | zero =>
        intro k g p bq w ss b tk v h o S H C hk hp hg hss hS hC hl hm_26
        exact absurd hm_26 (Nat.not_lt_zero _)
      | succ fu_26 ih_26 =>
        intro k g p bq w ss b tk v h o S H C hk hp hg hss hS hC hl hm_26
        refine pw_iload_n dX8_text_26 rfl rfl ?_
        refine pw_iconst (v := 3) dX8_text_27 rfl ?_
        refine pw_icmp_ge (tgt := 101) dX8_text_28 (by decide) (fun c_28 => ?_) (fun c_28 => ?_)
        · skip
          have hge := nI_geD (n := 3) (by decide) c_28
          have hk3 : k = 3 := by omega
          refine pw_iload_n dX8_text_101 rfl rfl ?_
          refine pw_if_eq (tgt := 122) dX8_text_102 (by decide) (fun c_102 => ?_) (fun c_102 => ?_)
          · skip
            have hg0 := b2_0 c_102
            subst hg0
            have hx := (hg.resolve_left (fun z => absurd z.1 (by decide))).2.1
            have hbq := (hg.resolve_left (fun z => absurd z.1 (by decide))).2.2
            have hG : txG (μ.1 14) (μ.1 6) n X = false := by unfold txG; rw [← hx]; rfl
            have hB : txB (μ.1 6) n X = bq := by unfold txB; rw [← hx]; rfl
            refine pw_aload_n dX8_text_122 rfl rfl ?_
            refine pw_getR dX8_text_123 fa_X8_31 rfl ?_
            refine pw_iconst (v := 4) dX8_text_126 rfl ?_
            refine pw_aload_n dX8_text_127 rfl rfl ?_
            refine pw_getI dX8_text_128 fa_X8_91 rfl ?_
            refine pw_top (y := nI t) ht ?_
            refine pw_imul dX8_text_131 ?_
            refine pw_iconst (v := 3) dX8_text_132 rfl ?_
            refine pw_iadd dX8_text_133 ?_
            refine pw_aload_n dX8_text_134 rfl rfl ?_
            refine pw_getI dX8_text_135 fa_X8_117 rfl ?_
            refine pw_top (y := nI w.length) rfl ?_
            refine pw_iast (j := 4 * t + 3) dX8_text_138 rfl (by show nI 4 * nI t + nI 3 = _; rw [pk_mul, nI_add]) (by omega) ?_
            refine pw_mem t_8 ?_
            refine pw_aload_n dX8_text_139 rfl rfl ?_
            refine pw_iconst (v := 0) dX8_text_140 rfl ?_
            refine pw_putI dX8_text_141 fa_X8_67 rfl ?_
            refine pw_mem (m_0 (by decide) (by decide) (by decide) (by decide) (by decide)) ?_
            refine pw_iload_n dX8_text_144 rfl rfl ?_
            refine pw_if_ne (tgt := 156) dX8_text_145 (by decide) (fun c_145 => ?_) (fun c_145 => ?_)
            · skip
              exact absurd rfl c_145
            · skip
              refine pw_bipush (v := (-100)) dX8_text_148 rfl ?_
              refine pw_aload_n dX8_text_150 rfl rfl ?_
              refine pw_getI dX8_text_151 fa_X8_104 rfl ?_
              refine pw_top (y := nI (txB (μ.1 6) n X)) (by rw [hB]; exact hbq) ?_
              refine pw_isub dX8_text_154 ?_
              refine pw_iret dX8_text_155 rfl ?_
              refine ⟨fun z => absurd z (by omega), fun _ => ⟨by unfold txX; rw [hG, if_neg Bool.false_ne_true], _, _, _, _, _, _, _, _, _, _, by rw [hG]; rfl, by rw [← hx]; exact hC, stR_last hS, fun z => absurd (hG.symm.trans z) (by decide), by rw [← hx]; show w.length ≤ 180; omega⟩⟩
          · skip
            have hg1 := b2_n c_102
            subst hg1
            have hx := (hg.resolve_right (fun z => absurd z.1 (by decide))).2
            rw [hk3] at hx
            change (true, p, 0, w, ss) = X at hx
            refine pw_aload_n dX8_text_105 rfl rfl ?_
            refine pw_cVv dX8_text_106 mv_X8_140 ckModel (T_X8_next (μ := sr μ 8 S) hz hn hp) rfl rfl (Nat.le_of_ble_eq_true rfl) (by decide) (fun m_106 h_106 => ?_)
            obtain rfl := h_106
            obtain ⟨q, hq⟩ : ∃ q, q = nxQ (μ.1 6) n p := ⟨_, rfl⟩
            have hqb := nxQ_b (f := μ.1 6) hp
            change PW l SM _ _ _ _ _ _ _ _ _ (mm (xM (sr μ 8 S) (nI (nxE (μ.1 6) n (nxQ (μ.1 6) n p))) (nI (nxQ (μ.1 6) n p)) (nxT (μ.1 14) (μ.1 6) n (nxQ (μ.1 6) n p)) (nxV (μ.1 14) (μ.1 6) n (nxQ (μ.1 6) n p)) h o (nI w.length) H C) V nm sk st sn)
            rw [← hq] at hqb ⊢
            obtain ⟨T, hT⟩ : ∃ T, T = nxT (μ.1 14) (μ.1 6) n q := ⟨_, rfl⟩
            obtain ⟨W, hW⟩ : ∃ W, W = nxV (μ.1 14) (μ.1 6) n q := ⟨_, rfl⟩
            obtain ⟨E, hE⟩ : ∃ E, E = nxE (μ.1 6) n q := ⟨_, rfl⟩
            rw [← hT, ← hW, ← hE]
            have hEn : E ≤ n ∧ n - E ≤ n - p := by
              rcases Nat.lt_or_ge q n with g | g
              · have g2 := nxE_b (f := μ.1 6) g
                rw [← hE] at g2
                exact ⟨g2.2, by omega⟩
              · have g2 : E = n := by rw [hE, show q = n by omega]; exact nxE_n
                omega
            refine pw_aload_n dX8_text_109 rfl rfl ?_
            refine pw_getI dX8_text_110 fa_X8_107 rfl ?_
            refine pw_top (y := T) rfl ?_
            refine pw_if_ne (tgt := 120) dX8_text_113 (by decide) (fun c_113 => ?_) (fun c_113 => ?_)
            · skip
              have hTx : ¬ nxT (μ.1 14) (μ.1 6) n (nxQ (μ.1 6) n p) = 0 := by rw [← hq, ← hT]; exact c_113
              have hG : txG (μ.1 14) (μ.1 6) n X = false := by unfold txG; rw [← hx]; show (true && decide _) = false; rw [decide_eq_false hTx]; rfl
              have hB : txB (μ.1 6) n X = q := by unfold txB; rw [← hx, if_pos rfl, hq]
              refine pw_iconst (v := 0) dX8_text_120 rfl ?_
              refine pw_istore_n (ls2 := [(1, _), (0, _), (2, _)]) dX8_text_121 rfl (by decide) rfl ?_
              skip
              refine pw_aload_n dX8_text_122 rfl rfl ?_
              refine pw_getR dX8_text_123 fa_X8_31 rfl ?_
              refine pw_iconst (v := 4) dX8_text_126 rfl ?_
              refine pw_aload_n dX8_text_127 rfl rfl ?_
              refine pw_getI dX8_text_128 fa_X8_91 rfl ?_
              refine pw_top (y := nI t) ht ?_
              refine pw_imul dX8_text_131 ?_
              refine pw_iconst (v := 3) dX8_text_132 rfl ?_
              refine pw_iadd dX8_text_133 ?_
              refine pw_aload_n dX8_text_134 rfl rfl ?_
              refine pw_getI dX8_text_135 fa_X8_117 rfl ?_
              refine pw_top (y := nI w.length) rfl ?_
              refine pw_iast (j := 4 * t + 3) dX8_text_138 rfl (by show nI 4 * nI t + nI 3 = _; rw [pk_mul, nI_add]) (by omega) ?_
              refine pw_mem t_8 ?_
              refine pw_aload_n dX8_text_139 rfl rfl ?_
              refine pw_iconst (v := 0) dX8_text_140 rfl ?_
              refine pw_putI dX8_text_141 fa_X8_67 rfl ?_
              refine pw_mem (m_0 (by decide) (by decide) (by decide) (by decide) (by decide)) ?_
              refine pw_iload_n dX8_text_144 rfl rfl ?_
              refine pw_if_ne (tgt := 156) dX8_text_145 (by decide) (fun c_145 => ?_) (fun c_145 => ?_)
              · skip
                exact absurd rfl c_145
              · skip
                refine pw_bipush (v := (-100)) dX8_text_148 rfl ?_
                refine pw_aload_n dX8_text_150 rfl rfl ?_
                refine pw_getI dX8_text_151 fa_X8_104 rfl ?_
                refine pw_top (y := nI (txB (μ.1 6) n X)) (by rw [hB]; rfl) ?_
                refine pw_isub dX8_text_154 ?_
                refine pw_iret dX8_text_155 rfl ?_
                refine ⟨fun z => absurd z (by omega), fun _ => ⟨by unfold txX; rw [hG, if_neg Bool.false_ne_true], _, _, _, _, _, _, _, _, _, _, by rw [hG]; rfl, by rw [← hx]; exact hC, stR_last hS, fun z => absurd (hG.symm.trans z) (by decide), by rw [← hx]; show w.length ≤ 180; omega⟩⟩
            · skip
              have hTx : nxT (μ.1 14) (μ.1 6) n (nxQ (μ.1 6) n p) = 0 := by rw [← hq, ← hT]; exact c_113
              have hG : txG (μ.1 14) (μ.1 6) n X = true := by unfold txG; rw [← hx]; show (true && decide _) = true; rw [decide_eq_true hTx]; rfl
              refine pw_iconst (v := 1) dX8_text_116 rfl ?_
              refine pw_goto (tgt := 121) dX8_text_117 (by decide) ?_
              refine pw_istore_n (ls2 := [(1, _), (0, _), (2, _)]) dX8_text_121 rfl (by decide) rfl ?_
              skip
              refine pw_aload_n dX8_text_122 rfl rfl ?_
              refine pw_getR dX8_text_123 fa_X8_31 rfl ?_
              refine pw_iconst (v := 4) dX8_text_126 rfl ?_
              refine pw_aload_n dX8_text_127 rfl rfl ?_
              refine pw_getI dX8_text_128 fa_X8_91 rfl ?_
              refine pw_top (y := nI t) ht ?_
              refine pw_imul dX8_text_131 ?_
              refine pw_iconst (v := 3) dX8_text_132 rfl ?_
              refine pw_iadd dX8_text_133 ?_
              refine pw_aload_n dX8_text_134 rfl rfl ?_
              refine pw_getI dX8_text_135 fa_X8_117 rfl ?_
              refine pw_top (y := nI w.length) rfl ?_
              refine pw_iast (j := 4 * t + 3) dX8_text_138 rfl (by show nI 4 * nI t + nI 3 = _; rw [pk_mul, nI_add]) (by omega) ?_
              refine pw_mem t_8 ?_
              refine pw_aload_n dX8_text_139 rfl rfl ?_
              refine pw_iconst (v := 0) dX8_text_140 rfl ?_
              refine pw_putI dX8_text_141 fa_X8_67 rfl ?_
              refine pw_mem (m_0 (by decide) (by decide) (by decide) (by decide) (by decide)) ?_
              refine pw_iload_n dX8_text_144 rfl rfl ?_
              refine pw_if_ne (tgt := 156) dX8_text_145 (by decide) (fun c_145 => ?_) (fun c_145 => ?_)
              · skip
                refine pw_aload_n dX8_text_156 rfl rfl ?_
                refine pw_dup dX8_text_157 rfl ?_
                refine pw_getI dX8_text_158 fa_X8_91 rfl ?_
                refine pw_top (y := nI t) ht ?_
                refine pw_iconst (v := 1) dX8_text_161 rfl ?_
                refine pw_iadd dX8_text_162 ?_
                refine pw_top (y := nI (t + 1)) (nI_1 t) ?_
                refine pw_putI dX8_text_163 fa_X8_91 rfl ?_
                refine pw_mem (m_0 (by decide) (by decide) (by decide) (by decide) (by decide)) ?_
                refine pw_aload_n dX8_text_166 rfl rfl ?_
                refine pw_getI dX8_text_167 fa_X8_91 rfl ?_
                refine pw_top (y := nI (t + 1)) rfl ?_
                refine pw_iconst (v := 1) dX8_text_170 rfl ?_
                refine pw_isub dX8_text_171 ?_
                refine pw_top (y := nI t) (nI_pred t) ?_
                refine pw_iret dX8_text_172 rfl ?_
                refine ⟨fun z => absurd z (by omega), fun _ => ⟨by unfold txX; rw [hG, if_pos rfl], _, _, _, _, _, _, _, _, _, _, by rw [hG]; rfl, by rw [← hx]; exact hC, stR_last hS, fun _ => by rw [← hx, ← hk3, ← hss]; exact (stR_push hS).2, by rw [← hx]; show w.length ≤ 180; omega⟩⟩
              · skip
                exact absurd c_145 (by decide)
        · skip
          have hlt := nI_ltD (n := 3) (by omega) c_28
          refine pw_iload_n dX8_text_31 rfl rfl ?_
          refine pw_if_eq (tgt := 101) dX8_text_32 (by decide) (fun c_32 => ?_) (fun c_32 => ?_)
          · skip
            have hg0 := b2_0 c_32
            subst hg0
            refine pw_iload_n dX8_text_101 rfl rfl ?_
            refine pw_if_eq (tgt := 122) dX8_text_102 (by decide) (fun c_102 => ?_) (fun c_102 => ?_)
            · skip
              skip
              have hx := (hg.resolve_left (fun z => absurd z.1 (by decide))).2.1
              have hbq := (hg.resolve_left (fun z => absurd z.1 (by decide))).2.2
              have hG : txG (μ.1 14) (μ.1 6) n X = false := by unfold txG; rw [← hx]; rfl
              have hB : txB (μ.1 6) n X = bq := by unfold txB; rw [← hx]; rfl
              refine pw_aload_n dX8_text_122 rfl rfl ?_
              refine pw_getR dX8_text_123 fa_X8_31 rfl ?_
              refine pw_iconst (v := 4) dX8_text_126 rfl ?_
              refine pw_aload_n dX8_text_127 rfl rfl ?_
              refine pw_getI dX8_text_128 fa_X8_91 rfl ?_
              refine pw_top (y := nI t) ht ?_
              refine pw_imul dX8_text_131 ?_
              refine pw_iconst (v := 3) dX8_text_132 rfl ?_
              refine pw_iadd dX8_text_133 ?_
              refine pw_aload_n dX8_text_134 rfl rfl ?_
              refine pw_getI dX8_text_135 fa_X8_117 rfl ?_
              refine pw_top (y := nI w.length) rfl ?_
              refine pw_iast (j := 4 * t + 3) dX8_text_138 rfl (by show nI 4 * nI t + nI 3 = _; rw [pk_mul, nI_add]) (by omega) ?_
              refine pw_mem t_8 ?_
              refine pw_aload_n dX8_text_139 rfl rfl ?_
              refine pw_iconst (v := 0) dX8_text_140 rfl ?_
              refine pw_putI dX8_text_141 fa_X8_67 rfl ?_
              refine pw_mem (m_0 (by decide) (by decide) (by decide) (by decide) (by decide)) ?_
              refine pw_iload_n dX8_text_144 rfl rfl ?_
              refine pw_if_ne (tgt := 156) dX8_text_145 (by decide) (fun c_145 => ?_) (fun c_145 => ?_)
              · skip
                exact absurd rfl c_145
              · skip
                refine pw_bipush (v := (-100)) dX8_text_148 rfl ?_
                refine pw_aload_n dX8_text_150 rfl rfl ?_
                refine pw_getI dX8_text_151 fa_X8_104 rfl ?_
                refine pw_top (y := nI (txB (μ.1 6) n X)) (by rw [hB]; exact hbq) ?_
                refine pw_isub dX8_text_154 ?_
                refine pw_iret dX8_text_155 rfl ?_
                refine ⟨fun z => absurd z (by omega), fun _ => ⟨by unfold txX; rw [hG, if_neg Bool.false_ne_true], _, _, _, _, _, _, _, _, _, _, by rw [hG]; rfl, by rw [← hx]; exact hC, stR_last hS, fun z => absurd (hG.symm.trans z) (by decide), by rw [← hx]; show w.length ≤ 180; omega⟩⟩
            · skip
              skip
              exact absurd rfl c_102
          · skip
            have hg1 := b2_n c_32
            subst hg1
            have hx := (hg.resolve_right (fun z => absurd z.1 (by decide))).2
            rw [show 3 - k = (3 - (k + 1)) + 1 by omega] at hx
            change (if _ ∧ _ then _ else _) = X at hx
            refine pw_aload_n dX8_text_35 rfl rfl ?_
            refine pw_cVv dX8_text_36 mv_X8_140 ckModel (T_X8_next (μ := sr μ 8 S) hz hn hp) rfl rfl (Nat.le_of_ble_eq_true rfl) (by decide) (fun m_36 h_36 => ?_)
            obtain rfl := h_36
            obtain ⟨q, hq⟩ : ∃ q, q = nxQ (μ.1 6) n p := ⟨_, rfl⟩
            have hqb := nxQ_b (f := μ.1 6) hp
            change PW l SM _ _ _ _ _ _ _ _ _ (mm (xM (sr μ 8 S) (nI (nxE (μ.1 6) n (nxQ (μ.1 6) n p))) (nI (nxQ (μ.1 6) n p)) (nxT (μ.1 14) (μ.1 6) n (nxQ (μ.1 6) n p)) (nxV (μ.1 14) (μ.1 6) n (nxQ (μ.1 6) n p)) h o (nI w.length) H C) V nm sk st sn)
            rw [← hq] at hqb ⊢
            obtain ⟨T, hT⟩ : ∃ T, T = nxT (μ.1 14) (μ.1 6) n q := ⟨_, rfl⟩
            obtain ⟨W, hW⟩ : ∃ W, W = nxV (μ.1 14) (μ.1 6) n q := ⟨_, rfl⟩
            obtain ⟨E, hE⟩ : ∃ E, E = nxE (μ.1 6) n q := ⟨_, rfl⟩
            rw [← hT, ← hW, ← hE]
            have hEn : E ≤ n ∧ n - E ≤ n - p := by
              rcases Nat.lt_or_ge q n with g | g
              · have g2 := nxE_b (f := μ.1 6) g
                rw [← hE] at g2
                exact ⟨g2.2, by omega⟩
              · have g2 : E = n := by rw [hE, show q = n by omega]; exact nxE_n
                omega
            rw [← hq, ← hE, ← hT, ← hW] at hx
            refine pw_aload_n dX8_text_39 rfl rfl ?_
            refine pw_getI dX8_text_40 fa_X8_107 rfl ?_
            refine pw_top (y := T) rfl ?_
            refine pw_iconst (v := 3) dX8_text_43 rfl ?_
            refine pw_icmp_ne (tgt := 59) dX8_text_44 (by decide) (fun c_44 => ?_) (fun c_44 => ?_)
            · skip
              have hky : ¬ (T = 3 ∧ W = nI k) := fun z => c_44 z.1
              rw [if_neg hky] at hx
              refine pw_iconst (v := 0) dX8_text_59 rfl ?_
              refine pw_istore_n (ls2 := [(1, _), (0, _), (2, _)]) dX8_text_60 rfl (by decide) rfl ?_
              refine pw_aload_n dX8_text_61 rfl rfl ?_
              refine pw_getR dX8_text_62 fa_X8_31 rfl ?_
              refine pw_iconst (v := 4) dX8_text_65 rfl ?_
              refine pw_aload_n dX8_text_66 rfl rfl ?_
              refine pw_getI dX8_text_67 fa_X8_91 rfl ?_
              refine pw_top (y := nI t) ht ?_
              refine pw_imul dX8_text_70 ?_
              refine pw_iload_n dX8_text_71 rfl rfl ?_
              refine pw_iadd dX8_text_72 ?_
              refine pw_aload_n dX8_text_73 rfl rfl ?_
              refine pw_getI dX8_text_74 fa_X8_117 rfl ?_
              refine pw_top (y := nI w.length) rfl ?_
              refine pw_iast (j := 4 * t + k) dX8_text_77 rfl (by show nI 4 * nI t + nI k = _; rw [pk_mul, nI_add]) (by omega) ?_
              refine pw_mem t_8 ?_
              refine pw_iload_n dX8_text_78 rfl rfl ?_
              refine pw_if_eq (tgt := 93) dX8_text_79 (by decide) (fun c_79 => ?_) (fun c_79 => ?_)
              · skip
                refine pw_iconst (v := 0) dX8_text_93 rfl ?_
                refine pw_istore_n (ls2 := [(1, _), (0, _), (2, _)]) dX8_text_94 rfl (by decide) rfl ?_
                refine pw_iinc (ls2 := [(2, _), (1, _), (0, _)]) (v := nI (k + 1)) dX8_text_95 rfl (inc1 k) (by decide) rfl ?_
                refine pw_goto (tgt := 26) dX8_text_98 (by decide) ?_
                refine pw_sub [2, 1, 0] rfl ?_
                exact ih_26 (k + 1) false E q w (ss ++ [w.length]) _ _ _ _ _ _ _ _ hlt hEn.1 (Or.inr ⟨rfl, hx, rfl⟩) (by rw [List.length_append, hss]; rfl) (by rw [← hss]; exact stR_push hS) hC (by omega) (by omega)
              · skip
                exact absurd rfl c_79
            · skip
              skip
              refine pw_aload_n dX8_text_47 rfl rfl ?_
              refine pw_getI dX8_text_48 fa_X8_110 rfl ?_
              refine pw_top (y := W) rfl ?_
              refine pw_iload_n dX8_text_51 rfl rfl ?_
              refine pw_icmp_ne (tgt := 59) dX8_text_52 (by decide) (fun c_52 => ?_) (fun c_52 => ?_)
              · skip
                have hky : ¬ (T = 3 ∧ W = nI k) := fun z => c_52 z.2
                rw [if_neg hky] at hx
                refine pw_iconst (v := 0) dX8_text_59 rfl ?_
                refine pw_istore_n (ls2 := [(1, _), (0, _), (2, _)]) dX8_text_60 rfl (by decide) rfl ?_
                refine pw_aload_n dX8_text_61 rfl rfl ?_
                refine pw_getR dX8_text_62 fa_X8_31 rfl ?_
                refine pw_iconst (v := 4) dX8_text_65 rfl ?_
                refine pw_aload_n dX8_text_66 rfl rfl ?_
                refine pw_getI dX8_text_67 fa_X8_91 rfl ?_
                refine pw_top (y := nI t) ht ?_
                refine pw_imul dX8_text_70 ?_
                refine pw_iload_n dX8_text_71 rfl rfl ?_
                refine pw_iadd dX8_text_72 ?_
                refine pw_aload_n dX8_text_73 rfl rfl ?_
                refine pw_getI dX8_text_74 fa_X8_117 rfl ?_
                refine pw_top (y := nI w.length) rfl ?_
                refine pw_iast (j := 4 * t + k) dX8_text_77 rfl (by show nI 4 * nI t + nI k = _; rw [pk_mul, nI_add]) (by omega) ?_
                refine pw_mem t_8 ?_
                refine pw_iload_n dX8_text_78 rfl rfl ?_
                refine pw_if_eq (tgt := 93) dX8_text_79 (by decide) (fun c_79 => ?_) (fun c_79 => ?_)
                · skip
                  refine pw_iconst (v := 0) dX8_text_93 rfl ?_
                  refine pw_istore_n (ls2 := [(1, _), (0, _), (2, _)]) dX8_text_94 rfl (by decide) rfl ?_
                  refine pw_iinc (ls2 := [(2, _), (1, _), (0, _)]) (v := nI (k + 1)) dX8_text_95 rfl (inc1 k) (by decide) rfl ?_
                  refine pw_goto (tgt := 26) dX8_text_98 (by decide) ?_
                  refine pw_sub [2, 1, 0] rfl ?_
                  exact ih_26 (k + 1) false E q w (ss ++ [w.length]) _ _ _ _ _ _ _ _ hlt hEn.1 (Or.inr ⟨rfl, hx, rfl⟩) (by rw [List.length_append, hss]; rfl) (by rw [← hss]; exact stR_push hS) hC (by omega) (by omega)
                · skip
                  exact absurd rfl c_79
              · skip
                have hky : T = 3 ∧ W = nI k := ⟨c_44, c_52⟩
                rw [if_pos hky] at hx
                refine pw_iconst (v := 1) dX8_text_55 rfl ?_
                refine pw_goto (tgt := 60) dX8_text_56 (by decide) ?_
                refine pw_istore_n (ls2 := [(1, _), (0, _), (2, _)]) dX8_text_60 rfl (by decide) rfl ?_
                refine pw_aload_n dX8_text_61 rfl rfl ?_
                refine pw_getR dX8_text_62 fa_X8_31 rfl ?_
                refine pw_iconst (v := 4) dX8_text_65 rfl ?_
                refine pw_aload_n dX8_text_66 rfl rfl ?_
                refine pw_getI dX8_text_67 fa_X8_91 rfl ?_
                refine pw_top (y := nI t) ht ?_
                refine pw_imul dX8_text_70 ?_
                refine pw_iload_n dX8_text_71 rfl rfl ?_
                refine pw_iadd dX8_text_72 ?_
                refine pw_aload_n dX8_text_73 rfl rfl ?_
                refine pw_getI dX8_text_74 fa_X8_117 rfl ?_
                refine pw_top (y := nI w.length) rfl ?_
                refine pw_iast (j := 4 * t + k) dX8_text_77 rfl (by show nI 4 * nI t + nI k = _; rw [pk_mul, nI_add]) (by omega) ?_
                refine pw_mem t_8 ?_
                refine pw_iload_n dX8_text_78 rfl rfl ?_
                refine pw_if_eq (tgt := 93) dX8_text_79 (by decide) (fun c_79 => ?_) (fun c_79 => ?_)
                · skip
                  exact absurd c_79 (by decide)
                · skip
                  refine pw_aload_n dX8_text_82 rfl rfl ?_
                  refine pw_cVi dX8_text_83 mv_X8_153 ckModel (T_X8_eRead (μ := sr μ 8 (upd S (4 * t + k) (nI w.length))) (C0 := μ.1 7) (t := t) hz hn hEn.1 ht ht5 hC (by omega)) rfl rfl (Nat.le_of_ble_eq_true rfl) (by decide) (fun x_83 m_83 h_83 => ?_)
                  obtain ⟨rfl, T1, ts1, h1, o1, H1, C1, hR1, rfl, hC1, hb1, hb2⟩ := h_83
                  change exR (μ.1 14) (μ.1 6) n E w |>.2.1 = T1 :: ts1 at hR1
                  change cdR C1 (μ.1 7) t (exR (μ.1 14) (μ.1 6) n E w).2.2 at hC1
                  change (exR (μ.1 14) (μ.1 6) n E w).2.2.length + (n - T1.2.1) ≤ _ at hb2
                  have hT1 : exT (exR (μ.1 14) (μ.1 6) n E w) = T1 := by unfold exT; rw [hR1]; rfl
                  rw [hT1] at hx
                  change PW l SM _ _ _ _ _ _ _ _ (.int (b2 (exR (μ.1 14) (μ.1 6) n E w).1) :: _) (mm (xM _ (nI T1.2.1) (nI T1.1) T1.2.2.1 T1.2.2.2 h1 o1 (nI (exR (μ.1 14) (μ.1 6) n E w).2.2.length) H1 C1) V nm sk st sn)
                  refine pw_if_eq (tgt := 93) dX8_text_86 (by decide) (fun c_86 => ?_) (fun c_86 => ?_)
                  · skip
                    have hb_86 := b2_0 c_86
                    have hrr := b2_0 c_86
                    rw [hrr, if_neg Bool.false_ne_true] at hx
                    refine pw_iconst (v := 0) dX8_text_93 rfl ?_
                    refine pw_istore_n (ls2 := [(1, _), (0, _), (2, _)]) dX8_text_94 rfl (by decide) rfl ?_
                    refine pw_iinc (ls2 := [(2, _), (1, _), (0, _)]) (v := nI (k + 1)) dX8_text_95 rfl (inc1 k) (by decide) rfl ?_
                    refine pw_goto (tgt := 26) dX8_text_98 (by decide) ?_
                    refine pw_sub [2, 1, 0] rfl ?_
                    exact ih_26 (k + 1) false T1.2.1 T1.1 _ (ss ++ [w.length]) _ _ _ _ _ _ _ _ hlt hb1 (Or.inr ⟨rfl, hx, rfl⟩) (by rw [List.length_append, hss]; rfl) (by rw [← hss]; exact stR_push hS) hC1 (by omega) (by omega)
                  · skip
                    have hb_86 := b2_n c_86
                    have hrr := b2_n c_86
                    rw [if_pos hrr] at hx
                    refine pw_iconst (v := 1) dX8_text_89 rfl ?_
                    refine pw_goto (tgt := 94) dX8_text_90 (by decide) ?_
                    refine pw_istore_n (ls2 := [(1, _), (0, _), (2, _)]) dX8_text_94 rfl (by decide) rfl ?_
                    refine pw_iinc (ls2 := [(2, _), (1, _), (0, _)]) (v := nI (k + 1)) dX8_text_95 rfl (inc1 k) (by decide) rfl ?_
                    refine pw_goto (tgt := 26) dX8_text_98 (by decide) ?_
                    refine pw_sub [2, 1, 0] rfl ?_
                    exact ih_26 (k + 1) true T1.2.1 0 _ (ss ++ [w.length]) _ _ _ _ _ _ _ _ hlt hb1 (Or.inl ⟨rfl, hx⟩) (by rw [List.length_append, hss]; rfl) (by rw [← hss]; exact stR_push hS) hC1 (by omega) (by omega)
    refine pw_sub [2, 1, 0] rfl ?_
    exact L_26 4 0 true 0 0 [] [] (μ.1 0 25) (μ.1 0 26) (μ.1 0 27) (μ.1 0 30) (μ.1 0 31) (μ.1 8) (μ.1 15) (μ.1 7) (Nat.zero_le _) (Nat.zero_le _) (Or.inl ⟨rfl, hX.symm⟩) rfl ⟨fun _ _ => rfl, fun j v hj => by simp at hj⟩ ⟨fun k v hk => by simp at hk, fun _ _ => rfl⟩ (by show 0 + (n - 0) ≤ 160; omega) (by omega)
  · skip
    have ht5 : t = 6 := (nI_eq (b := 6) (by omega) (by decide)).mp c_6
    refine pw_bipush (v := (-4)) dX8_text_9 rfl ?_
    refine pw_iret dX8_text_11 rfl ?_
    exact ⟨fun _ => ⟨rfl, rfl⟩, fun z => absurd z (by omega)⟩

