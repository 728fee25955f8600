theorem six {c : Int32} (a : -6 ≤ c) (b : c < 0) : c = -1 ∨ c = -2 ∨ c = -3 ∨ c = -4 ∨ c = -5 ∨ c = -6 := by
  have h1 : (-6 : Int) ≤ c.toInt := Int32.le_iff_toInt_le.mp a
  have h2 : c.toInt < (0 : Int) := Int32.lt_iff_toInt_lt.mp b
  have h3 : c.toInt = -1 ∨ c.toInt = -2 ∨ c.toInt = -3 ∨ c.toInt = -4 ∨ c.toInt = -5 ∨ c.toInt = -6 := by omega
  rcases h3 with q | q | q | q | q | q
  · exact Or.inl (Int32.toInt_inj.mp q)
  · exact Or.inr (Or.inl (Int32.toInt_inj.mp q))
  · exact Or.inr (Or.inr (Or.inl (Int32.toInt_inj.mp q)))
  · exact Or.inr (Or.inr (Or.inr (Or.inl (Int32.toInt_inj.mp q))))
  · exact Or.inr (Or.inr (Or.inr (Or.inr (Or.inl (Int32.toInt_inj.mp q)))))
  · exact Or.inr (Or.inr (Or.inr (Or.inr (Or.inr (Int32.toInt_inj.mp q)))))
def lenC (B : BK) (t p : Nat) : Nat := lawE B.2 t p - lawB B.2 t p
def relC (μ : PM) (B : BK) (t p : Nat) : Prop := ∃ off, μ.1 8 (4 * t + p) = nI off ∧ μ.1 8 (4 * t + p + 1) = nI (off + lenC B t p) ∧ off + lenC B t p ≤ 200 ∧ (∀ i, i < lenC B t p → encF (B.1 (160 * t + lawB B.2 t p + i)) (μ.1 7 (200 * t + (off + i)))) ∧ depF B.1 (160 * t + lawB B.2 t p) (lenC B t p) 0
def okL (μ : PM) (B : BK) (V : VW) : Prop := ∃ t, t < 6 ∧ V 0 13 = nI t ∧ ∀ p, p < 3 → relC μ B t p
theorem enc_num {c k : Int32} (h : encF c k) (h1 : (100000 : Int32) ≤ k) : 0 ≤ c ∧ k - 100000 = c := by
  rcases h with ⟨a, b, e⟩ | ⟨a, b, e⟩ | ⟨a, b⟩ | ⟨a, b⟩ | ⟨a, b⟩ | ⟨a, b⟩ | ⟨a, b⟩ | ⟨a, b⟩ | ⟨a, b⟩ | ⟨a, b⟩ | ⟨a, b⟩
  · refine ⟨a, ?_⟩
    rw [e, Int32.add_sub_cancel]
  · exfalso
    have h2 : c = -1 ∨ c = -2 ∨ c = -3 ∨ c = -4 ∨ c = -5 ∨ c = -6 := six a b
    rcases h2 with q | q | q | q | q | q <;> (rw [e, q] at h1; exact absurd h1 (by decide))
  all_goals (rw [b] at h1; exact absurd h1 (by decide))
theorem enc_nam {c k : Int32} (h : encF c k) (h1 : ¬ (100000 : Int32) ≤ k) (h2 : ¬ (11 : Int32) ≤ k) : -6 ≤ c ∧ ¬ 0 ≤ c ∧ ∃ z, z < 6 ∧ k = nI z ∧ (-1 - c).toNatClampNeg = z := by
  rcases h with ⟨a, b, e⟩ | ⟨a, b, e⟩ | ⟨a, b⟩ | ⟨a, b⟩ | ⟨a, b⟩ | ⟨a, b⟩ | ⟨a, b⟩ | ⟨a, b⟩ | ⟨a, b⟩ | ⟨a, b⟩ | ⟨a, b⟩
  · exfalso
    obtain ⟨z, hz, rfl⟩ := nI_of (Int32.not_lt.mpr a)
    have hz2 : z ≤ 9999 := (nI_leI (b := 9999) hz (by decide)).mp b
    rw [e] at h1
    exact h1 (by show nI 100000 ≤ nI z + nI 100000; rw [nI_add]; exact nI_le (by omega) (by omega))
  · refine ⟨a, Int32.not_le.mpr b, ?_⟩
    have h3 : c = -1 ∨ c = -2 ∨ c = -3 ∨ c = -4 ∨ c = -5 ∨ c = -6 := six a b
    rcases h3 with q | q | q | q | q | q
    · exact ⟨0, by decide, by rw [e, q]; rfl, by rw [q]; rfl⟩
    · exact ⟨1, by decide, by rw [e, q]; rfl, by rw [q]; rfl⟩
    · exact ⟨2, by decide, by rw [e, q]; rfl, by rw [q]; rfl⟩
    · exact ⟨3, by decide, by rw [e, q]; rfl, by rw [q]; rfl⟩
    · exact ⟨4, by decide, by rw [e, q]; rfl, by rw [q]; rfl⟩
    · exact ⟨5, by decide, by rw [e, q]; rfl, by rw [q]; rfl⟩
  all_goals (rw [b] at h2; exact absurd (by decide) h2)
theorem enc_op {c k : Int32} (h : encF c k) (h1 : ¬ (100000 : Int32) ≤ k) (h2 : (11 : Int32) ≤ k) : (c = -10 ∧ k = 13) ∨ (c = -11 ∧ k = 19) ∨ (¬ k = 13 ∧ ¬ k = 19 ∧ ¬ -6 ≤ c ∧ ¬ -11 ≤ c ∧ (k = 11 ∨ k = 12 ∨ k = 14 ∨ k = 15 ∨ k = 16 ∨ k = 17 ∨ k = 18) ∧ ∀ a b, joinF c a b = twoF k a b) := by
  rcases h with ⟨a, b, e⟩ | ⟨a, b, e⟩ | q | q | ⟨rfl, rfl⟩ | ⟨rfl, rfl⟩ | ⟨rfl, rfl⟩ | ⟨rfl, rfl⟩ | ⟨rfl, rfl⟩ | ⟨rfl, rfl⟩ | ⟨rfl, rfl⟩
  · exfalso
    obtain ⟨z, hz, rfl⟩ := nI_of (Int32.not_lt.mpr a)
    have hz2 : z ≤ 9999 := (nI_leI (b := 9999) hz (by decide)).mp b
    rw [e] at h1
    exact h1 (by show nI 100000 ≤ nI z + nI 100000; rw [nI_add]; exact nI_le (by omega) (by omega))
  · exfalso
    have h3 : c = -1 ∨ c = -2 ∨ c = -3 ∨ c = -4 ∨ c = -5 ∨ c = -6 := six a b
    rcases h3 with q | q | q | q | q | q <;> (rw [e, q] at h2; exact absurd h2 (by decide))
  · exact Or.inl q
  · exact Or.inr (Or.inl q)
  · refine Or.inr (Or.inr ⟨by decide, by decide, by decide, by decide, by decide, fun a b => ?_⟩)
    show (if a ≠ 0 ∨ b ≠ 0 then (1 : Int32) else 0) = if a = 0 then (if b = 0 then 0 else 1) else 1
    by_cases ha : a = 0 <;> by_cases hb : b = 0 <;> simp [ha, hb]
  · refine Or.inr (Or.inr ⟨by decide, by decide, by decide, by decide, by decide, fun a b => ?_⟩)
    show (if a ≠ 0 ∧ b ≠ 0 then (1 : Int32) else 0) = if a = 0 then 0 else if b = 0 then 0 else 1
    by_cases ha : a = 0 <;> by_cases hb : b = 0 <;> simp [ha, hb]
  all_goals exact Or.inr (Or.inr ⟨by decide, by decide, by decide, by decide, by decide, fun a b => rfl⟩)
theorem bit_t {x : Int32} {i : Nat} (h : ((x >>> (nI i &&& 31)) &&& 1) = 1) : bitF x i = true := decide_eq_true h
theorem bit_f {x : Int32} {i : Nat} (h : ¬ ((x >>> (nI i &&& 31)) &&& 1) = 1) : bitF x i = false := decide_eq_false h
set_option maxHeartbeats 4000000 in
set_option maxRecDepth 100000 in
theorem T_X8_says {l : Launch} {μ : PM} {B : BK} {V : VW} {nm sk st : Nat → Int32} {sn : Int32} {t p : Nat} (ht : t < 6) (hp3 : p < 3) (hv : V 0 13 = nI t) (hr : relC μ B t p) : CT l SM yX8_says cX8_says 5 (some .int) 2 [.ref 0, .int (nI p)] (mm μ V nm sk st sn) (QI fun x m => x = lawF B.1 B.2 nm t p ∧ ∃ sk2, m = mm μ V nm sk2 st sn) := by
  refine CT.of rfl (Nat.le_of_ble_eq_true rfl) ?_
  show PW l SM RX8 cX8_says 5 (some .int) 2 _ 0 [(0, .ref 0), (1, .int (nI p))] [] (mm μ V nm sk st sn)
  obtain ⟨off, ho1, ho2, hol, hen, hdp⟩ := hr
  obtain ⟨len, hlen0⟩ : ∃ len, len = lenC B t p := ⟨_, rfl⟩
  rw [← hlen0] at ho2 hol hen hdp
  refine pw_iconst (v := 0) dX8_says_0 rfl ?_
  refine pw_istore_n (ls2 := [(2, _), (0, _), (1, _)]) dX8_says_1 rfl (by decide) rfl ?_
  refine pw_aload_n dX8_says_2 rfl rfl ?_
  refine pw_getR dX8_says_3 fa_X8_31 rfl ?_
  refine pw_iconst (v := 4) dX8_says_6 rfl ?_
  refine pw_aload_n dX8_says_7 rfl rfl ?_
  refine pw_getI dX8_says_8 fa_X8_94 rfl ?_
  refine pw_top (y := nI t) hv ?_
  refine pw_imul dX8_says_11 ?_
  refine pw_iload_n dX8_says_12 rfl rfl ?_
  refine pw_iadd dX8_says_13 ?_
  refine pw_iald (j := 4 * t + p) dX8_says_14 rfl (by show nI 4 * nI t + nI p = _; rw [pk_mul, nI_add]) (by omega) ?_
  refine pw_top (y := nI off) ho1 ?_
  refine pw_istore_n (ls2 := [(3, _), (2, _), (0, _), (1, _)]) dX8_says_15 rfl (by decide) rfl ?_
  have L_16 : ∀ (fu_16 : Nat) (i : Nat) (s : List Int32) (sk : Nat → Int32), (i ≤ len) → (stk sk s) → (depF B.1 (160 * t + lawB B.2 t p + i) (len - i) s.length) → (s.length ≤ 64) → (runL B.1 nm (160 * t + lawB B.2 t p + i) (len - i) s = runL B.1 nm (160 * t + lawB B.2 t p) len []) → len - i < fu_16 → PW l SM RX8 cX8_says 5 (some .int) 2 (QI fun x m => x = lawF B.1 B.2 nm t p ∧ ∃ sk2, m = mm μ V nm sk2 st sn) 16 [(0, .ref 0), (1, .int (nI p)), (2, .int (nI s.length)), (3, .int (nI (off + i)))] [] (mm μ V nm sk st sn) := by
    intro fu_16
    induction fu_16 with
    | zero =>
      intro i s sk hi hsk hd hl hx hm_16
      exact absurd hm_16 (Nat.not_lt_zero _)
    | succ fu_16 ih_16 =>
      intro i s sk hi hsk hd hl hx hm_16
      refine pw_iload_n dX8_says_16 rfl rfl ?_
      refine pw_aload_n dX8_says_17 rfl rfl ?_
      refine pw_getR dX8_says_18 fa_X8_31 rfl ?_
      refine pw_iconst (v := 4) dX8_says_21 rfl ?_
      refine pw_aload_n dX8_says_22 rfl rfl ?_
      refine pw_getI dX8_says_23 fa_X8_94 rfl ?_
      refine pw_top (y := nI t) hv ?_
      refine pw_imul dX8_says_26 ?_
      refine pw_iload_n dX8_says_27 rfl rfl ?_
      refine pw_iadd dX8_says_28 ?_
      refine pw_iconst (v := 1) dX8_says_29 rfl ?_
      refine pw_iadd dX8_says_30 ?_
      refine pw_iald (j := 4 * t + p + 1) dX8_says_31 rfl (by show nI 4 * nI t + nI p + 1 = _; rw [pk_mul, nI_add, nI_1]) (by omega) ?_
      refine pw_top (y := nI (off + len)) ho2 ?_
      refine pw_icmp_ge (tgt := 197) dX8_says_32 (by decide) (fun c_32 => ?_) (fun c_32 => ?_)
      · skip
        have hge := nI_geD (by omega) c_32
        have ei : i = len := by omega
        refine pw_aload_n dX8_says_197 rfl rfl ?_
        refine pw_getR dX8_says_198 fa_X8_55 rfl ?_
        refine pw_iconst (v := 0) dX8_says_201 rfl ?_
        refine pw_iald (j := 0) dX8_says_202 rfl rfl (by omega) ?_
        refine pw_iret dX8_says_203 rfl ?_
        subst ei
        rw [Nat.sub_self] at hd hx
        change s.length = 1 at hd
        change s = _ at hx
        obtain ⟨a, rfl⟩ : ∃ a, s = [a] := by
          match s, hd with
          | [a], _ => exact ⟨a, rfl⟩
        exact ⟨by unfold lawF; rw [show lawE B.2 t p - lawB B.2 t p = i from hlen0.symm, ← hx]; exact hsk.1, _, rfl⟩
      · skip
        have hlt0 := nI_ltD (by omega) c_32
        have hlt : i < len := by omega
        refine pw_aload_n dX8_says_35 rfl rfl ?_
        refine pw_getR dX8_says_36 fa_X8_28 rfl ?_
        refine pw_sipush (v := 200) dX8_says_39 rfl ?_
        refine pw_aload_n dX8_says_42 rfl rfl ?_
        refine pw_getI dX8_says_43 fa_X8_94 rfl ?_
        refine pw_top (y := nI t) hv ?_
        refine pw_imul dX8_says_46 ?_
        refine pw_iload_n dX8_says_47 rfl rfl ?_
        refine pw_iadd dX8_says_48 ?_
        refine pw_iald (j := 200 * t + (off + i)) dX8_says_49 rfl (by show nI 200 * nI t + nI (off + i) = _; rw [pk_mul, nI_add]) (by omega) ?_
        have hlen : len - i = (len - (i + 1)) + 1 := by omega
        have henc := hen i hlt
        obtain ⟨k, hk⟩ : ∃ k, k = μ.1 7 (200 * t + (off + i)) := ⟨_, rfl⟩
        rw [← hk] at henc
        obtain ⟨c, hcc⟩ : ∃ c, c = B.1 (160 * t + lawB B.2 t p + i) := ⟨_, rfl⟩
        rw [← hcc] at henc
        have hdep := hd
        rw [hlen] at hdep
        unfold depF at hdep
        rw [← hcc] at hdep
        have hrun := hx
        rw [hlen] at hrun
        change runL B.1 nm (160 * t + lawB B.2 t p + i + 1) (len - (i + 1)) (stepL nm (B.1 (160 * t + lawB B.2 t p + i)) s) = _ at hrun
        rw [← hcc] at hrun
        refine pw_top (y := k) hk.symm ?_
        refine pw_istore (ls2 := [(4, _), (0, _), (1, _), (2, _), (3, _)]) dX8_says_50 (by decide) rfl ?_
        refine pw_iload dX8_says_52 rfl ?_
        refine pw_ldc dX8_says_54 k_X8_143 ?_
        refine pw_icmp_ge (tgt := 66) dX8_says_56 (by decide) (fun c_56 => ?_) (fun c_56 => ?_)
        · skip
          obtain ⟨hc0, hcv⟩ := enc_num henc c_56
          refine pw_aload_n dX8_says_66 rfl rfl ?_
          refine pw_getR dX8_says_67 fa_X8_55 rfl ?_
          refine pw_iload_n dX8_says_70 rfl rfl ?_
          refine pw_iload dX8_says_71 rfl ?_
          refine pw_bipush (v := 11) dX8_says_73 rfl ?_
          refine pw_icmp_ge (tgt := 88) dX8_says_75 (by decide) (fun c_75 => ?_) (fun c_75 => ?_)
          · skip
            refine pw_iload dX8_says_88 rfl ?_
            refine pw_ldc dX8_says_90 k_X8_143 ?_
            refine pw_isub dX8_says_92 ?_
            have hp64 : s.length < 64 := by rw [if_pos (Int32.le_trans (by decide) hc0)] at hdep; exact hdep.1
            rw [hcv]
            refine pw_iast (j := s.length) dX8_says_93 rfl rfl (by omega) ?_
            refine pw_mem m_16 ?_
            refine pw_iinc (ls2 := [(2, _), (4, _), (0, _), (1, _), (3, _)]) (v := nI (s.length + 1)) dX8_says_94 rfl (inc1 s.length) (by decide) rfl ?_
            refine pw_goto (tgt := 191) dX8_says_97 (by decide) ?_
            skip
            refine pw_iinc (ls2 := [(3, _), (2, _), (4, _), (0, _), (1, _)]) (v := nI (off + (i + 1))) dX8_says_191 rfl (inc1 (off + i)) (by decide) rfl ?_
            refine pw_goto (tgt := 16) dX8_says_194 (by decide) ?_
            refine pw_sub [3, 4, 1, 0] rfl ?_
            have hp := hdep
            rw [if_pos (Int32.le_trans (by decide) hc0)] at hp
            have hstep : stepL nm c s = c :: s := by unfold stepL; rw [if_pos (Int32.le_trans (by decide) hc0), if_pos hp.1, if_pos hc0]
            rw [hstep] at hrun
            exact ih_16 (i + 1) (c :: s) _ hlt (stk_push hsk) (by rw [← Nat.add_assoc]; exact hp.2) (by show s.length + 1 ≤ 64; omega) (by rw [← Nat.add_assoc]; exact hrun) (by omega)
          · skip
            exact absurd (Int32.le_trans (by decide) c_56) c_75
        · skip
          skip
          refine pw_iload dX8_says_59 rfl ?_
          refine pw_bipush (v := 11) dX8_says_61 rfl ?_
          refine pw_icmp_ge (tgt := 100) dX8_says_63 (by decide) (fun c_63 => ?_) (fun c_63 => ?_)
          · skip
            have hops := enc_op henc c_56 c_63
            refine pw_iload dX8_says_100 rfl ?_
            refine pw_bipush (v := 13) dX8_says_102 rfl ?_
            refine pw_icmp_ne (tgt := 134) dX8_says_104 (by decide) (fun c_104 => ?_) (fun c_104 => ?_)
            · skip
              skip
              refine pw_iload dX8_says_134 rfl ?_
              refine pw_bipush (v := 19) dX8_says_136 rfl ?_
              refine pw_icmp_ne (tgt := 161) dX8_says_138 (by decide) (fun c_138 => ?_) (fun c_138 => ?_)
              · skip
                have hop : ¬ k = 13 ∧ ¬ k = 19 ∧ ¬ -6 ≤ c ∧ ¬ -11 ≤ c ∧ (k = 11 ∨ k = 12 ∨ k = 14 ∨ k = 15 ∨ k = 16 ∨ k = 17 ∨ k = 18) ∧ ∀ a b, joinF c a b = twoF k a b := by
                  rcases hops with q | q | q
                  · exact absurd q.2 c_104
                  · exact absurd q.2 c_138
                  · exact q
                obtain ⟨g1, g2, g3, g4, g5, g6⟩ := hop
                obtain ⟨b, a, r, rfl⟩ : ∃ b a r, s = b :: a :: r := by
                  rw [if_neg g3, if_neg g4] at hdep
                  cases s with
                  | nil => exact absurd hdep.1 (by decide)
                  | cons b r0 =>
                    cases r0 with
                    | nil => exact absurd hdep.1 (by show ¬ 2 ≤ 1; decide)
                    | cons a r => exact ⟨b, a, r, rfl⟩
                have hl2 : r.length + 2 ≤ 64 := hl
                refine pw_iinc (ls2 := [(2, _), (4, _), (0, _), (1, _), (3, _)]) (v := nI (r.length + 1)) dX8_says_161 rfl (pk_m1 _) (by decide) rfl ?_
                refine pw_aload_n dX8_says_164 rfl rfl ?_
                refine pw_getR dX8_says_165 fa_X8_55 rfl ?_
                refine pw_iload_n dX8_says_168 rfl rfl ?_
                refine pw_iconst (v := 1) dX8_says_169 rfl ?_
                refine pw_isub dX8_says_170 ?_
                refine pw_iload dX8_says_171 rfl ?_
                refine pw_aload_n dX8_says_173 rfl rfl ?_
                refine pw_getR dX8_says_174 fa_X8_55 rfl ?_
                refine pw_iload_n dX8_says_177 rfl rfl ?_
                refine pw_iconst (v := 1) dX8_says_178 rfl ?_
                refine pw_isub dX8_says_179 ?_
                refine pw_iald (j := r.length) dX8_says_180 rfl (by show nI (r.length + 1) - 1 = _; exact nI_pred _) (by omega) ?_
                refine pw_top (y := a) hsk.2.1 ?_
                refine pw_aload_n dX8_says_181 rfl rfl ?_
                refine pw_getR dX8_says_182 fa_X8_55 rfl ?_
                refine pw_iload_n dX8_says_185 rfl rfl ?_
                refine pw_iald (j := r.length + 1) dX8_says_186 rfl rfl (by omega) ?_
                refine pw_top (y := b) hsk.1 ?_
                refine pw_cSi dX8_says_187 ms_X8_157 (T_X8_two g5) rfl rfl (Nat.le_of_ble_eq_true rfl) (by decide) (fun x_187 m_187 h_187 => ?_)
                obtain ⟨rfl, rfl⟩ := h_187
                refine pw_iast (j := r.length) dX8_says_190 rfl (by show nI (r.length + 1) - 1 = _; exact nI_pred _) (by omega) ?_
                refine pw_mem m_16 ?_
                refine pw_iinc (ls2 := [(3, _), (2, _), (4, _), (0, _), (1, _)]) (v := nI (off + (i + 1))) dX8_says_191 rfl (inc1 (off + i)) (by decide) rfl ?_
                refine pw_goto (tgt := 16) dX8_says_194 (by decide) ?_
                refine pw_sub [3, 4, 1, 0] rfl ?_
                have hp := hdep
                rw [if_neg g3, if_neg g4] at hp
                have hstep : stepL nm c (b :: a :: r) = twoF k a b :: r := by unfold stepL; rw [if_neg g3, if_neg g4]; show joinF c a b :: r = _; rw [g6]
                rw [hstep] at hrun
                exact ih_16 (i + 1) (twoF k a b :: r) _ hlt (stk_push hsk.2.2) (by rw [← Nat.add_assoc]; exact hp.2) (Nat.le_of_succ_le hl) (by rw [← Nat.add_assoc]; exact hrun) (by omega)
              · skip
                have hop : c = -11 ∧ k = 19 := by
                  rcases hops with q | q | q
                  · exact absurd q.2 c_104
                  · exact q
                  · exact absurd c_138 q.2.1
                obtain ⟨a, r, rfl⟩ : ∃ a r, s = a :: r := by
                  cases s with
                  | nil => rw [hop.1, if_neg (by decide), if_pos (by decide)] at hdep; exact absurd hdep.1 (by decide)
                  | cons a r => exact ⟨a, r, rfl⟩
                refine pw_aload_n dX8_says_141 rfl rfl ?_
                refine pw_getR dX8_says_142 fa_X8_55 rfl ?_
                refine pw_iload_n dX8_says_145 rfl rfl ?_
                refine pw_iconst (v := 1) dX8_says_146 rfl ?_
                refine pw_isub dX8_says_147 ?_
                refine pw_aload_n dX8_says_148 rfl rfl ?_
                refine pw_getR dX8_says_149 fa_X8_55 rfl ?_
                refine pw_iload_n dX8_says_152 rfl rfl ?_
                refine pw_iconst (v := 1) dX8_says_153 rfl ?_
                refine pw_isub dX8_says_154 ?_
                refine pw_iald (j := r.length) dX8_says_155 rfl (by show nI (r.length + 1) - 1 = _; exact nI_pred _) (by have hl2 : r.length + 1 ≤ 64 := hl; omega) ?_
                refine pw_top (y := a) hsk.1 ?_
                refine pw_ineg dX8_says_156 ?_
                refine pw_iast (j := r.length) dX8_says_157 rfl (by show nI (r.length + 1) - 1 = _; exact nI_pred _) (by have hl2 : r.length + 1 ≤ 64 := hl; omega) ?_
                refine pw_mem m_16 ?_
                refine pw_goto (tgt := 191) dX8_says_158 (by decide) ?_
                skip
                refine pw_iinc (ls2 := [(3, _), (4, _), (0, _), (1, _), (2, _)]) (v := nI (off + (i + 1))) dX8_says_191 rfl (inc1 (off + i)) (by decide) rfl ?_
                refine pw_goto (tgt := 16) dX8_says_194 (by decide) ?_
                refine pw_sub [2, 3, 4, 0] rfl ?_
                have hp := hdep
                rw [hop.1, if_neg (by decide), if_pos (by decide)] at hp
                have hstep : stepL nm c (a :: r) = (-a) :: r := by rw [hop.1]; rfl
                rw [hstep] at hrun
                exact ih_16 (i + 1) ((-a) :: r) _ hlt (stk_push hsk.2) (by rw [← Nat.add_assoc]; exact hp.2) hl (by rw [← Nat.add_assoc]; exact hrun) (by omega)
            · skip
              have hop : c = -10 ∧ k = 13 := by
                rcases hops with q | q | q
                · exact q
                · rw [q.2] at c_104; exact absurd c_104 (by decide)
                · exact absurd c_104 q.1
              obtain ⟨a, r, rfl⟩ : ∃ a r, s = a :: r := by
                cases s with
                | nil => rw [hop.1, if_neg (by decide), if_pos (by decide)] at hdep; exact absurd hdep.1 (by decide)
                | cons a r => exact ⟨a, r, rfl⟩
              refine pw_aload_n dX8_says_107 rfl rfl ?_
              refine pw_getR dX8_says_108 fa_X8_55 rfl ?_
              refine pw_iload_n dX8_says_111 rfl rfl ?_
              refine pw_iconst (v := 1) dX8_says_112 rfl ?_
              refine pw_isub dX8_says_113 ?_
              refine pw_aload_n dX8_says_114 rfl rfl ?_
              refine pw_getR dX8_says_115 fa_X8_55 rfl ?_
              refine pw_iload_n dX8_says_118 rfl rfl ?_
              refine pw_iconst (v := 1) dX8_says_119 rfl ?_
              refine pw_isub dX8_says_120 ?_
              refine pw_iald (j := r.length) dX8_says_121 rfl (by show nI (r.length + 1) - 1 = _; exact nI_pred _) (by have hl2 : r.length + 1 ≤ 64 := hl; omega) ?_
              refine pw_top (y := a) hsk.1 ?_
              refine pw_if_ne (tgt := 129) dX8_says_122 (by decide) (fun c_122 => ?_) (fun c_122 => ?_)
              · skip
                refine pw_iconst (v := 0) dX8_says_129 rfl ?_
                refine pw_iast (j := r.length) dX8_says_130 rfl (by show nI (r.length + 1) - 1 = _; exact nI_pred _) (by have hl2 : r.length + 1 ≤ 64 := hl; omega) ?_
                refine pw_mem m_16 ?_
                refine pw_goto (tgt := 191) dX8_says_131 (by decide) ?_
                skip
                refine pw_iinc (ls2 := [(3, _), (4, _), (0, _), (1, _), (2, _)]) (v := nI (off + (i + 1))) dX8_says_191 rfl (inc1 (off + i)) (by decide) rfl ?_
                refine pw_goto (tgt := 16) dX8_says_194 (by decide) ?_
                refine pw_sub [2, 3, 4, 0] rfl ?_
                have hp := hdep
                rw [hop.1, if_neg (by decide), if_pos (by decide)] at hp
                have hstep : stepL nm c (a :: r) = 0 :: r := by rw [hop.1]; show (if (-10 : Int32) = -11 then -a else if a = 0 then 1 else 0) :: r = _; rw [if_neg (by decide), if_neg c_122]
                rw [hstep] at hrun
                exact ih_16 (i + 1) (0 :: r) _ hlt (stk_push hsk.2) (by rw [← Nat.add_assoc]; exact hp.2) hl (by rw [← Nat.add_assoc]; exact hrun) (by omega)
              · skip
                refine pw_iconst (v := 1) dX8_says_125 rfl ?_
                refine pw_goto (tgt := 130) dX8_says_126 (by decide) ?_
                refine pw_iast (j := r.length) dX8_says_130 rfl (by show nI (r.length + 1) - 1 = _; exact nI_pred _) (by have hl2 : r.length + 1 ≤ 64 := hl; omega) ?_
                refine pw_mem m_16 ?_
                refine pw_goto (tgt := 191) dX8_says_131 (by decide) ?_
                skip
                refine pw_iinc (ls2 := [(3, _), (4, _), (0, _), (1, _), (2, _)]) (v := nI (off + (i + 1))) dX8_says_191 rfl (inc1 (off + i)) (by decide) rfl ?_
                refine pw_goto (tgt := 16) dX8_says_194 (by decide) ?_
                refine pw_sub [2, 3, 4, 0] rfl ?_
                have hp := hdep
                rw [hop.1, if_neg (by decide), if_pos (by decide)] at hp
                have hstep : stepL nm c (a :: r) = 1 :: r := by rw [hop.1]; show (if (-10 : Int32) = -11 then -a else if a = 0 then 1 else 0) :: r = _; rw [if_neg (by decide), if_pos c_122]
                rw [hstep] at hrun
                exact ih_16 (i + 1) (1 :: r) _ hlt (stk_push hsk.2) (by rw [← Nat.add_assoc]; exact hp.2) hl (by rw [← Nat.add_assoc]; exact hrun) (by omega)
          · skip
            obtain ⟨hc6, hcn, z, hz6, rfl, hcz⟩ := enc_nam henc c_56 c_63
            refine pw_aload_n dX8_says_66 rfl rfl ?_
            refine pw_getR dX8_says_67 fa_X8_55 rfl ?_
            refine pw_iload_n dX8_says_70 rfl rfl ?_
            refine pw_iload dX8_says_71 rfl ?_
            refine pw_bipush (v := 11) dX8_says_73 rfl ?_
            refine pw_icmp_ge (tgt := 88) dX8_says_75 (by decide) (fun c_75 => ?_) (fun c_75 => ?_)
            · skip
              exact absurd c_75 c_63
            · skip
              refine pw_aload_n dX8_says_78 rfl rfl ?_
              refine pw_getR dX8_says_79 fa_X8_58 rfl ?_
              refine pw_iload dX8_says_82 rfl ?_
              refine pw_iald (j := z) dX8_says_84 rfl rfl (by omega) ?_
              refine pw_goto (tgt := 93) dX8_says_85 (by decide) ?_
              have hp64 : s.length < 64 := by rw [if_pos hc6] at hdep; exact hdep.1
              refine pw_top (y := nm z) rfl ?_
              refine pw_iast (j := s.length) dX8_says_93 rfl rfl (by omega) ?_
              refine pw_mem m_16 ?_
              refine pw_iinc (ls2 := [(2, _), (4, _), (0, _), (1, _), (3, _)]) (v := nI (s.length + 1)) dX8_says_94 rfl (inc1 s.length) (by decide) rfl ?_
              refine pw_goto (tgt := 191) dX8_says_97 (by decide) ?_
              skip
              refine pw_iinc (ls2 := [(3, _), (2, _), (4, _), (0, _), (1, _)]) (v := nI (off + (i + 1))) dX8_says_191 rfl (inc1 (off + i)) (by decide) rfl ?_
              refine pw_goto (tgt := 16) dX8_says_194 (by decide) ?_
              refine pw_sub [3, 4, 1, 0] rfl ?_
              have hp := hdep
              rw [if_pos hc6] at hp
              have hstep : stepL nm c s = nm z :: s := by unfold stepL; rw [if_pos hc6, if_pos hp.1, if_neg hcn, hcz]
              rw [hstep] at hrun
              exact ih_16 (i + 1) (nm z :: s) _ hlt (stk_push hsk) (by rw [← Nat.add_assoc]; exact hp.2) (by show s.length + 1 ≤ 64; omega) (by rw [← Nat.add_assoc]; exact hrun) (by omega)
  refine pw_sub [2, 3, 1, 0] rfl ?_
  exact L_16 (len + 1) 0 [] sk (Nat.zero_le _) trivial hdp (Nat.zero_le _) rfl (by omega)

set_option maxHeartbeats 4000000 in
set_option maxRecDepth 100000 in
theorem T_X8_asksOf {l : Launch} {μ : PM} {B : BK} {V : VW} {nm sk st : Nat → Int32} {sn : Int32} {p h : Nat} {told more : Int32} (hL : okL μ B V) (hp : p < 3) (hh : h < 6) : CT l SM yX8_asksOf cX8_asksOf 5 (some .int) 3 [.ref 0, .int (nI p), .int told, .int (nI h), .int more] (mm μ V nm sk st sn) (QI fun x m => x = saysF B V p told more h ∧ ∃ nm2 sk2, m = mm μ (V) nm2 sk2 st sn) := by
  refine CT.of rfl (Nat.le_of_ble_eq_true rfl) ?_
  show PW l SM RX8 cX8_asksOf 5 (some .int) 3 _ 0 [(0, .ref 0), (1, .int (nI p)), (2, .int told), (3, .int (nI h)), (4, .int more)] [] (mm μ V nm sk st sn)
  obtain ⟨t, ht, hv, hrel⟩ := hL
  refine pw_aload_n dX8_asksOf_0 rfl rfl ?_
  refine pw_getR dX8_asksOf_1 fa_X8_58 rfl ?_
  refine pw_iconst (v := 0) dX8_asksOf_4 rfl ?_
  refine pw_iload_n dX8_asksOf_5 rfl rfl ?_
  refine pw_iast (j := 0) dX8_asksOf_6 rfl rfl (by decide) ?_
  refine pw_mem m_17 ?_
  refine pw_aload_n dX8_asksOf_7 rfl rfl ?_
  refine pw_getR dX8_asksOf_8 fa_X8_58 rfl ?_
  refine pw_iconst (v := 1) dX8_asksOf_11 rfl ?_
  refine pw_aload_n dX8_asksOf_12 rfl rfl ?_
  refine pw_getR dX8_asksOf_13 fa_X8_19 rfl ?_
  refine pw_iconst (v := 5) dX8_asksOf_16 rfl ?_
  refine pw_iload_n dX8_asksOf_17 rfl rfl ?_
  refine pw_imul dX8_asksOf_18 ?_
  refine pw_iald (j := 5 * h + 0) dX8_asksOf_19 rfl (by show nI 5 * nI h = _; rw [pk_mul]; rfl) (by omega) ?_
  refine pw_top (y := V 4 h) (hl_at (by decide)) ?_
  refine pw_iast (j := 1) dX8_asksOf_20 rfl rfl (by decide) ?_
  refine pw_mem m_17 ?_
  refine pw_aload_n dX8_asksOf_21 rfl rfl ?_
  refine pw_getR dX8_asksOf_22 fa_X8_58 rfl ?_
  refine pw_iconst (v := 2) dX8_asksOf_25 rfl ?_
  refine pw_iload dX8_asksOf_26 rfl ?_
  refine pw_iast (j := 2) dX8_asksOf_28 rfl rfl (by decide) ?_
  refine pw_mem m_17 ?_
  refine pw_aload_n dX8_asksOf_29 rfl rfl ?_
  refine pw_getR dX8_asksOf_30 fa_X8_58 rfl ?_
  refine pw_iconst (v := 3) dX8_asksOf_33 rfl ?_
  refine pw_aload_n dX8_asksOf_34 rfl rfl ?_
  refine pw_getI dX8_asksOf_35 fa_X8_88 rfl ?_
  refine pw_top (y := V 0 12) rfl ?_
  refine pw_iast (j := 3) dX8_asksOf_38 rfl rfl (by decide) ?_
  refine pw_mem m_17 ?_
  refine pw_aload_n dX8_asksOf_39 rfl rfl ?_
  refine pw_getR dX8_asksOf_40 fa_X8_58 rfl ?_
  refine pw_iconst (v := 4) dX8_asksOf_43 rfl ?_
  refine pw_aload_n dX8_asksOf_44 rfl rfl ?_
  refine pw_getR dX8_asksOf_45 fa_X8_19 rfl ?_
  refine pw_iconst (v := 5) dX8_asksOf_48 rfl ?_
  refine pw_iload_n dX8_asksOf_49 rfl rfl ?_
  refine pw_imul dX8_asksOf_50 ?_
  refine pw_iconst (v := 1) dX8_asksOf_51 rfl ?_
  refine pw_iadd dX8_asksOf_52 ?_
  refine pw_iald (j := 5 * h + 1) dX8_asksOf_53 rfl (by show nI 5 * nI h + nI 1 = _; rw [pk_mul, nI_add]) (by omega) ?_
  refine pw_top (y := V 5 h) (hl_at (by decide)) ?_
  refine pw_iast (j := 4) dX8_asksOf_54 rfl rfl (by decide) ?_
  refine pw_mem m_17 ?_
  refine pw_aload_n dX8_asksOf_55 rfl rfl ?_
  refine pw_getR dX8_asksOf_56 fa_X8_58 rfl ?_
  refine pw_iconst (v := 5) dX8_asksOf_59 rfl ?_
  refine pw_iload_n dX8_asksOf_60 rfl rfl ?_
  refine pw_iast (j := 5) dX8_asksOf_61 rfl rfl (by decide) ?_
  refine pw_mem m_17 ?_
  refine pw_aload_n dX8_asksOf_62 rfl rfl ?_
  refine pw_iload_n dX8_asksOf_63 rfl rfl ?_
  refine pw_cVi dX8_asksOf_64 mv_X8_161 ckModel (T_X8_says (t := t) (p := p) ht hp hv (hrel p hp)) rfl rfl (Nat.le_of_ble_eq_true rfl) (by decide) (fun x_64 m_64 h_64 => ?_)
  obtain ⟨rfl, sk1, rfl⟩ := h_64
  rw [lawF_nm nmF_upd]
  refine pw_iconst (v := 0) dX8_asksOf_67 rfl ?_
  refine pw_iload_n dX8_asksOf_68 rfl rfl ?_
  refine pw_iconst (v := 1) dX8_asksOf_69 rfl ?_
  refine pw_icmp_ne (tgt := 78) dX8_asksOf_70 (by decide) (fun c_70 => ?_) (fun c_70 => ?_)
  · skip
    refine pw_bipush (v := 99) dX8_asksOf_78 rfl ?_
    refine pw_cSi dX8_asksOf_80 ms_X8_164 T_X8_within rfl rfl (Nat.le_of_ble_eq_true rfl) (by decide) (fun x_80 m_80 h_80 => ?_)
    obtain ⟨rfl, rfl⟩ := h_80
    refine pw_iret dX8_asksOf_83 rfl ?_
    refine ⟨?_, _, _, rfl⟩
    unfold saysF
    rw [hv, nI_clamp (by omega), if_neg (fun e => c_70 (by rw [e]; rfl))]
  · skip
    refine pw_bipush (v := 100) dX8_asksOf_73 rfl ?_
    refine pw_goto (tgt := 80) dX8_asksOf_75 (by decide) ?_
    refine pw_cSi dX8_asksOf_80 ms_X8_164 T_X8_within rfl rfl (Nat.le_of_ble_eq_true rfl) (by decide) (fun x_80 m_80 h_80 => ?_)
    obtain ⟨rfl, rfl⟩ := h_80
    refine pw_iret dX8_asksOf_83 rfl ?_
    refine ⟨?_, _, _, rfl⟩
    unfold saysF
    rw [hv, nI_clamp (by omega), if_pos ((nI_eq (by omega) (by decide)).mp c_70)]

set_option maxHeartbeats 4000000 in
set_option maxRecDepth 100000 in
theorem T_X8_asks {l : Launch} {μ : PM} {B : BK} {V : VW} {nm sk st : Nat → Int32} {sn : Int32} {nh : Nat} {p t h mo : Int32} (hL : okL μ B V) (h5 : V 0 5 = nI nh) (hh6 : nh ≤ 6) : CT l SM yX8_asks cX8_asks 5 (some .int) 4 [.ref 0, .int p, .int t, .int h, .int mo] (mm μ V nm sk st sn) (QI fun x m => x = asksF B V p t h mo ∧ ∃ nm2 sk2, m = mm μ (V) nm2 sk2 st sn) := by
  refine CT.of rfl (Nat.le_of_ble_eq_true rfl) ?_
  show PW l SM RX8 cX8_asks 5 (some .int) 4 _ 0 [(0, .ref 0), (1, .int p), (2, .int t), (3, .int h), (4, .int mo)] [] (mm μ V nm sk st sn)
  refine pw_iload_n dX8_asks_0 rfl rfl ?_
  refine pw_iconst (v := 0) dX8_asks_1 rfl ?_
  refine pw_iconst (v := 2) dX8_asks_2 rfl ?_
  refine pw_cSi dX8_asks_3 ms_X8_78 T_X8_in rfl rfl (Nat.le_of_ble_eq_true rfl) (by decide) (fun x_3 m_3 h_3 => ?_)
  obtain ⟨rfl, rfl⟩ := h_3
  refine pw_if_eq (tgt := 50) dX8_asks_6 (by decide) (fun c_6 => ?_) (fun c_6 => ?_)
  · skip
    have hb_6 := b2_0 c_6
    refine pw_bipush (v := (-2)) dX8_asks_50 rfl ?_
    refine pw_iret dX8_asks_52 rfl ?_
    exact ⟨by unfold asksF; rw [hb_6]; rfl, _, _, rfl⟩
  · skip
    have hb_6 := b2_n c_6
    refine pw_iload_n dX8_asks_9 rfl rfl ?_
    refine pw_iconst (v := 0) dX8_asks_10 rfl ?_
    refine pw_bipush (v := 99) dX8_asks_11 rfl ?_
    refine pw_cSi dX8_asks_13 ms_X8_78 T_X8_in rfl rfl (Nat.le_of_ble_eq_true rfl) (by decide) (fun x_13 m_13 h_13 => ?_)
    obtain ⟨rfl, rfl⟩ := h_13
    refine pw_if_eq (tgt := 50) dX8_asks_16 (by decide) (fun c_16 => ?_) (fun c_16 => ?_)
    · skip
      have hb_16 := b2_0 c_16
      refine pw_bipush (v := (-2)) dX8_asks_50 rfl ?_
      refine pw_iret dX8_asks_52 rfl ?_
      exact ⟨by unfold asksF; rw [hb_6, hb_16]; rfl, _, _, rfl⟩
    · skip
      have hb_16 := b2_n c_16
      refine pw_aload_n dX8_asks_19 rfl rfl ?_
      refine pw_iload_n dX8_asks_20 rfl rfl ?_
      refine pw_cVi dX8_asks_21 mv_X8_167 ckModel T_X8_isHearer rfl rfl (Nat.le_of_ble_eq_true rfl) (by decide) (fun x_21 m_21 h_21 => ?_)
      obtain ⟨rfl, rfl⟩ := h_21
      refine pw_if_eq (tgt := 50) dX8_asks_24 (by decide) (fun c_24 => ?_) (fun c_24 => ?_)
      · skip
        have hb_24 := b2_0 c_24
        refine pw_bipush (v := (-2)) dX8_asks_50 rfl ?_
        refine pw_iret dX8_asks_52 rfl ?_
        exact ⟨by unfold asksF; rw [hb_6, hb_16, hb_24]; rfl, _, _, rfl⟩
      · skip
        have hb_24 := b2_n c_24
        refine pw_iload dX8_asks_27 rfl ?_
        refine pw_iconst (v := 0) dX8_asks_29 rfl ?_
        refine pw_bipush (v := 9) dX8_asks_30 rfl ?_
        refine pw_cSi dX8_asks_32 ms_X8_78 T_X8_in rfl rfl (Nat.le_of_ble_eq_true rfl) (by decide) (fun x_32 m_32 h_32 => ?_)
        obtain ⟨rfl, rfl⟩ := h_32
        refine pw_if_eq (tgt := 50) dX8_asks_35 (by decide) (fun c_35 => ?_) (fun c_35 => ?_)
        · skip
          have hb_35 := b2_0 c_35
          refine pw_bipush (v := (-2)) dX8_asks_50 rfl ?_
          refine pw_iret dX8_asks_52 rfl ?_
          exact ⟨by unfold asksF; rw [hb_6, hb_16, hb_24, hb_35]; rfl, _, _, rfl⟩
        · skip
          have hb_35 := b2_n c_35
          refine pw_aload_n dX8_asks_38 rfl rfl ?_
          refine pw_iload_n dX8_asks_39 rfl rfl ?_
          refine pw_iload_n dX8_asks_40 rfl rfl ?_
          refine pw_iload_n dX8_asks_41 rfl rfl ?_
          refine pw_iload dX8_asks_42 rfl ?_
          obtain ⟨p, hp, rfl⟩ := in_trueL (n := 2) hb_6 (by decide)
          obtain ⟨h, hlh, hsh, rfl⟩ := hr_of h5 hh6 hb_24
          refine pw_cVi dX8_asks_44 mv_X8_170 ckModel (T_X8_asksOf hL (by omega) hsh) rfl rfl (Nat.le_of_ble_eq_true rfl) (by decide) (fun x_44 m_44 h_44 => ?_)
          obtain ⟨rfl, nm1, sk1, rfl⟩ := h_44
          refine pw_goto (tgt := 52) dX8_asks_47 (by decide) ?_
          refine pw_iret dX8_asks_52 rfl ?_
          exact ⟨by unfold asksF; rw [show inF (nI p) 0 2 = true from hb_6, hb_16, hb_24, hb_35, cl_nI (by omega), cl_nI (by omega)]; rfl, _, _, rfl⟩

set_option maxHeartbeats 4000000 in
set_option maxRecDepth 100000 in
theorem T_X8_onOf {l : Launch} {μ : PM} {V : VW} {nm sk st : Nat → Int32} {sn : Int32} {j : Nat} (hj : j < 5) : CT l SM yX8_onOf cX8_onOf 3 (some .int) 1 [.ref 0, .int (nI j)] (mm μ V nm sk st sn) (QI fun x m => x = onF (V 1 j) (V 2 j) ∧ m = mm μ V nm sk st sn) := by
  refine CT.of rfl (Nat.le_of_ble_eq_true rfl) ?_
  show PW l SM RX8 cX8_onOf 3 (some .int) 1 _ 0 [(0, .ref 0), (1, .int (nI j))] [] (mm μ V nm sk st sn)
  refine pw_aload_n dX8_onOf_0 rfl rfl ?_
  refine pw_getR dX8_onOf_1 fa_X8_7 rfl ?_
  refine pw_iload_n dX8_onOf_4 rfl rfl ?_
  refine pw_iald (j := j) dX8_onOf_5 rfl rfl hj ?_
  refine pw_top (y := V 1 j) rfl ?_
  refine pw_istore_n (ls2 := [(2, _), (0, _), (1, _)]) dX8_onOf_6 rfl (by decide) rfl ?_
  refine pw_iload_n dX8_onOf_7 rfl rfl ?_
  refine pw_iconst (v := 1) dX8_onOf_8 rfl ?_
  refine pw_icmp_eq (tgt := 17) dX8_onOf_9 (by decide) (fun c_9 => ?_) (fun c_9 => ?_)
  · skip
    refine pw_iconst (v := 2) dX8_onOf_17 rfl ?_
    refine pw_goto (tgt := 49) dX8_onOf_18 (by decide) ?_
    refine pw_iret dX8_onOf_49 rfl ?_
    exact ⟨by unfold onF; simp_all, rfl⟩
  · skip
    refine pw_iload_n dX8_onOf_12 rfl rfl ?_
    refine pw_iconst (v := 3) dX8_onOf_13 rfl ?_
    refine pw_icmp_ne (tgt := 21) dX8_onOf_14 (by decide) (fun c_14 => ?_) (fun c_14 => ?_)
    · skip
      refine pw_iload_n dX8_onOf_21 rfl rfl ?_
      refine pw_iconst (v := 4) dX8_onOf_22 rfl ?_
      refine pw_icmp_ne (tgt := 30) dX8_onOf_23 (by decide) (fun c_23 => ?_) (fun c_23 => ?_)
      · skip
        refine pw_iload_n dX8_onOf_30 rfl rfl ?_
        refine pw_iconst (v := 5) dX8_onOf_31 rfl ?_
        refine pw_icmp_ne (tgt := 48) dX8_onOf_32 (by decide) (fun c_32 => ?_) (fun c_32 => ?_)
        · skip
          refine pw_iconst (v := 1) dX8_onOf_48 rfl ?_
          refine pw_iret dX8_onOf_49 rfl ?_
          exact ⟨by unfold onF; simp_all, rfl⟩
        · skip
          refine pw_iconst (v := 1) dX8_onOf_35 rfl ?_
          refine pw_aload_n dX8_onOf_36 rfl rfl ?_
          refine pw_getR dX8_onOf_37 fa_X8_13 rfl ?_
          refine pw_iload_n dX8_onOf_40 rfl rfl ?_
          refine pw_iald (j := j) dX8_onOf_41 rfl rfl hj ?_
          refine pw_top (y := V 2 j) rfl ?_
          refine pw_iconst (v := 3) dX8_onOf_42 rfl ?_
          refine pw_idiv dX8_onOf_43 (by decide) ?_
          refine pw_iadd dX8_onOf_44 ?_
          refine pw_goto (tgt := 49) dX8_onOf_45 (by decide) ?_
          refine pw_iret dX8_onOf_49 rfl ?_
          exact ⟨by unfold onF; simp_all, rfl⟩
      · skip
        refine pw_iconst (v := 0) dX8_onOf_26 rfl ?_
        refine pw_goto (tgt := 49) dX8_onOf_27 (by decide) ?_
        refine pw_iret dX8_onOf_49 rfl ?_
        exact ⟨by unfold onF; simp_all, rfl⟩
    · skip
      refine pw_iconst (v := 2) dX8_onOf_17 rfl ?_
      refine pw_goto (tgt := 49) dX8_onOf_18 (by decide) ?_
      refine pw_iret dX8_onOf_49 rfl ?_
      exact ⟨by unfold onF; simp_all, rfl⟩

set_option maxHeartbeats 4000000 in
set_option maxRecDepth 100000 in
theorem T_X8_wearsOf {l : Launch} {μ : PM} {V : VW} {nm sk st : Nat → Int32} {sn : Int32} {j : Nat} (hj : j < 5) : CT l SM yX8_wearsOf cX8_wearsOf 2 (some .int) 1 [.ref 0, .int (nI j)] (mm μ V nm sk st sn) (QI fun x m => x = moreF (V 1 j) ∧ m = mm μ V nm sk st sn) := by
  refine CT.of rfl (Nat.le_of_ble_eq_true rfl) ?_
  show PW l SM RX8 cX8_wearsOf 2 (some .int) 1 _ 0 [(0, .ref 0), (1, .int (nI j))] [] (mm μ V nm sk st sn)
  refine pw_aload_n dX8_wearsOf_0 rfl rfl ?_
  refine pw_getR dX8_wearsOf_1 fa_X8_7 rfl ?_
  refine pw_iload_n dX8_wearsOf_4 rfl rfl ?_
  refine pw_iald (j := j) dX8_wearsOf_5 rfl rfl hj ?_
  refine pw_top (y := V 1 j) rfl ?_
  refine pw_iconst (v := 2) dX8_wearsOf_6 rfl ?_
  refine pw_icmp_eq (tgt := 20) dX8_wearsOf_7 (by decide) (fun c_7 => ?_) (fun c_7 => ?_)
  · skip
    refine pw_iconst (v := 2) dX8_wearsOf_20 rfl ?_
    refine pw_goto (tgt := 39) dX8_wearsOf_21 (by decide) ?_
    refine pw_iret dX8_wearsOf_39 rfl ?_
    exact ⟨by unfold moreF; simp_all, rfl⟩
  · skip
    refine pw_aload_n dX8_wearsOf_10 rfl rfl ?_
    refine pw_getR dX8_wearsOf_11 fa_X8_7 rfl ?_
    refine pw_iload_n dX8_wearsOf_14 rfl rfl ?_
    refine pw_iald (j := j) dX8_wearsOf_15 rfl rfl hj ?_
    refine pw_top (y := V 1 j) rfl ?_
    refine pw_iconst (v := 4) dX8_wearsOf_16 rfl ?_
    refine pw_icmp_ne (tgt := 24) dX8_wearsOf_17 (by decide) (fun c_17 => ?_) (fun c_17 => ?_)
    · skip
      refine pw_aload_n dX8_wearsOf_24 rfl rfl ?_
      refine pw_getR dX8_wearsOf_25 fa_X8_7 rfl ?_
      refine pw_iload_n dX8_wearsOf_28 rfl rfl ?_
      refine pw_iald (j := j) dX8_wearsOf_29 rfl rfl hj ?_
      refine pw_top (y := V 1 j) rfl ?_
      refine pw_iconst (v := 3) dX8_wearsOf_30 rfl ?_
      refine pw_icmp_ne (tgt := 38) dX8_wearsOf_31 (by decide) (fun c_31 => ?_) (fun c_31 => ?_)
      · skip
        refine pw_iconst (v := 1) dX8_wearsOf_38 rfl ?_
        refine pw_iret dX8_wearsOf_39 rfl ?_
        exact ⟨by unfold moreF; simp_all, rfl⟩
      · skip
        refine pw_iconst (v := 0) dX8_wearsOf_34 rfl ?_
        refine pw_goto (tgt := 39) dX8_wearsOf_35 (by decide) ?_
        refine pw_iret dX8_wearsOf_39 rfl ?_
        exact ⟨by unfold moreF; simp_all, rfl⟩
    · skip
      refine pw_iconst (v := 2) dX8_wearsOf_20 rfl ?_
      refine pw_goto (tgt := 39) dX8_wearsOf_21 (by decide) ?_
      refine pw_iret dX8_wearsOf_39 rfl ?_
      exact ⟨by unfold moreF; simp_all, rfl⟩

set_option maxHeartbeats 4000000 in
set_option maxRecDepth 100000 in
theorem T_X8_told {l : Launch} {μ : PM} {V : VW} {nm sk st : Nat → Int32} {sn : Int32} {nj : Nat} {j what : Int32} (h1 : V 0 1 = nI nj) (hj5 : nj ≤ 5) : CT l SM yX8_told cX8_told 3 (some .int) 3 [.ref 0, .int j, .int what] (mm μ V nm sk st sn) (QI fun x m => x = toldF V j what ∧ m = mm μ V nm sk st sn) := by
  refine CT.of rfl (Nat.le_of_ble_eq_true rfl) ?_
  show PW l SM RX8 cX8_told 3 (some .int) 3 _ 0 [(0, .ref 0), (1, .int j), (2, .int what)] [] (mm μ V nm sk st sn)
  refine pw_aload_n dX8_told_0 rfl rfl ?_
  refine pw_iload_n dX8_told_1 rfl rfl ?_
  refine pw_cVi dX8_told_2 mv_X8_174 ckModel T_X8_isJoke rfl rfl (Nat.le_of_ble_eq_true rfl) (by decide) (fun x_2 m_2 h_2 => ?_)
  obtain ⟨rfl, rfl⟩ := h_2
  refine pw_if_ne (tgt := 11) dX8_told_5 (by decide) (fun c_5 => ?_) (fun c_5 => ?_)
  · skip
    have hb_5 := b2_n c_5
    refine pw_iload_n dX8_told_11 rfl rfl ?_
    obtain ⟨j, hlj, hsj, rfl⟩ := jk_of h1 hj5 hb_5
    by_cases q_12_0 : what = 0
    · skip
      refine pw_tsIn (v := 0) (tgt := 44) dX8_told_12 q_12_0 (by decide) (by decide) rfl (by decide) ?_
      refine pw_aload_n dX8_told_44 rfl rfl ?_
      refine pw_getR dX8_told_45 fa_X8_7 rfl ?_
      refine pw_iload_n dX8_told_48 rfl rfl ?_
      refine pw_iald (j := j) dX8_told_49 rfl rfl hsj ?_
      refine pw_top (y := V 1 j) rfl ?_
      refine pw_iret dX8_told_50 rfl ?_
      exact ⟨by unfold toldF; rw [hb_5, if_pos rfl, cl_nI (by omega)]; simp_all, rfl⟩
    by_cases q_12_1 : what = 1
    · skip
      refine pw_tsIn (v := 1) (tgt := 51) dX8_told_12 q_12_1 (by decide) (by decide) rfl (by decide) ?_
      refine pw_aload_n dX8_told_51 rfl rfl ?_
      refine pw_getR dX8_told_52 fa_X8_13 rfl ?_
      refine pw_iload_n dX8_told_55 rfl rfl ?_
      refine pw_iald (j := j) dX8_told_56 rfl rfl hsj ?_
      refine pw_top (y := V 2 j) rfl ?_
      refine pw_iret dX8_told_57 rfl ?_
      exact ⟨by unfold toldF; rw [hb_5, if_pos rfl, cl_nI (by omega)]; simp_all, rfl⟩
    by_cases q_12_2 : what = 2
    · skip
      refine pw_tsIn (v := 2) (tgt := 58) dX8_told_12 q_12_2 (by decide) (by decide) rfl (by decide) ?_
      refine pw_aload_n dX8_told_58 rfl rfl ?_
      refine pw_getR dX8_told_59 fa_X8_16 rfl ?_
      refine pw_iload_n dX8_told_62 rfl rfl ?_
      refine pw_iald (j := j) dX8_told_63 rfl rfl hsj ?_
      refine pw_top (y := V 3 j) rfl ?_
      refine pw_iret dX8_told_64 rfl ?_
      exact ⟨by unfold toldF; rw [hb_5, if_pos rfl, cl_nI (by omega)]; simp_all, rfl⟩
    by_cases q_12_3 : what = 3
    · skip
      refine pw_tsIn (v := 3) (tgt := 65) dX8_told_12 q_12_3 (by decide) (by decide) rfl (by decide) ?_
      refine pw_aload_n dX8_told_65 rfl rfl ?_
      refine pw_iload_n dX8_told_66 rfl rfl ?_
      refine pw_cVi dX8_told_67 mv_X8_177 ckModel (T_X8_onOf hsj) rfl rfl (Nat.le_of_ble_eq_true rfl) (by decide) (fun x_67 m_67 h_67 => ?_)
      obtain ⟨rfl, rfl⟩ := h_67
      refine pw_iret dX8_told_70 rfl ?_
      exact ⟨by unfold toldF; rw [hb_5, if_pos rfl, cl_nI (by omega)]; simp_all, rfl⟩
    have zq_12_0 := lv_neT q_12_0 (a := 0) rfl
    have zq_12_1 := lv_neT q_12_1 (a := 1) rfl
    have zq_12_2 := lv_neT q_12_2 (a := 2) rfl
    have zq_12_3 := lv_neT q_12_3 (a := 3) rfl
    refine pw_tsOut (tgt := 71) dX8_told_12 (by omega) (by decide) ?_
    refine pw_bipush (v := (-7)) dX8_told_71 rfl ?_
    refine pw_iret dX8_told_73 rfl ?_
    exact ⟨by unfold toldF; rw [hb_5, if_pos rfl, cl_nI (by omega)]; simp_all, rfl⟩
  · skip
    have hb_5 := b2_0 c_5
    refine pw_bipush (v := (-5)) dX8_told_8 rfl ?_
    refine pw_iret dX8_told_10 rfl ?_
    exact ⟨by unfold toldF; rw [hb_5]; rfl, rfl⟩

set_option maxHeartbeats 4000000 in
set_option maxRecDepth 100000 in
theorem T_X8_plainOf {l : Launch} {Ω : SH} {said worn : Int32} {hd : Bool} {μ : PM} : CT l Ω yX8_plainOf cX8_plainOf 4 (some .int) 1 [.int said, .int worn, .int (b2 hd)] μ (QI fun x m => x = plainF said worn hd ∧ m = μ) := by
  refine CT.of rfl (Nat.le_of_ble_eq_true rfl) ?_
  show PW l Ω RX8 cX8_plainOf 4 (some .int) 1 _ 0 [(0, .int said), (1, .int worn), (2, .int (b2 hd))] [] μ
  refine pw_iload_n dX8_plainOf_0 rfl rfl ?_
  refine pw_iconst (v := 2) dX8_plainOf_1 rfl ?_
  refine pw_iload_n dX8_plainOf_2 rfl rfl ?_
  refine pw_imul dX8_plainOf_3 ?_
  refine pw_isub dX8_plainOf_4 ?_
  refine pw_istore_n (ls2 := [(3, _), (0, _), (1, _), (2, _)]) dX8_plainOf_5 rfl (by decide) rfl ?_
  refine pw_iload_n dX8_plainOf_6 rfl rfl ?_
  refine pw_if_eq (tgt := 16) dX8_plainOf_7 (by decide) (fun c_7 => ?_) (fun c_7 => ?_)
  · skip
    refine pw_iload_n dX8_plainOf_16 rfl rfl ?_
    refine pw_iret dX8_plainOf_17 rfl ?_
    exact ⟨by unfold plainF; cases hd <;> simp_all [b2, Int32.mul_comm], rfl⟩
  · skip
    refine pw_iload_n dX8_plainOf_10 rfl rfl ?_
    refine pw_iconst (v := 2) dX8_plainOf_11 rfl ?_
    refine pw_idiv dX8_plainOf_12 (by decide) ?_
    refine pw_goto (tgt := 17) dX8_plainOf_13 (by decide) ?_
    refine pw_iret dX8_plainOf_17 rfl ?_
    exact ⟨by unfold plainF; cases hd <;> simp_all [b2, Int32.mul_comm], rfl⟩

set_option maxHeartbeats 4000000 in
set_option maxRecDepth 100000 in
theorem T_X8_yieldsOf {l : Launch} {μ : PM} {B : BK} {V : VW} {nm sk st : Nat → Int32} {sn : Int32} {j h : Nat} (hL : okL μ B V) (hj : j < 5) (hh : h < 6) : CT l SM yX8_yieldsOf cX8_yieldsOf 8 (some .int) 4 [.ref 0, .int (nI j), .int (nI h)] (mm μ V nm sk st sn) (QI fun x m => x = yF B V j h ∧ ∃ nm2 sk2, m = mm μ (V) nm2 sk2 st sn) := by
  refine CT.of rfl (Nat.le_of_ble_eq_true rfl) ?_
  show PW l SM RX8 cX8_yieldsOf 8 (some .int) 4 _ 0 [(0, .ref 0), (1, .int (nI j)), (2, .int (nI h))] [] (mm μ V nm sk st sn)
  refine pw_aload_n dX8_yieldsOf_0 rfl rfl ?_
  refine pw_iconst (v := 0) dX8_yieldsOf_1 rfl ?_
  refine pw_aload_n dX8_yieldsOf_2 rfl rfl ?_
  refine pw_getR dX8_yieldsOf_3 fa_X8_16 rfl ?_
  refine pw_iload_n dX8_yieldsOf_6 rfl rfl ?_
  refine pw_iald (j := j) dX8_yieldsOf_7 rfl rfl hj ?_
  refine pw_top (y := V 3 j) rfl ?_
  refine pw_iload_n dX8_yieldsOf_8 rfl rfl ?_
  refine pw_aload_n dX8_yieldsOf_9 rfl rfl ?_
  refine pw_getR dX8_yieldsOf_10 fa_X8_13 rfl ?_
  refine pw_iload_n dX8_yieldsOf_13 rfl rfl ?_
  refine pw_iald (j := j) dX8_yieldsOf_14 rfl rfl hj ?_
  refine pw_top (y := V 2 j) rfl ?_
  refine pw_cVi dX8_yieldsOf_15 mv_X8_170 ckModel (T_X8_asksOf (p := 0) (h := h) hL (by decide) hh) rfl rfl (Nat.le_of_ble_eq_true rfl) (by decide) (fun x_15 m_15 h_15 => ?_)
  obtain ⟨rfl, nm1, sk1, rfl⟩ := h_15
  refine pw_istore_n (ls2 := [(3, _), (0, _), (1, _), (2, _)]) dX8_yieldsOf_18 rfl (by decide) rfl ?_
  refine pw_aload_n dX8_yieldsOf_19 rfl rfl ?_
  refine pw_getR dX8_yieldsOf_20 fa_X8_16 rfl ?_
  refine pw_iload_n dX8_yieldsOf_23 rfl rfl ?_
  refine pw_iald (j := j) dX8_yieldsOf_24 rfl rfl hj ?_
  refine pw_top (y := V 3 j) rfl ?_
  refine pw_istore (ls2 := [(4, _), (3, _), (0, _), (1, _), (2, _)]) dX8_yieldsOf_25 (by decide) rfl ?_
  refine pw_aload_n dX8_yieldsOf_27 rfl rfl ?_
  refine pw_getR dX8_yieldsOf_28 fa_X8_13 rfl ?_
  refine pw_iload_n dX8_yieldsOf_31 rfl rfl ?_
  refine pw_iald (j := j) dX8_yieldsOf_32 rfl rfl hj ?_
  refine pw_top (y := V 2 j) rfl ?_
  refine pw_istore (ls2 := [(5, _), (4, _), (3, _), (0, _), (1, _), (2, _)]) dX8_yieldsOf_33 (by decide) rfl ?_
  refine pw_aload_n dX8_yieldsOf_35 rfl rfl ?_
  refine pw_getR dX8_yieldsOf_36 fa_X8_19 rfl ?_
  refine pw_iconst (v := 5) dX8_yieldsOf_39 rfl ?_
  refine pw_iload_n dX8_yieldsOf_40 rfl rfl ?_
  refine pw_imul dX8_yieldsOf_41 ?_
  refine pw_iconst (v := 3) dX8_yieldsOf_42 rfl ?_
  refine pw_iadd dX8_yieldsOf_43 ?_
  refine pw_iald (j := 5 * h + 3) dX8_yieldsOf_44 rfl (by show nI 5 * nI h + nI 3 = _; rw [pk_mul, nI_add]) (by omega) ?_
  refine pw_top (y := V 7 h) (hl_at (by decide)) ?_
  refine pw_iload_n dX8_yieldsOf_45 rfl rfl ?_
  refine pw_ishr dX8_yieldsOf_46 ?_
  refine pw_iconst (v := 1) dX8_yieldsOf_47 rfl ?_
  refine pw_iand dX8_yieldsOf_48 ?_
  refine pw_iconst (v := 1) dX8_yieldsOf_49 rfl ?_
  refine pw_icmp_ne (tgt := 57) dX8_yieldsOf_50 (by decide) (fun c_50 => ?_) (fun c_50 => ?_)
  · skip
    have hbt : bitF (V 7 h) j = false := bit_f c_50
    refine pw_iconst (v := 0) dX8_yieldsOf_57 rfl ?_
    refine pw_istore (ls2 := [(6, _), (5, _), (4, _), (3, _), (0, _), (1, _), (2, _)]) dX8_yieldsOf_58 (by decide) rfl ?_
    refine pw_iload_n dX8_yieldsOf_60 rfl rfl ?_
    refine pw_iload dX8_yieldsOf_61 rfl ?_
    refine pw_iload dX8_yieldsOf_63 rfl ?_
    refine pw_top (y := b2 (bitF (V 7 h) j)) (by rw [hbt]; rfl) ?_
    refine pw_cSi dX8_yieldsOf_65 ms_X8_186 (T_X8_plainOf (hd := bitF (V 7 h) j)) rfl rfl (Nat.le_of_ble_eq_true rfl) (by decide) (fun x_65 m_65 h_65 => ?_)
    obtain ⟨rfl, rfl⟩ := h_65
    refine pw_istore (ls2 := [(7, _), (6, _), (5, _), (4, _), (3, _), (0, _), (1, _), (2, _)]) dX8_yieldsOf_68 (by decide) rfl ?_
    refine pw_aload_n dX8_yieldsOf_70 rfl rfl ?_
    refine pw_getR dX8_yieldsOf_71 fa_X8_7 rfl ?_
    refine pw_iload_n dX8_yieldsOf_74 rfl rfl ?_
    refine pw_iald (j := j) dX8_yieldsOf_75 rfl rfl hj ?_
    refine pw_top (y := V 1 j) rfl ?_
    by_cases q_76_0 : V 1 j = 1
    · skip
      refine pw_tsIn (v := 1) (tgt := 112) dX8_yieldsOf_76 q_76_0 (by decide) (by decide) rfl (by decide) ?_
      refine pw_iload dX8_yieldsOf_112 rfl ?_
      refine pw_iconst (v := 2) dX8_yieldsOf_114 rfl ?_
      refine pw_idiv dX8_yieldsOf_115 (by decide) ?_
      refine pw_iload dX8_yieldsOf_116 rfl ?_
      refine pw_iadd dX8_yieldsOf_118 ?_
      refine pw_istore (ls2 := [(7, _), (6, _), (5, _), (4, _), (3, _), (0, _), (1, _), (2, _)]) dX8_yieldsOf_119 (by decide) rfl ?_
      refine pw_goto (tgt := 218) dX8_yieldsOf_121 (by decide) ?_
      refine pw_iload dX8_yieldsOf_218 rfl ?_
      refine pw_iconst (v := 0) dX8_yieldsOf_220 rfl ?_
      refine pw_bipush (v := 99) dX8_yieldsOf_221 rfl ?_
      refine pw_cSi dX8_yieldsOf_223 ms_X8_164 T_X8_within rfl rfl (Nat.le_of_ble_eq_true rfl) (by decide) (fun x_223 m_223 h_223 => ?_)
      obtain ⟨rfl, rfl⟩ := h_223
      refine pw_iret dX8_yieldsOf_226 rfl ?_
      exact ⟨by unfold yF kindF; simp_all [Int32.mul_comm, Int32.not_lt], _, _, rfl⟩
    by_cases q_76_1 : V 1 j = 2
    · skip
      refine pw_tsIn (v := 2) (tgt := 124) dX8_yieldsOf_76 q_76_1 (by decide) (by decide) rfl (by decide) ?_
      refine pw_iload dX8_yieldsOf_124 rfl ?_
      refine pw_iconst (v := 2) dX8_yieldsOf_126 rfl ?_
      refine pw_iload dX8_yieldsOf_127 rfl ?_
      refine pw_imul dX8_yieldsOf_129 ?_
      refine pw_iadd dX8_yieldsOf_130 ?_
      refine pw_istore (ls2 := [(7, _), (6, _), (5, _), (4, _), (3, _), (0, _), (1, _), (2, _)]) dX8_yieldsOf_131 (by decide) rfl ?_
      refine pw_goto (tgt := 218) dX8_yieldsOf_133 (by decide) ?_
      refine pw_iload dX8_yieldsOf_218 rfl ?_
      refine pw_iconst (v := 0) dX8_yieldsOf_220 rfl ?_
      refine pw_bipush (v := 99) dX8_yieldsOf_221 rfl ?_
      refine pw_cSi dX8_yieldsOf_223 ms_X8_164 T_X8_within rfl rfl (Nat.le_of_ble_eq_true rfl) (by decide) (fun x_223 m_223 h_223 => ?_)
      obtain ⟨rfl, rfl⟩ := h_223
      refine pw_iret dX8_yieldsOf_226 rfl ?_
      exact ⟨by unfold yF kindF; simp_all [Int32.mul_comm, Int32.not_lt], _, _, rfl⟩
    by_cases q_76_2 : V 1 j = 3
    · skip
      refine pw_tsIn (v := 3) (tgt := 136) dX8_yieldsOf_76 q_76_2 (by decide) (by decide) rfl (by decide) ?_
      refine pw_iload_n dX8_yieldsOf_136 rfl rfl ?_
      refine pw_iload dX8_yieldsOf_137 rfl ?_
      refine pw_iconst (v := 0) dX8_yieldsOf_139 rfl ?_
      refine pw_cSi dX8_yieldsOf_140 ms_X8_186 (T_X8_plainOf (hd := false)) rfl rfl (Nat.le_of_ble_eq_true rfl) (by decide) (fun x_140 m_140 h_140 => ?_)
      obtain ⟨rfl, rfl⟩ := h_140
      refine pw_iconst (v := 2) dX8_yieldsOf_143 rfl ?_
      refine pw_idiv dX8_yieldsOf_144 (by decide) ?_
      refine pw_iload dX8_yieldsOf_145 rfl ?_
      refine pw_iadd dX8_yieldsOf_147 ?_
      refine pw_iload dX8_yieldsOf_148 rfl ?_
      refine pw_if_eq (tgt := 157) dX8_yieldsOf_150 (by decide) (fun c_150 => ?_) (fun c_150 => ?_)
      · skip
        refine pw_iconst (v := 3) dX8_yieldsOf_157 rfl ?_
        refine pw_isub dX8_yieldsOf_158 ?_
        refine pw_istore (ls2 := [(7, _), (6, _), (5, _), (4, _), (3, _), (0, _), (1, _), (2, _)]) dX8_yieldsOf_159 (by decide) rfl ?_
        refine pw_goto (tgt := 218) dX8_yieldsOf_161 (by decide) ?_
        refine pw_iload dX8_yieldsOf_218 rfl ?_
        refine pw_iconst (v := 0) dX8_yieldsOf_220 rfl ?_
        refine pw_bipush (v := 99) dX8_yieldsOf_221 rfl ?_
        refine pw_cSi dX8_yieldsOf_223 ms_X8_164 T_X8_within rfl rfl (Nat.le_of_ble_eq_true rfl) (by decide) (fun x_223 m_223 h_223 => ?_)
        obtain ⟨rfl, rfl⟩ := h_223
        refine pw_iret dX8_yieldsOf_226 rfl ?_
        exact ⟨by unfold yF kindF; simp_all [Int32.mul_comm, Int32.not_lt], _, _, rfl⟩
      · skip
        refine pw_iconst (v := 0) dX8_yieldsOf_153 rfl ?_
        refine pw_goto (tgt := 158) dX8_yieldsOf_154 (by decide) ?_
        refine pw_isub dX8_yieldsOf_158 ?_
        refine pw_istore (ls2 := [(7, _), (6, _), (5, _), (4, _), (3, _), (0, _), (1, _), (2, _)]) dX8_yieldsOf_159 (by decide) rfl ?_
        refine pw_goto (tgt := 218) dX8_yieldsOf_161 (by decide) ?_
        refine pw_iload dX8_yieldsOf_218 rfl ?_
        refine pw_iconst (v := 0) dX8_yieldsOf_220 rfl ?_
        refine pw_bipush (v := 99) dX8_yieldsOf_221 rfl ?_
        refine pw_cSi dX8_yieldsOf_223 ms_X8_164 T_X8_within rfl rfl (Nat.le_of_ble_eq_true rfl) (by decide) (fun x_223 m_223 h_223 => ?_)
        obtain ⟨rfl, rfl⟩ := h_223
        refine pw_iret dX8_yieldsOf_226 rfl ?_
        exact ⟨by unfold yF kindF; simp_all [Int32.mul_comm, Int32.not_lt], _, _, rfl⟩
    by_cases q_76_3 : V 1 j = 4
    · skip
      refine pw_tsIn (v := 4) (tgt := 164) dX8_yieldsOf_76 q_76_3 (by decide) (by decide) rfl (by decide) ?_
      refine pw_iload dX8_yieldsOf_164 rfl ?_
      refine pw_bipush (v := 9) dX8_yieldsOf_166 rfl ?_
      refine pw_icmp_le (tgt := 193) dX8_yieldsOf_168 (by decide) (fun c_168 => ?_) (fun c_168 => ?_)
      · skip
        have d_168 := Int32.not_lt.mpr c_168
        refine pw_iload dX8_yieldsOf_193 rfl ?_
        refine pw_iconst (v := 2) dX8_yieldsOf_195 rfl ?_
        refine pw_iload dX8_yieldsOf_196 rfl ?_
        refine pw_imul dX8_yieldsOf_198 ?_
        refine pw_iadd dX8_yieldsOf_199 ?_
        refine pw_istore (ls2 := [(7, _), (6, _), (5, _), (4, _), (3, _), (0, _), (1, _), (2, _)]) dX8_yieldsOf_200 (by decide) rfl ?_
        refine pw_goto (tgt := 218) dX8_yieldsOf_202 (by decide) ?_
        refine pw_iload dX8_yieldsOf_218 rfl ?_
        refine pw_iconst (v := 0) dX8_yieldsOf_220 rfl ?_
        refine pw_bipush (v := 99) dX8_yieldsOf_221 rfl ?_
        refine pw_cSi dX8_yieldsOf_223 ms_X8_164 T_X8_within rfl rfl (Nat.le_of_ble_eq_true rfl) (by decide) (fun x_223 m_223 h_223 => ?_)
        obtain ⟨rfl, rfl⟩ := h_223
        refine pw_iret dX8_yieldsOf_226 rfl ?_
        exact ⟨by unfold yF kindF; rw [q_76_3, if_neg (by decide), if_neg (by decide), if_neg (by decide), if_pos rfl, if_neg d_168], _, _, rfl⟩
      · skip
        refine pw_iload_n dX8_yieldsOf_171 rfl rfl ?_
        refine pw_iload dX8_yieldsOf_172 rfl ?_
        refine pw_bipush (v := 9) dX8_yieldsOf_174 rfl ?_
        refine pw_isub dX8_yieldsOf_176 ?_
        refine pw_iload dX8_yieldsOf_177 rfl ?_
        refine pw_top (y := b2 (bitF (V 7 h) j)) (by rw [hbt]; rfl) ?_
        refine pw_cSi dX8_yieldsOf_179 ms_X8_186 (T_X8_plainOf (hd := bitF (V 7 h) j)) rfl rfl (Nat.le_of_ble_eq_true rfl) (by decide) (fun x_179 m_179 h_179 => ?_)
        obtain ⟨rfl, rfl⟩ := h_179
        refine pw_iconst (v := 2) dX8_yieldsOf_182 rfl ?_
        refine pw_iload dX8_yieldsOf_183 rfl ?_
        refine pw_imul dX8_yieldsOf_185 ?_
        refine pw_iadd dX8_yieldsOf_186 ?_
        refine pw_bipush (v := 10) dX8_yieldsOf_187 rfl ?_
        refine pw_iadd dX8_yieldsOf_189 ?_
        refine pw_goto (tgt := 200) dX8_yieldsOf_190 (by decide) ?_
        refine pw_istore (ls2 := [(7, _), (6, _), (5, _), (4, _), (3, _), (0, _), (1, _), (2, _)]) dX8_yieldsOf_200 (by decide) rfl ?_
        refine pw_goto (tgt := 218) dX8_yieldsOf_202 (by decide) ?_
        refine pw_iload dX8_yieldsOf_218 rfl ?_
        refine pw_iconst (v := 0) dX8_yieldsOf_220 rfl ?_
        refine pw_bipush (v := 99) dX8_yieldsOf_221 rfl ?_
        refine pw_cSi dX8_yieldsOf_223 ms_X8_164 T_X8_within rfl rfl (Nat.le_of_ble_eq_true rfl) (by decide) (fun x_223 m_223 h_223 => ?_)
        obtain ⟨rfl, rfl⟩ := h_223
        refine pw_iret dX8_yieldsOf_226 rfl ?_
        exact ⟨by unfold yF kindF; simp_all [Int32.mul_comm, Int32.not_lt], _, _, rfl⟩
    by_cases q_76_4 : V 1 j = 5
    · skip
      refine pw_tsIn (v := 5) (tgt := 205) dX8_yieldsOf_76 q_76_4 (by decide) (by decide) rfl (by decide) ?_
      refine pw_iload dX8_yieldsOf_205 rfl ?_
      refine pw_bipush (v := 9) dX8_yieldsOf_207 rfl ?_
      refine pw_imul dX8_yieldsOf_209 ?_
      refine pw_bipush (v := 10) dX8_yieldsOf_210 rfl ?_
      refine pw_idiv dX8_yieldsOf_212 (by decide) ?_
      refine pw_istore (ls2 := [(7, _), (6, _), (5, _), (4, _), (3, _), (0, _), (1, _), (2, _)]) dX8_yieldsOf_213 (by decide) rfl ?_
      refine pw_goto (tgt := 218) dX8_yieldsOf_215 (by decide) ?_
      refine pw_iload dX8_yieldsOf_218 rfl ?_
      refine pw_iconst (v := 0) dX8_yieldsOf_220 rfl ?_
      refine pw_bipush (v := 99) dX8_yieldsOf_221 rfl ?_
      refine pw_cSi dX8_yieldsOf_223 ms_X8_164 T_X8_within rfl rfl (Nat.le_of_ble_eq_true rfl) (by decide) (fun x_223 m_223 h_223 => ?_)
      obtain ⟨rfl, rfl⟩ := h_223
      refine pw_iret dX8_yieldsOf_226 rfl ?_
      exact ⟨by unfold yF kindF; simp_all [Int32.mul_comm, Int32.not_lt], _, _, rfl⟩
    have zq_76_0 := lv_neT q_76_0 (a := 1) rfl
    have zq_76_1 := lv_neT q_76_1 (a := 2) rfl
    have zq_76_2 := lv_neT q_76_2 (a := 3) rfl
    have zq_76_3 := lv_neT q_76_3 (a := 4) rfl
    have zq_76_4 := lv_neT q_76_4 (a := 5) rfl
    refine pw_tsOut (tgt := 218) dX8_yieldsOf_76 (by omega) (by decide) ?_
    refine pw_iload dX8_yieldsOf_218 rfl ?_
    refine pw_iconst (v := 0) dX8_yieldsOf_220 rfl ?_
    refine pw_bipush (v := 99) dX8_yieldsOf_221 rfl ?_
    refine pw_cSi dX8_yieldsOf_223 ms_X8_164 T_X8_within rfl rfl (Nat.le_of_ble_eq_true rfl) (by decide) (fun x_223 m_223 h_223 => ?_)
    obtain ⟨rfl, rfl⟩ := h_223
    refine pw_iret dX8_yieldsOf_226 rfl ?_
    exact ⟨by unfold yF kindF; simp_all [Int32.mul_comm, Int32.not_lt], _, _, rfl⟩
  · skip
    have hbt : bitF (V 7 h) j = true := bit_t c_50
    refine pw_iconst (v := 1) dX8_yieldsOf_53 rfl ?_
    refine pw_goto (tgt := 58) dX8_yieldsOf_54 (by decide) ?_
    refine pw_istore (ls2 := [(6, _), (5, _), (4, _), (3, _), (0, _), (1, _), (2, _)]) dX8_yieldsOf_58 (by decide) rfl ?_
    refine pw_iload_n dX8_yieldsOf_60 rfl rfl ?_
    refine pw_iload dX8_yieldsOf_61 rfl ?_
    refine pw_iload dX8_yieldsOf_63 rfl ?_
    refine pw_top (y := b2 (bitF (V 7 h) j)) (by rw [hbt]; rfl) ?_
    refine pw_cSi dX8_yieldsOf_65 ms_X8_186 (T_X8_plainOf (hd := bitF (V 7 h) j)) rfl rfl (Nat.le_of_ble_eq_true rfl) (by decide) (fun x_65 m_65 h_65 => ?_)
    obtain ⟨rfl, rfl⟩ := h_65
    refine pw_istore (ls2 := [(7, _), (6, _), (5, _), (4, _), (3, _), (0, _), (1, _), (2, _)]) dX8_yieldsOf_68 (by decide) rfl ?_
    refine pw_aload_n dX8_yieldsOf_70 rfl rfl ?_
    refine pw_getR dX8_yieldsOf_71 fa_X8_7 rfl ?_
    refine pw_iload_n dX8_yieldsOf_74 rfl rfl ?_
    refine pw_iald (j := j) dX8_yieldsOf_75 rfl rfl hj ?_
    refine pw_top (y := V 1 j) rfl ?_
    by_cases q_76_0 : V 1 j = 1
    · skip
      refine pw_tsIn (v := 1) (tgt := 112) dX8_yieldsOf_76 q_76_0 (by decide) (by decide) rfl (by decide) ?_
      refine pw_iload dX8_yieldsOf_112 rfl ?_
      refine pw_iconst (v := 2) dX8_yieldsOf_114 rfl ?_
      refine pw_idiv dX8_yieldsOf_115 (by decide) ?_
      refine pw_iload dX8_yieldsOf_116 rfl ?_
      refine pw_iadd dX8_yieldsOf_118 ?_
      refine pw_istore (ls2 := [(7, _), (6, _), (5, _), (4, _), (3, _), (0, _), (1, _), (2, _)]) dX8_yieldsOf_119 (by decide) rfl ?_
      refine pw_goto (tgt := 218) dX8_yieldsOf_121 (by decide) ?_
      refine pw_iload dX8_yieldsOf_218 rfl ?_
      refine pw_iconst (v := 0) dX8_yieldsOf_220 rfl ?_
      refine pw_bipush (v := 99) dX8_yieldsOf_221 rfl ?_
      refine pw_cSi dX8_yieldsOf_223 ms_X8_164 T_X8_within rfl rfl (Nat.le_of_ble_eq_true rfl) (by decide) (fun x_223 m_223 h_223 => ?_)
      obtain ⟨rfl, rfl⟩ := h_223
      refine pw_iret dX8_yieldsOf_226 rfl ?_
      exact ⟨by unfold yF kindF; simp_all [Int32.mul_comm, Int32.not_lt], _, _, rfl⟩
    by_cases q_76_1 : V 1 j = 2
    · skip
      refine pw_tsIn (v := 2) (tgt := 124) dX8_yieldsOf_76 q_76_1 (by decide) (by decide) rfl (by decide) ?_
      refine pw_iload dX8_yieldsOf_124 rfl ?_
      refine pw_iconst (v := 2) dX8_yieldsOf_126 rfl ?_
      refine pw_iload dX8_yieldsOf_127 rfl ?_
      refine pw_imul dX8_yieldsOf_129 ?_
      refine pw_iadd dX8_yieldsOf_130 ?_
      refine pw_istore (ls2 := [(7, _), (6, _), (5, _), (4, _), (3, _), (0, _), (1, _), (2, _)]) dX8_yieldsOf_131 (by decide) rfl ?_
      refine pw_goto (tgt := 218) dX8_yieldsOf_133 (by decide) ?_
      refine pw_iload dX8_yieldsOf_218 rfl ?_
      refine pw_iconst (v := 0) dX8_yieldsOf_220 rfl ?_
      refine pw_bipush (v := 99) dX8_yieldsOf_221 rfl ?_
      refine pw_cSi dX8_yieldsOf_223 ms_X8_164 T_X8_within rfl rfl (Nat.le_of_ble_eq_true rfl) (by decide) (fun x_223 m_223 h_223 => ?_)
      obtain ⟨rfl, rfl⟩ := h_223
      refine pw_iret dX8_yieldsOf_226 rfl ?_
      exact ⟨by unfold yF kindF; simp_all [Int32.mul_comm, Int32.not_lt], _, _, rfl⟩
    by_cases q_76_2 : V 1 j = 3
    · skip
      refine pw_tsIn (v := 3) (tgt := 136) dX8_yieldsOf_76 q_76_2 (by decide) (by decide) rfl (by decide) ?_
      refine pw_iload_n dX8_yieldsOf_136 rfl rfl ?_
      refine pw_iload dX8_yieldsOf_137 rfl ?_
      refine pw_iconst (v := 0) dX8_yieldsOf_139 rfl ?_
      refine pw_cSi dX8_yieldsOf_140 ms_X8_186 (T_X8_plainOf (hd := false)) rfl rfl (Nat.le_of_ble_eq_true rfl) (by decide) (fun x_140 m_140 h_140 => ?_)
      obtain ⟨rfl, rfl⟩ := h_140
      refine pw_iconst (v := 2) dX8_yieldsOf_143 rfl ?_
      refine pw_idiv dX8_yieldsOf_144 (by decide) ?_
      refine pw_iload dX8_yieldsOf_145 rfl ?_
      refine pw_iadd dX8_yieldsOf_147 ?_
      refine pw_iload dX8_yieldsOf_148 rfl ?_
      refine pw_if_eq (tgt := 157) dX8_yieldsOf_150 (by decide) (fun c_150 => ?_) (fun c_150 => ?_)
      · skip
        refine pw_iconst (v := 3) dX8_yieldsOf_157 rfl ?_
        refine pw_isub dX8_yieldsOf_158 ?_
        refine pw_istore (ls2 := [(7, _), (6, _), (5, _), (4, _), (3, _), (0, _), (1, _), (2, _)]) dX8_yieldsOf_159 (by decide) rfl ?_
        refine pw_goto (tgt := 218) dX8_yieldsOf_161 (by decide) ?_
        refine pw_iload dX8_yieldsOf_218 rfl ?_
        refine pw_iconst (v := 0) dX8_yieldsOf_220 rfl ?_
        refine pw_bipush (v := 99) dX8_yieldsOf_221 rfl ?_
        refine pw_cSi dX8_yieldsOf_223 ms_X8_164 T_X8_within rfl rfl (Nat.le_of_ble_eq_true rfl) (by decide) (fun x_223 m_223 h_223 => ?_)
        obtain ⟨rfl, rfl⟩ := h_223
        refine pw_iret dX8_yieldsOf_226 rfl ?_
        exact ⟨by unfold yF kindF; simp_all [Int32.mul_comm, Int32.not_lt], _, _, rfl⟩
      · skip
        refine pw_iconst (v := 0) dX8_yieldsOf_153 rfl ?_
        refine pw_goto (tgt := 158) dX8_yieldsOf_154 (by decide) ?_
        refine pw_isub dX8_yieldsOf_158 ?_
        refine pw_istore (ls2 := [(7, _), (6, _), (5, _), (4, _), (3, _), (0, _), (1, _), (2, _)]) dX8_yieldsOf_159 (by decide) rfl ?_
        refine pw_goto (tgt := 218) dX8_yieldsOf_161 (by decide) ?_
        refine pw_iload dX8_yieldsOf_218 rfl ?_
        refine pw_iconst (v := 0) dX8_yieldsOf_220 rfl ?_
        refine pw_bipush (v := 99) dX8_yieldsOf_221 rfl ?_
        refine pw_cSi dX8_yieldsOf_223 ms_X8_164 T_X8_within rfl rfl (Nat.le_of_ble_eq_true rfl) (by decide) (fun x_223 m_223 h_223 => ?_)
        obtain ⟨rfl, rfl⟩ := h_223
        refine pw_iret dX8_yieldsOf_226 rfl ?_
        exact ⟨by unfold yF kindF; simp_all [Int32.mul_comm, Int32.not_lt], _, _, rfl⟩
    by_cases q_76_3 : V 1 j = 4
    · skip
      refine pw_tsIn (v := 4) (tgt := 164) dX8_yieldsOf_76 q_76_3 (by decide) (by decide) rfl (by decide) ?_
      refine pw_iload dX8_yieldsOf_164 rfl ?_
      refine pw_bipush (v := 9) dX8_yieldsOf_166 rfl ?_
      refine pw_icmp_le (tgt := 193) dX8_yieldsOf_168 (by decide) (fun c_168 => ?_) (fun c_168 => ?_)
      · skip
        have d_168 := Int32.not_lt.mpr c_168
        refine pw_iload dX8_yieldsOf_193 rfl ?_
        refine pw_iconst (v := 2) dX8_yieldsOf_195 rfl ?_
        refine pw_iload dX8_yieldsOf_196 rfl ?_
        refine pw_imul dX8_yieldsOf_198 ?_
        refine pw_iadd dX8_yieldsOf_199 ?_
        refine pw_istore (ls2 := [(7, _), (6, _), (5, _), (4, _), (3, _), (0, _), (1, _), (2, _)]) dX8_yieldsOf_200 (by decide) rfl ?_
        refine pw_goto (tgt := 218) dX8_yieldsOf_202 (by decide) ?_
        refine pw_iload dX8_yieldsOf_218 rfl ?_
        refine pw_iconst (v := 0) dX8_yieldsOf_220 rfl ?_
        refine pw_bipush (v := 99) dX8_yieldsOf_221 rfl ?_
        refine pw_cSi dX8_yieldsOf_223 ms_X8_164 T_X8_within rfl rfl (Nat.le_of_ble_eq_true rfl) (by decide) (fun x_223 m_223 h_223 => ?_)
        obtain ⟨rfl, rfl⟩ := h_223
        refine pw_iret dX8_yieldsOf_226 rfl ?_
        exact ⟨by unfold yF kindF; rw [q_76_3, if_neg (by decide), if_neg (by decide), if_neg (by decide), if_pos rfl, if_neg d_168], _, _, rfl⟩
      · skip
        refine pw_iload_n dX8_yieldsOf_171 rfl rfl ?_
        refine pw_iload dX8_yieldsOf_172 rfl ?_
        refine pw_bipush (v := 9) dX8_yieldsOf_174 rfl ?_
        refine pw_isub dX8_yieldsOf_176 ?_
        refine pw_iload dX8_yieldsOf_177 rfl ?_
        refine pw_top (y := b2 (bitF (V 7 h) j)) (by rw [hbt]; rfl) ?_
        refine pw_cSi dX8_yieldsOf_179 ms_X8_186 (T_X8_plainOf (hd := bitF (V 7 h) j)) rfl rfl (Nat.le_of_ble_eq_true rfl) (by decide) (fun x_179 m_179 h_179 => ?_)
        obtain ⟨rfl, rfl⟩ := h_179
        refine pw_iconst (v := 2) dX8_yieldsOf_182 rfl ?_
        refine pw_iload dX8_yieldsOf_183 rfl ?_
        refine pw_imul dX8_yieldsOf_185 ?_
        refine pw_iadd dX8_yieldsOf_186 ?_
        refine pw_bipush (v := 10) dX8_yieldsOf_187 rfl ?_
        refine pw_iadd dX8_yieldsOf_189 ?_
        refine pw_goto (tgt := 200) dX8_yieldsOf_190 (by decide) ?_
        refine pw_istore (ls2 := [(7, _), (6, _), (5, _), (4, _), (3, _), (0, _), (1, _), (2, _)]) dX8_yieldsOf_200 (by decide) rfl ?_
        refine pw_goto (tgt := 218) dX8_yieldsOf_202 (by decide) ?_
        refine pw_iload dX8_yieldsOf_218 rfl ?_
        refine pw_iconst (v := 0) dX8_yieldsOf_220 rfl ?_
        refine pw_bipush (v := 99) dX8_yieldsOf_221 rfl ?_
        refine pw_cSi dX8_yieldsOf_223 ms_X8_164 T_X8_within rfl rfl (Nat.le_of_ble_eq_true rfl) (by decide) (fun x_223 m_223 h_223 => ?_)
        obtain ⟨rfl, rfl⟩ := h_223
        refine pw_iret dX8_yieldsOf_226 rfl ?_
        exact ⟨by unfold yF kindF; simp_all [Int32.mul_comm, Int32.not_lt], _, _, rfl⟩
    by_cases q_76_4 : V 1 j = 5
    · skip
      refine pw_tsIn (v := 5) (tgt := 205) dX8_yieldsOf_76 q_76_4 (by decide) (by decide) rfl (by decide) ?_
      refine pw_iload dX8_yieldsOf_205 rfl ?_
      refine pw_bipush (v := 9) dX8_yieldsOf_207 rfl ?_
      refine pw_imul dX8_yieldsOf_209 ?_
      refine pw_bipush (v := 10) dX8_yieldsOf_210 rfl ?_
      refine pw_idiv dX8_yieldsOf_212 (by decide) ?_
      refine pw_istore (ls2 := [(7, _), (6, _), (5, _), (4, _), (3, _), (0, _), (1, _), (2, _)]) dX8_yieldsOf_213 (by decide) rfl ?_
      refine pw_goto (tgt := 218) dX8_yieldsOf_215 (by decide) ?_
      refine pw_iload dX8_yieldsOf_218 rfl ?_
      refine pw_iconst (v := 0) dX8_yieldsOf_220 rfl ?_
      refine pw_bipush (v := 99) dX8_yieldsOf_221 rfl ?_
      refine pw_cSi dX8_yieldsOf_223 ms_X8_164 T_X8_within rfl rfl (Nat.le_of_ble_eq_true rfl) (by decide) (fun x_223 m_223 h_223 => ?_)
      obtain ⟨rfl, rfl⟩ := h_223
      refine pw_iret dX8_yieldsOf_226 rfl ?_
      exact ⟨by unfold yF kindF; simp_all [Int32.mul_comm, Int32.not_lt], _, _, rfl⟩
    have zq_76_0 := lv_neT q_76_0 (a := 1) rfl
    have zq_76_1 := lv_neT q_76_1 (a := 2) rfl
    have zq_76_2 := lv_neT q_76_2 (a := 3) rfl
    have zq_76_3 := lv_neT q_76_3 (a := 4) rfl
    have zq_76_4 := lv_neT q_76_4 (a := 5) rfl
    refine pw_tsOut (tgt := 218) dX8_yieldsOf_76 (by omega) (by decide) ?_
    refine pw_iload dX8_yieldsOf_218 rfl ?_
    refine pw_iconst (v := 0) dX8_yieldsOf_220 rfl ?_
    refine pw_bipush (v := 99) dX8_yieldsOf_221 rfl ?_
    refine pw_cSi dX8_yieldsOf_223 ms_X8_164 T_X8_within rfl rfl (Nat.le_of_ble_eq_true rfl) (by decide) (fun x_223 m_223 h_223 => ?_)
    obtain ⟨rfl, rfl⟩ := h_223
    refine pw_iret dX8_yieldsOf_226 rfl ?_
    exact ⟨by unfold yF kindF; simp_all [Int32.mul_comm, Int32.not_lt], _, _, rfl⟩

