def RC (l : Launch) (μ : PM) (nt : Nat) (y : MethodName) (cc : ByteArray) (mL k op : Nat) (f : RS → Bool × RS) : Prop :=
  ∀ ⦃s : RS⦄ ⦃co : Nat → Int32⦄, RI nt s → rowL co s.2 → CT l SC y cc mL (some .boolean) k [.ref 6, .int (nI op)] (pM μ (nI s.1) (nI s.2.length) co) (QI fun x m => x = b2 (f s).1 ∧ ∃ co2, m = pM μ (nI (f s).2.1) (nI (f s).2.2.length) co2 ∧ rowL co2 (f s).2.2 ∧ RI nt (f s).2)
theorem pair_f {p : Bool × RS} (h : p.1 = false) : p = (false, p.2) := Prod.ext h rfl
theorem pair_t {p : Bool × RS} (h : p.1 = true) : p = (true, p.2) := Prod.ext h rfl
set_option maxHeartbeats 4000000 in
set_option maxRecDepth 100000 in
theorem X2_term_of {l : Launch} {μ : PM} {nt op : Nat} {f : RS → Bool × RS} {k1 k2 : Nat} (ht : tokOK μ nt) (hk : 2 ≤ k1) (hk2 : k1 + 1 ≤ k2) (hop : op ≤ 5) (hsub : RC l μ nt yX2_one cX2_one 3 k1 op f) : RC l μ nt yX2_term cX2_term 3 k2 op (seqS (μ.1 8) 42 f (-18)) := by
  intro s co hs hc
  refine CT.of rfl (Nat.le_of_ble_eq_true rfl) ?_
  show PW l SC RX2 cX2_term 3 (some .boolean) (k2) _ 0 [(0, .ref 6), (1, .int (nI op))] [] (pM μ (nI s.1) (nI s.2.length) co)
  refine pw_aload_n dX2_term_0 rfl rfl ?_
  refine pw_iload_n dX2_term_1 rfl rfl ?_
  refine pw_cVi dX2_term_2 mv_X2_128 ckReader (hsub hs hc) rfl rfl (Nat.le_of_ble_eq_true rfl) (by omega) (fun x_2 m_2 h_2 => ?_)
  obtain ⟨rfl, co1, rfl, hc1, hs1⟩ := h_2
  refine pw_if_ne (tgt := 10) dX2_term_5 (by decide) (fun c_5 => ?_) (fun c_5 => ?_)
  · skip
    have hb := b2_n c_5
    refine pw_iconst (v := 0) dX2_term_10 rfl ?_
    refine pw_istore_n (ls2 := [(2, _), (0, _), (1, _)]) dX2_term_11 rfl (by decide) rfl ?_
    have L_12 : ∀ (fu_12 : Nat) (i : Nat) (q : RS) (coq : Nat → Int32), (i ≤ 160) → (RI nt q) → (rowL coq q.2) → (lpS (μ.1 8) 42 f (-18) (160 - i) q = seqS (μ.1 8) 42 f (-18) s) → 160 - i < fu_12 → PW l SC RX2 cX2_term 3 (some .boolean) (k2) (QI fun x m => x = b2 (seqS (μ.1 8) 42 f (-18) s).1 ∧ ∃ co2, m = pM μ (nI (seqS (μ.1 8) 42 f (-18) s).2.1) (nI (seqS (μ.1 8) 42 f (-18) s).2.2.length) co2 ∧ rowL co2 (seqS (μ.1 8) 42 f (-18) s).2.2 ∧ RI nt (seqS (μ.1 8) 42 f (-18) s).2) 12 [(0, .ref 6), (1, .int (nI op)), (2, .int (nI i))] [] (pM μ (nI q.1) (nI q.2.length) coq) := by
      intro fu_12
      induction fu_12 with
      | zero =>
        intro i q coq hi hq hcq hx hm_12
        exact absurd hm_12 (Nat.not_lt_zero _)
      | succ fu_12 ih_12 =>
        intro i q coq hi hq hcq hx hm_12
        refine pw_iload_n dX2_term_12 rfl rfl ?_
        refine pw_sipush (v := 160) dX2_term_13 rfl ?_
        refine pw_icmp_ge (tgt := 51) dX2_term_16 (by decide) (fun c_16 => ?_) (fun c_16 => ?_)
        · skip
          have hge := nI_geD (n := 160) (by decide) c_16
          refine pw_iconst (v := 1) dX2_term_51 rfl ?_
          refine pw_zret dX2_term_52 rfl (by simp) ?_
          rw [← hx, show 160 - i = 0 by omega]
          exact ⟨rfl, coq, rfl, hcq, hq⟩
        · skip
          have hlt := nI_ltD (n := 160) (by omega) c_16
          refine pw_aload_n dX2_term_19 rfl rfl ?_
          refine pw_bipush (v := 42) dX2_term_20 rfl ?_
          refine pw_cVi dX2_term_22 mv_X2_50 ckReader (T_X2_take (s := q) ht hq hcq) rfl rfl (Nat.le_of_ble_eq_true rfl) (by omega) (fun x_22 m_22 h_22 => ?_)
          obtain ⟨rfl, rfl⟩ := h_22
          refine pw_if_eq (tgt := 51) dX2_term_25 (by decide) (fun c_25 => ?_) (fun c_25 => ?_)
          · skip
            have hn := b2_0 c_25
            refine pw_iconst (v := 1) dX2_term_51 rfl ?_
            refine pw_zret dX2_term_52 rfl (by simp) ?_
            rw [← hx, show 160 - i = (160 - (i + 1)) + 1 by omega]
            have e : lpS (μ.1 8) 42 f (-18) ((160 - (i + 1)) + 1) q = (true, q) := by
              show (if _ then (if _ then _ else _) else _) = _
              rw [hn, if_neg (by decide)]
            rw [e]
            exact ⟨rfl, coq, by rw [hn]; rfl, hcq, hq⟩
          · skip
            have hn := b2_n c_25
            rw [hn, if_pos rfl]
            refine pw_aload_n dX2_term_28 rfl rfl ?_
            refine pw_iload_n dX2_term_29 rfl rfl ?_
            refine pw_cVi dX2_term_30 mv_X2_128 ckReader (hsub (s := tkS q) (RI_tk ht hq hn (by decide)) hcq) rfl rfl (Nat.le_of_ble_eq_true rfl) (by omega) (fun x_30 m_30 h_30 => ?_)
            obtain ⟨rfl, co3, rfl, hc3, hs3⟩ := h_30
            refine pw_if_ne (tgt := 38) dX2_term_33 (by decide) (fun c_33 => ?_) (fun c_33 => ?_)
            · skip
              have hb3 := b2_n c_33
              refine pw_aload_n dX2_term_38 rfl rfl ?_
              refine pw_bipush (v := (-18)) dX2_term_39 rfl ?_
              refine pw_cVi dX2_term_41 mv_X2_101 ckReader (T_X2_write (s := (f (tkS q)).2) hs3.2 hc3) rfl rfl (Nat.le_of_ble_eq_true rfl) (by omega) (fun x_41 m_41 h_41 => ?_)
              obtain ⟨rfl, co4, rfl, hc4⟩ := h_41
              refine pw_pop dX2_term_44 rfl ?_
              refine pw_iinc (ls2 := [(2, _), (0, _), (1, _)]) (v := nI (i + 1)) dX2_term_45 rfl (inc1 i) (by decide) rfl ?_
              refine pw_goto (tgt := 12) dX2_term_48 (by decide) ?_
              refine pw_sub [1, 2, 0] rfl ?_
              exact ih_12 (i + 1) (wrS ((-18)) (f (tkS q)).2) co4 hlt (RI_wr hs3) hc4 (by rw [← hx, show 160 - i = (160 - (i + 1)) + 1 by omega]; show _ = if _ then (if _ then _ else _) else _; rw [hn, if_pos rfl, hb3, if_pos rfl]) (by omega)
            · skip
              have hb3 := b2_0 c_33
              refine pw_iconst (v := 0) dX2_term_36 rfl ?_
              refine pw_zret dX2_term_37 rfl (by simp) ?_
              rw [← hx, show 160 - i = (160 - (i + 1)) + 1 by omega]
              have e : lpS (μ.1 8) 42 f (-18) ((160 - (i + 1)) + 1) q = (false, (f (tkS q)).2) := by
                show (if _ then (if _ then _ else _) else _) = _
                rw [hn, if_pos rfl, hb3, if_neg (by decide)]
              rw [e]
              exact ⟨rfl, co3, rfl, hc3, hs3⟩
    refine pw_sub [1, 2, 0] rfl ?_
    exact L_12 161 0 (f s).2 co1 (Nat.zero_le _) hs1 hc1 (by unfold seqS; rw [hb, if_pos rfl]) (by omega)
  · skip
    have hb := b2_0 c_5
    refine pw_iconst (v := 0) dX2_term_8 rfl ?_
    refine pw_zret dX2_term_9 rfl (by simp) ?_
    have e : seqS (μ.1 8) 42 f (-18) s = (false, (f s).2) := by unfold seqS; rw [hb, if_neg (by decide)]
    rw [e]
    exact ⟨rfl, co1, rfl, hc1, hs1⟩

set_option maxHeartbeats 4000000 in
set_option maxRecDepth 100000 in
theorem X2_both_of {l : Launch} {μ : PM} {nt op : Nat} {f : RS → Bool × RS} {k1 k2 : Nat} (ht : tokOK μ nt) (hk : 2 ≤ k1) (hk2 : k1 + 1 ≤ k2) (hop : op ≤ 5) (hsub : RC l μ nt yX2_denied cX2_denied 3 k1 op f) : RC l μ nt yX2_both cX2_both 3 k2 op (seqS (μ.1 8) 5 f (-13)) := by
  intro s co hs hc
  refine CT.of rfl (Nat.le_of_ble_eq_true rfl) ?_
  show PW l SC RX2 cX2_both 3 (some .boolean) (k2) _ 0 [(0, .ref 6), (1, .int (nI op))] [] (pM μ (nI s.1) (nI s.2.length) co)
  refine pw_aload_n dX2_both_0 rfl rfl ?_
  refine pw_iload_n dX2_both_1 rfl rfl ?_
  refine pw_cVi dX2_both_2 mv_X2_109 ckReader (hsub hs hc) rfl rfl (Nat.le_of_ble_eq_true rfl) (by omega) (fun x_2 m_2 h_2 => ?_)
  obtain ⟨rfl, co1, rfl, hc1, hs1⟩ := h_2
  refine pw_if_ne (tgt := 10) dX2_both_5 (by decide) (fun c_5 => ?_) (fun c_5 => ?_)
  · skip
    have hb := b2_n c_5
    refine pw_iconst (v := 0) dX2_both_10 rfl ?_
    refine pw_istore_n (ls2 := [(2, _), (0, _), (1, _)]) dX2_both_11 rfl (by decide) rfl ?_
    have L_12 : ∀ (fu_12 : Nat) (i : Nat) (q : RS) (coq : Nat → Int32), (i ≤ 160) → (RI nt q) → (rowL coq q.2) → (lpS (μ.1 8) 5 f (-13) (160 - i) q = seqS (μ.1 8) 5 f (-13) s) → 160 - i < fu_12 → PW l SC RX2 cX2_both 3 (some .boolean) (k2) (QI fun x m => x = b2 (seqS (μ.1 8) 5 f (-13) s).1 ∧ ∃ co2, m = pM μ (nI (seqS (μ.1 8) 5 f (-13) s).2.1) (nI (seqS (μ.1 8) 5 f (-13) s).2.2.length) co2 ∧ rowL co2 (seqS (μ.1 8) 5 f (-13) s).2.2 ∧ RI nt (seqS (μ.1 8) 5 f (-13) s).2) 12 [(0, .ref 6), (1, .int (nI op)), (2, .int (nI i))] [] (pM μ (nI q.1) (nI q.2.length) coq) := by
      intro fu_12
      induction fu_12 with
      | zero =>
        intro i q coq hi hq hcq hx hm_12
        exact absurd hm_12 (Nat.not_lt_zero _)
      | succ fu_12 ih_12 =>
        intro i q coq hi hq hcq hx hm_12
        refine pw_iload_n dX2_both_12 rfl rfl ?_
        refine pw_sipush (v := 160) dX2_both_13 rfl ?_
        refine pw_icmp_ge (tgt := 50) dX2_both_16 (by decide) (fun c_16 => ?_) (fun c_16 => ?_)
        · skip
          have hge := nI_geD (n := 160) (by decide) c_16
          refine pw_iconst (v := 1) dX2_both_50 rfl ?_
          refine pw_zret dX2_both_51 rfl (by simp) ?_
          rw [← hx, show 160 - i = 0 by omega]
          exact ⟨rfl, coq, rfl, hcq, hq⟩
        · skip
          have hlt := nI_ltD (n := 160) (by omega) c_16
          refine pw_aload_n dX2_both_19 rfl rfl ?_
          refine pw_iconst (v := 5) dX2_both_20 rfl ?_
          refine pw_cVi dX2_both_21 mv_X2_50 ckReader (T_X2_take (s := q) ht hq hcq) rfl rfl (Nat.le_of_ble_eq_true rfl) (by omega) (fun x_21 m_21 h_21 => ?_)
          obtain ⟨rfl, rfl⟩ := h_21
          refine pw_if_eq (tgt := 50) dX2_both_24 (by decide) (fun c_24 => ?_) (fun c_24 => ?_)
          · skip
            have hn := b2_0 c_24
            refine pw_iconst (v := 1) dX2_both_50 rfl ?_
            refine pw_zret dX2_both_51 rfl (by simp) ?_
            rw [← hx, show 160 - i = (160 - (i + 1)) + 1 by omega]
            have e : lpS (μ.1 8) 5 f (-13) ((160 - (i + 1)) + 1) q = (true, q) := by
              show (if _ then (if _ then _ else _) else _) = _
              rw [hn, if_neg (by decide)]
            rw [e]
            exact ⟨rfl, coq, by rw [hn]; rfl, hcq, hq⟩
          · skip
            have hn := b2_n c_24
            rw [hn, if_pos rfl]
            refine pw_aload_n dX2_both_27 rfl rfl ?_
            refine pw_iload_n dX2_both_28 rfl rfl ?_
            refine pw_cVi dX2_both_29 mv_X2_109 ckReader (hsub (s := tkS q) (RI_tk ht hq hn (by decide)) hcq) rfl rfl (Nat.le_of_ble_eq_true rfl) (by omega) (fun x_29 m_29 h_29 => ?_)
            obtain ⟨rfl, co3, rfl, hc3, hs3⟩ := h_29
            refine pw_if_ne (tgt := 37) dX2_both_32 (by decide) (fun c_32 => ?_) (fun c_32 => ?_)
            · skip
              have hb3 := b2_n c_32
              refine pw_aload_n dX2_both_37 rfl rfl ?_
              refine pw_bipush (v := (-13)) dX2_both_38 rfl ?_
              refine pw_cVi dX2_both_40 mv_X2_101 ckReader (T_X2_write (s := (f (tkS q)).2) hs3.2 hc3) rfl rfl (Nat.le_of_ble_eq_true rfl) (by omega) (fun x_40 m_40 h_40 => ?_)
              obtain ⟨rfl, co4, rfl, hc4⟩ := h_40
              refine pw_pop dX2_both_43 rfl ?_
              refine pw_iinc (ls2 := [(2, _), (0, _), (1, _)]) (v := nI (i + 1)) dX2_both_44 rfl (inc1 i) (by decide) rfl ?_
              refine pw_goto (tgt := 12) dX2_both_47 (by decide) ?_
              refine pw_sub [1, 2, 0] rfl ?_
              exact ih_12 (i + 1) (wrS ((-13)) (f (tkS q)).2) co4 hlt (RI_wr hs3) hc4 (by rw [← hx, show 160 - i = (160 - (i + 1)) + 1 by omega]; show _ = if _ then (if _ then _ else _) else _; rw [hn, if_pos rfl, hb3, if_pos rfl]) (by omega)
            · skip
              have hb3 := b2_0 c_32
              refine pw_iconst (v := 0) dX2_both_35 rfl ?_
              refine pw_zret dX2_both_36 rfl (by simp) ?_
              rw [← hx, show 160 - i = (160 - (i + 1)) + 1 by omega]
              have e : lpS (μ.1 8) 5 f (-13) ((160 - (i + 1)) + 1) q = (false, (f (tkS q)).2) := by
                show (if _ then (if _ then _ else _) else _) = _
                rw [hn, if_pos rfl, hb3, if_neg (by decide)]
              rw [e]
              exact ⟨rfl, co3, rfl, hc3, hs3⟩
    refine pw_sub [1, 2, 0] rfl ?_
    exact L_12 161 0 (f s).2 co1 (Nat.zero_le _) hs1 hc1 (by unfold seqS; rw [hb, if_pos rfl]) (by omega)
  · skip
    have hb := b2_0 c_5
    refine pw_iconst (v := 0) dX2_both_8 rfl ?_
    refine pw_zret dX2_both_9 rfl (by simp) ?_
    have e : seqS (μ.1 8) 5 f (-13) s = (false, (f s).2) := by unfold seqS; rw [hb, if_neg (by decide)]
    rw [e]
    exact ⟨rfl, co1, rfl, hc1, hs1⟩

set_option maxHeartbeats 4000000 in
set_option maxRecDepth 100000 in
theorem X2_either_of {l : Launch} {μ : PM} {nt op : Nat} {f : RS → Bool × RS} {k1 k2 : Nat} (ht : tokOK μ nt) (hk : 2 ≤ k1) (hk2 : k1 + 1 ≤ k2) (hop : op ≤ 5) (hsub : RC l μ nt yX2_both cX2_both 3 k1 op f) : RC l μ nt yX2_either cX2_either 3 k2 op (seqS (μ.1 8) 4 f (-12)) := by
  intro s co hs hc
  refine CT.of rfl (Nat.le_of_ble_eq_true rfl) ?_
  show PW l SC RX2 cX2_either 3 (some .boolean) (k2) _ 0 [(0, .ref 6), (1, .int (nI op))] [] (pM μ (nI s.1) (nI s.2.length) co)
  refine pw_aload_n dX2_either_0 rfl rfl ?_
  refine pw_iload_n dX2_either_1 rfl rfl ?_
  refine pw_cVi dX2_either_2 mv_X2_104 ckReader (hsub hs hc) rfl rfl (Nat.le_of_ble_eq_true rfl) (by omega) (fun x_2 m_2 h_2 => ?_)
  obtain ⟨rfl, co1, rfl, hc1, hs1⟩ := h_2
  refine pw_if_ne (tgt := 10) dX2_either_5 (by decide) (fun c_5 => ?_) (fun c_5 => ?_)
  · skip
    have hb := b2_n c_5
    refine pw_iconst (v := 0) dX2_either_10 rfl ?_
    refine pw_istore_n (ls2 := [(2, _), (0, _), (1, _)]) dX2_either_11 rfl (by decide) rfl ?_
    have L_12 : ∀ (fu_12 : Nat) (i : Nat) (q : RS) (coq : Nat → Int32), (i ≤ 160) → (RI nt q) → (rowL coq q.2) → (lpS (μ.1 8) 4 f (-12) (160 - i) q = seqS (μ.1 8) 4 f (-12) s) → 160 - i < fu_12 → PW l SC RX2 cX2_either 3 (some .boolean) (k2) (QI fun x m => x = b2 (seqS (μ.1 8) 4 f (-12) s).1 ∧ ∃ co2, m = pM μ (nI (seqS (μ.1 8) 4 f (-12) s).2.1) (nI (seqS (μ.1 8) 4 f (-12) s).2.2.length) co2 ∧ rowL co2 (seqS (μ.1 8) 4 f (-12) s).2.2 ∧ RI nt (seqS (μ.1 8) 4 f (-12) s).2) 12 [(0, .ref 6), (1, .int (nI op)), (2, .int (nI i))] [] (pM μ (nI q.1) (nI q.2.length) coq) := by
      intro fu_12
      induction fu_12 with
      | zero =>
        intro i q coq hi hq hcq hx hm_12
        exact absurd hm_12 (Nat.not_lt_zero _)
      | succ fu_12 ih_12 =>
        intro i q coq hi hq hcq hx hm_12
        refine pw_iload_n dX2_either_12 rfl rfl ?_
        refine pw_sipush (v := 160) dX2_either_13 rfl ?_
        refine pw_icmp_ge (tgt := 50) dX2_either_16 (by decide) (fun c_16 => ?_) (fun c_16 => ?_)
        · skip
          have hge := nI_geD (n := 160) (by decide) c_16
          refine pw_iconst (v := 1) dX2_either_50 rfl ?_
          refine pw_zret dX2_either_51 rfl (by simp) ?_
          rw [← hx, show 160 - i = 0 by omega]
          exact ⟨rfl, coq, rfl, hcq, hq⟩
        · skip
          have hlt := nI_ltD (n := 160) (by omega) c_16
          refine pw_aload_n dX2_either_19 rfl rfl ?_
          refine pw_iconst (v := 4) dX2_either_20 rfl ?_
          refine pw_cVi dX2_either_21 mv_X2_50 ckReader (T_X2_take (s := q) ht hq hcq) rfl rfl (Nat.le_of_ble_eq_true rfl) (by omega) (fun x_21 m_21 h_21 => ?_)
          obtain ⟨rfl, rfl⟩ := h_21
          refine pw_if_eq (tgt := 50) dX2_either_24 (by decide) (fun c_24 => ?_) (fun c_24 => ?_)
          · skip
            have hn := b2_0 c_24
            refine pw_iconst (v := 1) dX2_either_50 rfl ?_
            refine pw_zret dX2_either_51 rfl (by simp) ?_
            rw [← hx, show 160 - i = (160 - (i + 1)) + 1 by omega]
            have e : lpS (μ.1 8) 4 f (-12) ((160 - (i + 1)) + 1) q = (true, q) := by
              show (if _ then (if _ then _ else _) else _) = _
              rw [hn, if_neg (by decide)]
            rw [e]
            exact ⟨rfl, coq, by rw [hn]; rfl, hcq, hq⟩
          · skip
            have hn := b2_n c_24
            rw [hn, if_pos rfl]
            refine pw_aload_n dX2_either_27 rfl rfl ?_
            refine pw_iload_n dX2_either_28 rfl rfl ?_
            refine pw_cVi dX2_either_29 mv_X2_104 ckReader (hsub (s := tkS q) (RI_tk ht hq hn (by decide)) hcq) rfl rfl (Nat.le_of_ble_eq_true rfl) (by omega) (fun x_29 m_29 h_29 => ?_)
            obtain ⟨rfl, co3, rfl, hc3, hs3⟩ := h_29
            refine pw_if_ne (tgt := 37) dX2_either_32 (by decide) (fun c_32 => ?_) (fun c_32 => ?_)
            · skip
              have hb3 := b2_n c_32
              refine pw_aload_n dX2_either_37 rfl rfl ?_
              refine pw_bipush (v := (-12)) dX2_either_38 rfl ?_
              refine pw_cVi dX2_either_40 mv_X2_101 ckReader (T_X2_write (s := (f (tkS q)).2) hs3.2 hc3) rfl rfl (Nat.le_of_ble_eq_true rfl) (by omega) (fun x_40 m_40 h_40 => ?_)
              obtain ⟨rfl, co4, rfl, hc4⟩ := h_40
              refine pw_pop dX2_either_43 rfl ?_
              refine pw_iinc (ls2 := [(2, _), (0, _), (1, _)]) (v := nI (i + 1)) dX2_either_44 rfl (inc1 i) (by decide) rfl ?_
              refine pw_goto (tgt := 12) dX2_either_47 (by decide) ?_
              refine pw_sub [1, 2, 0] rfl ?_
              exact ih_12 (i + 1) (wrS ((-12)) (f (tkS q)).2) co4 hlt (RI_wr hs3) hc4 (by rw [← hx, show 160 - i = (160 - (i + 1)) + 1 by omega]; show _ = if _ then (if _ then _ else _) else _; rw [hn, if_pos rfl, hb3, if_pos rfl]) (by omega)
            · skip
              have hb3 := b2_0 c_32
              refine pw_iconst (v := 0) dX2_either_35 rfl ?_
              refine pw_zret dX2_either_36 rfl (by simp) ?_
              rw [← hx, show 160 - i = (160 - (i + 1)) + 1 by omega]
              have e : lpS (μ.1 8) 4 f (-12) ((160 - (i + 1)) + 1) q = (false, (f (tkS q)).2) := by
                show (if _ then (if _ then _ else _) else _) = _
                rw [hn, if_pos rfl, hb3, if_neg (by decide)]
              rw [e]
              exact ⟨rfl, co3, rfl, hc3, hs3⟩
    refine pw_sub [1, 2, 0] rfl ?_
    exact L_12 161 0 (f s).2 co1 (Nat.zero_le _) hs1 hc1 (by unfold seqS; rw [hb, if_pos rfl]) (by omega)
  · skip
    have hb := b2_0 c_5
    refine pw_iconst (v := 0) dX2_either_8 rfl ?_
    refine pw_zret dX2_either_9 rfl (by simp) ?_
    have e : seqS (μ.1 8) 4 f (-12) s = (false, (f s).2) := by unfold seqS; rw [hb, if_neg (by decide)]
    rw [e]
    exact ⟨rfl, co1, rfl, hc1, hs1⟩

set_option maxHeartbeats 4000000 in
set_option maxRecDepth 100000 in
theorem X2_sum_of {l : Launch} {μ : PM} {nt op : Nat} {f : RS → Bool × RS} {k1 k2 : Nat} (ht : tokOK μ nt) (hk : 2 ≤ k1) (hk2 : k1 + 1 ≤ k2) (hop : op ≤ 5) (hsub : RC l μ nt yX2_term cX2_term 3 k1 op f) : RC l μ nt yX2_sum cX2_sum 4 k2 op (sumS (μ.1 8) f) := by
  intro s co hs hc
  refine CT.of rfl (Nat.le_of_ble_eq_true rfl) ?_
  show PW l SC RX2 cX2_sum 4 (some .boolean) (k2) _ 0 [(0, .ref 6), (1, .int (nI op))] [] (pM μ (nI s.1) (nI s.2.length) co)
  refine pw_aload_n dX2_sum_0 rfl rfl ?_
  refine pw_iload_n dX2_sum_1 rfl rfl ?_
  refine pw_cVi dX2_sum_2 mv_X2_125 ckReader (hsub hs hc) rfl rfl (Nat.le_of_ble_eq_true rfl) (by omega) (fun x_2 m_2 h_2 => ?_)
  obtain ⟨rfl, co1, rfl, hc1, hs1⟩ := h_2
  refine pw_if_ne (tgt := 10) dX2_sum_5 (by decide) (fun c_5 => ?_) (fun c_5 => ?_)
  · skip
    have hb := b2_n c_5
    refine pw_iconst (v := 0) dX2_sum_10 rfl ?_
    refine pw_istore_n (ls2 := [(2, _), (0, _), (1, _)]) dX2_sum_11 rfl (by decide) rfl ?_
    have L_12 : ∀ (fu_12 : Nat) (i : Nat) (q : RS) (coq : Nat → Int32), (i ≤ 160) → (RI nt q) → (rowL coq q.2) → (lpP (μ.1 8) f (160 - i) q = sumS (μ.1 8) f s) → 160 - i < fu_12 → PW l SC RX2 cX2_sum 4 (some .boolean) (k2) (QI fun x m => x = b2 (sumS (μ.1 8) f s).1 ∧ ∃ co2, m = pM μ (nI (sumS (μ.1 8) f s).2.1) (nI (sumS (μ.1 8) f s).2.2.length) co2 ∧ rowL co2 (sumS (μ.1 8) f s).2.2 ∧ RI nt (sumS (μ.1 8) f s).2) 12 [(0, .ref 6), (1, .int (nI op)), (2, .int (nI i))] [] (pM μ (nI q.1) (nI q.2.length) coq) := by
      intro fu_12
      induction fu_12 with
      | zero =>
        intro i q coq hi hq hcq hx hm_12
        exact absurd hm_12 (Nat.not_lt_zero _)
      | succ fu_12 ih_12 =>
        intro i q coq hi hq hcq hx hm_12
        refine pw_iload_n dX2_sum_12 rfl rfl ?_
        refine pw_sipush (v := 160) dX2_sum_13 rfl ?_
        refine pw_icmp_ge (tgt := 86) dX2_sum_16 (by decide) (fun c_16 => ?_) (fun c_16 => ?_)
        · skip
          have hge := nI_geD (n := 160) (by decide) c_16
          refine pw_iconst (v := 1) dX2_sum_86 rfl ?_
          refine pw_zret dX2_sum_87 rfl (by simp) ?_
          rw [← hx, show 160 - i = 0 by omega]
          exact ⟨rfl, coq, rfl, hcq, hq⟩
        · skip
          have hlt := nI_ltD (n := 160) (by omega) c_16
          refine pw_aload_n dX2_sum_19 rfl rfl ?_
          refine pw_bipush (v := 43) dX2_sum_20 rfl ?_
          refine pw_cVi dX2_sum_22 mv_X2_57 ckReader (T_X2_isNext (s := q) ht hq hcq) rfl rfl (Nat.le_of_ble_eq_true rfl) (by omega) (fun x_22 m_22 h_22 => ?_)
          obtain ⟨rfl, rfl⟩ := h_22
          refine pw_if_ne (tgt := 37) dX2_sum_25 (by decide) (fun c_25 => ?_) (fun c_25 => ?_)
          · skip
            have hp := b2_n c_25
            have hor : (nxt (μ.1 8) q 43 || nxt (μ.1 8) q 45) = true := by rw [hp]; rfl
            have hI : RI nt (tkS q) := RI_tk ht hq hp (by decide)
            refine pw_aload_n dX2_sum_37 rfl rfl ?_
            refine pw_bipush (v := 43) dX2_sum_38 rfl ?_
            refine pw_cVi dX2_sum_40 mv_X2_57 ckReader (T_X2_isNext (s := q) ht hq hcq) rfl rfl (Nat.le_of_ble_eq_true rfl) (by omega) (fun x_40 m_40 h_40 => ?_)
            obtain ⟨rfl, rfl⟩ := h_40
            refine pw_if_eq (tgt := 51) dX2_sum_43 (by decide) (fun c_43 => ?_) (fun c_43 => ?_)
            · skip
              have hp2 := b2_0 c_43
              refine pw_bipush (v := (-17)) dX2_sum_51 rfl ?_
              refine pw_top (y := if nxt (μ.1 8) q 43 then -16 else -17) (by rw [hp2]; rfl) ?_
              refine pw_istore_n (ls2 := [(3, _), (0, _), (1, _), (2, _)]) dX2_sum_53 rfl (by decide) rfl ?_
              refine pw_aload_n dX2_sum_54 rfl rfl ?_
              refine pw_dup dX2_sum_55 rfl ?_
              refine pw_getI dX2_sum_56 fa_X2_31 rfl ?_
              refine pw_top (y := nI q.1) rfl ?_
              refine pw_iconst (v := 1) dX2_sum_59 rfl ?_
              refine pw_iadd dX2_sum_60 ?_
              refine pw_top (y := nI (tkS q).1) (nI_1 q.1) ?_
              refine pw_putI dX2_sum_61 fa_X2_31 rfl ?_
              refine pw_mem pM_a ?_
              refine pw_aload_n dX2_sum_64 rfl rfl ?_
              refine pw_iload_n dX2_sum_65 rfl rfl ?_
              refine pw_cVi dX2_sum_66 mv_X2_125 ckReader (hsub (s := tkS q) hI hcq) rfl rfl (Nat.le_of_ble_eq_true rfl) (by omega) (fun x_66 m_66 h_66 => ?_)
              obtain ⟨rfl, co3, rfl, hc3, hs3⟩ := h_66
              refine pw_if_ne (tgt := 74) dX2_sum_69 (by decide) (fun c_69 => ?_) (fun c_69 => ?_)
              · skip
                have hb3 := b2_n c_69
                refine pw_aload_n dX2_sum_74 rfl rfl ?_
                refine pw_iload_n dX2_sum_75 rfl rfl ?_
                refine pw_cVi dX2_sum_76 mv_X2_101 ckReader (T_X2_write (s := (f (tkS q)).2) hs3.2 hc3) rfl rfl (Nat.le_of_ble_eq_true rfl) (by omega) (fun x_76 m_76 h_76 => ?_)
                obtain ⟨rfl, co4, rfl, hc4⟩ := h_76
                refine pw_pop dX2_sum_79 rfl ?_
                refine pw_iinc (ls2 := [(2, _), (3, _), (0, _), (1, _)]) (v := nI (i + 1)) dX2_sum_80 rfl (inc1 i) (by decide) rfl ?_
                refine pw_goto (tgt := 12) dX2_sum_83 (by decide) ?_
                refine pw_sub [2, 3, 0] rfl ?_
                exact ih_12 (i + 1) (wrS (if nxt (μ.1 8) q 43 then -16 else -17) (f (tkS q)).2) co4 hlt (RI_wr hs3) hc4 (by rw [← hx, show 160 - i = (160 - (i + 1)) + 1 by omega]; show _ = if _ then (if _ then _ else _) else _; rw [hor, if_pos rfl, hb3, if_pos rfl]) (by omega)
              · skip
                have hb3 := b2_0 c_69
                refine pw_iconst (v := 0) dX2_sum_72 rfl ?_
                refine pw_zret dX2_sum_73 rfl (by simp) ?_
                rw [← hx, show 160 - i = (160 - (i + 1)) + 1 by omega]
                have e : lpP (μ.1 8) f ((160 - (i + 1)) + 1) q = (false, (f (tkS q)).2) := by
                  show (if _ then (if _ then _ else _) else _) = _
                  rw [hor, if_pos rfl, hb3, if_neg (by decide)]
                rw [e]
                exact ⟨rfl, co3, rfl, hc3, hs3⟩
            · skip
              have hp2 := b2_n c_43
              refine pw_bipush (v := (-16)) dX2_sum_46 rfl ?_
              refine pw_goto (tgt := 53) dX2_sum_48 (by decide) ?_
              refine pw_top (y := if nxt (μ.1 8) q 43 then -16 else -17) (by rw [hp2]; rfl) ?_
              refine pw_istore_n (ls2 := [(3, _), (0, _), (1, _), (2, _)]) dX2_sum_53 rfl (by decide) rfl ?_
              refine pw_aload_n dX2_sum_54 rfl rfl ?_
              refine pw_dup dX2_sum_55 rfl ?_
              refine pw_getI dX2_sum_56 fa_X2_31 rfl ?_
              refine pw_top (y := nI q.1) rfl ?_
              refine pw_iconst (v := 1) dX2_sum_59 rfl ?_
              refine pw_iadd dX2_sum_60 ?_
              refine pw_top (y := nI (tkS q).1) (nI_1 q.1) ?_
              refine pw_putI dX2_sum_61 fa_X2_31 rfl ?_
              refine pw_mem pM_a ?_
              refine pw_aload_n dX2_sum_64 rfl rfl ?_
              refine pw_iload_n dX2_sum_65 rfl rfl ?_
              refine pw_cVi dX2_sum_66 mv_X2_125 ckReader (hsub (s := tkS q) hI hcq) rfl rfl (Nat.le_of_ble_eq_true rfl) (by omega) (fun x_66 m_66 h_66 => ?_)
              obtain ⟨rfl, co3, rfl, hc3, hs3⟩ := h_66
              refine pw_if_ne (tgt := 74) dX2_sum_69 (by decide) (fun c_69 => ?_) (fun c_69 => ?_)
              · skip
                have hb3 := b2_n c_69
                refine pw_aload_n dX2_sum_74 rfl rfl ?_
                refine pw_iload_n dX2_sum_75 rfl rfl ?_
                refine pw_cVi dX2_sum_76 mv_X2_101 ckReader (T_X2_write (s := (f (tkS q)).2) hs3.2 hc3) rfl rfl (Nat.le_of_ble_eq_true rfl) (by omega) (fun x_76 m_76 h_76 => ?_)
                obtain ⟨rfl, co4, rfl, hc4⟩ := h_76
                refine pw_pop dX2_sum_79 rfl ?_
                refine pw_iinc (ls2 := [(2, _), (3, _), (0, _), (1, _)]) (v := nI (i + 1)) dX2_sum_80 rfl (inc1 i) (by decide) rfl ?_
                refine pw_goto (tgt := 12) dX2_sum_83 (by decide) ?_
                refine pw_sub [2, 3, 0] rfl ?_
                exact ih_12 (i + 1) (wrS (if nxt (μ.1 8) q 43 then -16 else -17) (f (tkS q)).2) co4 hlt (RI_wr hs3) hc4 (by rw [← hx, show 160 - i = (160 - (i + 1)) + 1 by omega]; show _ = if _ then (if _ then _ else _) else _; rw [hor, if_pos rfl, hb3, if_pos rfl]) (by omega)
              · skip
                have hb3 := b2_0 c_69
                refine pw_iconst (v := 0) dX2_sum_72 rfl ?_
                refine pw_zret dX2_sum_73 rfl (by simp) ?_
                rw [← hx, show 160 - i = (160 - (i + 1)) + 1 by omega]
                have e : lpP (μ.1 8) f ((160 - (i + 1)) + 1) q = (false, (f (tkS q)).2) := by
                  show (if _ then (if _ then _ else _) else _) = _
                  rw [hor, if_pos rfl, hb3, if_neg (by decide)]
                rw [e]
                exact ⟨rfl, co3, rfl, hc3, hs3⟩
          · skip
            have hp := b2_0 c_25
            refine pw_aload_n dX2_sum_28 rfl rfl ?_
            refine pw_bipush (v := 45) dX2_sum_29 rfl ?_
            refine pw_cVi dX2_sum_31 mv_X2_57 ckReader (T_X2_isNext (s := q) ht hq hcq) rfl rfl (Nat.le_of_ble_eq_true rfl) (by omega) (fun x_31 m_31 h_31 => ?_)
            obtain ⟨rfl, rfl⟩ := h_31
            refine pw_if_eq (tgt := 86) dX2_sum_34 (by decide) (fun c_34 => ?_) (fun c_34 => ?_)
            · skip
              have hm := b2_0 c_34
              have hor : (nxt (μ.1 8) q 43 || nxt (μ.1 8) q 45) = false := by rw [hp, hm]; rfl
              refine pw_iconst (v := 1) dX2_sum_86 rfl ?_
              refine pw_zret dX2_sum_87 rfl (by simp) ?_
              rw [← hx, show 160 - i = (160 - (i + 1)) + 1 by omega]
              have e : lpP (μ.1 8) f ((160 - (i + 1)) + 1) q = (true, q) := by
                show (if _ then (if _ then _ else _) else _) = _
                rw [hor, if_neg (by decide)]
              rw [e]
              exact ⟨rfl, coq, rfl, hcq, hq⟩
            · skip
              have hm := b2_n c_34
              have hor : (nxt (μ.1 8) q 43 || nxt (μ.1 8) q 45) = true := by rw [hm]; cases nxt (μ.1 8) q 43 <;> rfl
              have hI : RI nt (tkS q) := RI_tk ht hq hm (by decide)
              refine pw_aload_n dX2_sum_37 rfl rfl ?_
              refine pw_bipush (v := 43) dX2_sum_38 rfl ?_
              refine pw_cVi dX2_sum_40 mv_X2_57 ckReader (T_X2_isNext (s := q) ht hq hcq) rfl rfl (Nat.le_of_ble_eq_true rfl) (by omega) (fun x_40 m_40 h_40 => ?_)
              obtain ⟨rfl, rfl⟩ := h_40
              refine pw_if_eq (tgt := 51) dX2_sum_43 (by decide) (fun c_43 => ?_) (fun c_43 => ?_)
              · skip
                have hp2 := b2_0 c_43
                refine pw_bipush (v := (-17)) dX2_sum_51 rfl ?_
                refine pw_top (y := if nxt (μ.1 8) q 43 then -16 else -17) (by rw [hp2]; rfl) ?_
                refine pw_istore_n (ls2 := [(3, _), (0, _), (1, _), (2, _)]) dX2_sum_53 rfl (by decide) rfl ?_
                refine pw_aload_n dX2_sum_54 rfl rfl ?_
                refine pw_dup dX2_sum_55 rfl ?_
                refine pw_getI dX2_sum_56 fa_X2_31 rfl ?_
                refine pw_top (y := nI q.1) rfl ?_
                refine pw_iconst (v := 1) dX2_sum_59 rfl ?_
                refine pw_iadd dX2_sum_60 ?_
                refine pw_top (y := nI (tkS q).1) (nI_1 q.1) ?_
                refine pw_putI dX2_sum_61 fa_X2_31 rfl ?_
                refine pw_mem pM_a ?_
                refine pw_aload_n dX2_sum_64 rfl rfl ?_
                refine pw_iload_n dX2_sum_65 rfl rfl ?_
                refine pw_cVi dX2_sum_66 mv_X2_125 ckReader (hsub (s := tkS q) hI hcq) rfl rfl (Nat.le_of_ble_eq_true rfl) (by omega) (fun x_66 m_66 h_66 => ?_)
                obtain ⟨rfl, co3, rfl, hc3, hs3⟩ := h_66
                refine pw_if_ne (tgt := 74) dX2_sum_69 (by decide) (fun c_69 => ?_) (fun c_69 => ?_)
                · skip
                  have hb3 := b2_n c_69
                  refine pw_aload_n dX2_sum_74 rfl rfl ?_
                  refine pw_iload_n dX2_sum_75 rfl rfl ?_
                  refine pw_cVi dX2_sum_76 mv_X2_101 ckReader (T_X2_write (s := (f (tkS q)).2) hs3.2 hc3) rfl rfl (Nat.le_of_ble_eq_true rfl) (by omega) (fun x_76 m_76 h_76 => ?_)
                  obtain ⟨rfl, co4, rfl, hc4⟩ := h_76
                  refine pw_pop dX2_sum_79 rfl ?_
                  refine pw_iinc (ls2 := [(2, _), (3, _), (0, _), (1, _)]) (v := nI (i + 1)) dX2_sum_80 rfl (inc1 i) (by decide) rfl ?_
                  refine pw_goto (tgt := 12) dX2_sum_83 (by decide) ?_
                  refine pw_sub [2, 3, 0] rfl ?_
                  exact ih_12 (i + 1) (wrS (if nxt (μ.1 8) q 43 then -16 else -17) (f (tkS q)).2) co4 hlt (RI_wr hs3) hc4 (by rw [← hx, show 160 - i = (160 - (i + 1)) + 1 by omega]; show _ = if _ then (if _ then _ else _) else _; rw [hor, if_pos rfl, hb3, if_pos rfl]) (by omega)
                · skip
                  have hb3 := b2_0 c_69
                  refine pw_iconst (v := 0) dX2_sum_72 rfl ?_
                  refine pw_zret dX2_sum_73 rfl (by simp) ?_
                  rw [← hx, show 160 - i = (160 - (i + 1)) + 1 by omega]
                  have e : lpP (μ.1 8) f ((160 - (i + 1)) + 1) q = (false, (f (tkS q)).2) := by
                    show (if _ then (if _ then _ else _) else _) = _
                    rw [hor, if_pos rfl, hb3, if_neg (by decide)]
                  rw [e]
                  exact ⟨rfl, co3, rfl, hc3, hs3⟩
              · skip
                have hp2 := b2_n c_43
                refine pw_bipush (v := (-16)) dX2_sum_46 rfl ?_
                refine pw_goto (tgt := 53) dX2_sum_48 (by decide) ?_
                refine pw_top (y := if nxt (μ.1 8) q 43 then -16 else -17) (by rw [hp2]; rfl) ?_
                refine pw_istore_n (ls2 := [(3, _), (0, _), (1, _), (2, _)]) dX2_sum_53 rfl (by decide) rfl ?_
                refine pw_aload_n dX2_sum_54 rfl rfl ?_
                refine pw_dup dX2_sum_55 rfl ?_
                refine pw_getI dX2_sum_56 fa_X2_31 rfl ?_
                refine pw_top (y := nI q.1) rfl ?_
                refine pw_iconst (v := 1) dX2_sum_59 rfl ?_
                refine pw_iadd dX2_sum_60 ?_
                refine pw_top (y := nI (tkS q).1) (nI_1 q.1) ?_
                refine pw_putI dX2_sum_61 fa_X2_31 rfl ?_
                refine pw_mem pM_a ?_
                refine pw_aload_n dX2_sum_64 rfl rfl ?_
                refine pw_iload_n dX2_sum_65 rfl rfl ?_
                refine pw_cVi dX2_sum_66 mv_X2_125 ckReader (hsub (s := tkS q) hI hcq) rfl rfl (Nat.le_of_ble_eq_true rfl) (by omega) (fun x_66 m_66 h_66 => ?_)
                obtain ⟨rfl, co3, rfl, hc3, hs3⟩ := h_66
                refine pw_if_ne (tgt := 74) dX2_sum_69 (by decide) (fun c_69 => ?_) (fun c_69 => ?_)
                · skip
                  have hb3 := b2_n c_69
                  refine pw_aload_n dX2_sum_74 rfl rfl ?_
                  refine pw_iload_n dX2_sum_75 rfl rfl ?_
                  refine pw_cVi dX2_sum_76 mv_X2_101 ckReader (T_X2_write (s := (f (tkS q)).2) hs3.2 hc3) rfl rfl (Nat.le_of_ble_eq_true rfl) (by omega) (fun x_76 m_76 h_76 => ?_)
                  obtain ⟨rfl, co4, rfl, hc4⟩ := h_76
                  refine pw_pop dX2_sum_79 rfl ?_
                  refine pw_iinc (ls2 := [(2, _), (3, _), (0, _), (1, _)]) (v := nI (i + 1)) dX2_sum_80 rfl (inc1 i) (by decide) rfl ?_
                  refine pw_goto (tgt := 12) dX2_sum_83 (by decide) ?_
                  refine pw_sub [2, 3, 0] rfl ?_
                  exact ih_12 (i + 1) (wrS (if nxt (μ.1 8) q 43 then -16 else -17) (f (tkS q)).2) co4 hlt (RI_wr hs3) hc4 (by rw [← hx, show 160 - i = (160 - (i + 1)) + 1 by omega]; show _ = if _ then (if _ then _ else _) else _; rw [hor, if_pos rfl, hb3, if_pos rfl]) (by omega)
                · skip
                  have hb3 := b2_0 c_69
                  refine pw_iconst (v := 0) dX2_sum_72 rfl ?_
                  refine pw_zret dX2_sum_73 rfl (by simp) ?_
                  rw [← hx, show 160 - i = (160 - (i + 1)) + 1 by omega]
                  have e : lpP (μ.1 8) f ((160 - (i + 1)) + 1) q = (false, (f (tkS q)).2) := by
                    show (if _ then (if _ then _ else _) else _) = _
                    rw [hor, if_pos rfl, hb3, if_neg (by decide)]
                  rw [e]
                  exact ⟨rfl, co3, rfl, hc3, hs3⟩
    refine pw_sub [1, 2, 0] rfl ?_
    exact L_12 161 0 (f s).2 co1 (Nat.zero_le _) hs1 hc1 (by unfold sumS; rw [hb, if_pos rfl]) (by omega)
  · skip
    have hb := b2_0 c_5
    refine pw_iconst (v := 0) dX2_sum_8 rfl ?_
    refine pw_zret dX2_sum_9 rfl (by simp) ?_
    have e : sumS (μ.1 8) f s = (false, (f s).2) := by unfold sumS; rw [hb, if_neg (by decide)]
    rw [e]
    exact ⟨rfl, co1, rfl, hc1, hs1⟩

set_option maxHeartbeats 4000000 in
set_option maxRecDepth 100000 in
theorem X2_compared_of {l : Launch} {μ : PM} {nt op : Nat} {f : RS → Bool × RS} {k1 k2 : Nat} (ht : tokOK μ nt) (hk : 2 ≤ k1) (hk2 : k1 + 1 ≤ k2) (hop : op ≤ 5) (hsub : RC l μ nt yX2_sum cX2_sum 4 k1 op f) : RC l μ nt yX2_compared cX2_compared 2 k2 op (cmpS (μ.1 8) f) := by
  intro s co hs hc
  refine CT.of rfl (Nat.le_of_ble_eq_true rfl) ?_
  show PW l SC RX2 cX2_compared 2 (some .boolean) (k2) _ 0 [(0, .ref 6), (1, .int (nI op))] [] (pM μ (nI s.1) (nI s.2.length) co)
  refine pw_aload_n dX2_compared_0 rfl rfl ?_
  refine pw_iload_n dX2_compared_1 rfl rfl ?_
  refine pw_cVi dX2_compared_2 mv_X2_122 ckReader (hsub hs hc) rfl rfl (Nat.le_of_ble_eq_true rfl) (by omega) (fun x_2 m_2 h_2 => ?_)
  obtain ⟨rfl, co1, rfl, hc1, hs1⟩ := h_2
  refine pw_if_ne (tgt := 10) dX2_compared_5 (by decide) (fun c_5 => ?_) (fun c_5 => ?_)
  · skip
    have hb := b2_n c_5
    refine pw_aload_n dX2_compared_10 rfl rfl ?_
    refine pw_bipush (v := 60) dX2_compared_11 rfl ?_
    refine pw_cVi dX2_compared_13 mv_X2_50 ckReader (T_X2_take (s := (f s).2) ht hs1 hc1) rfl rfl (Nat.le_of_ble_eq_true rfl) (by omega) (fun x_13 m_13 h_13 => ?_)
    obtain ⟨rfl, rfl⟩ := h_13
    refine pw_if_eq (tgt := 42) dX2_compared_16 (by decide) (fun c_16 => ?_) (fun c_16 => ?_)
    · skip
      have hl := b2_0 c_16
      rw [hl, if_neg (by decide)]
      refine pw_aload_n dX2_compared_42 rfl rfl ?_
      refine pw_bipush (v := 61) dX2_compared_43 rfl ?_
      refine pw_cVi dX2_compared_45 mv_X2_50 ckReader (T_X2_take (s := (f s).2) ht hs1 hc1) rfl rfl (Nat.le_of_ble_eq_true rfl) (by omega) (fun x_45 m_45 h_45 => ?_)
      obtain ⟨rfl, rfl⟩ := h_45
      refine pw_if_eq (tgt := 68) dX2_compared_48 (by decide) (fun c_48 => ?_) (fun c_48 => ?_)
      · skip
        have hq := b2_0 c_48
        rw [hq, if_neg (by decide)]
        refine pw_iconst (v := 1) dX2_compared_68 rfl ?_
        refine pw_goto (tgt := 73) dX2_compared_69 (by decide) ?_
        refine pw_zret dX2_compared_73 rfl (by simp) ?_
        have e : cmpS (μ.1 8) f s = (true, (f s).2) := by unfold cmpS; rw [hb, if_pos rfl, hl, if_neg (by decide), hq, if_neg (by decide)]
        rw [e]
        exact ⟨rfl, co1, rfl, hc1, hs1⟩
      · skip
        have hq := b2_n c_48
        rw [hq, if_pos rfl]
        refine pw_aload_n dX2_compared_51 rfl rfl ?_
        refine pw_iload_n dX2_compared_52 rfl rfl ?_
        refine pw_cVi dX2_compared_53 mv_X2_122 ckReader (hsub (s := tkS (f s).2) (RI_tk ht hs1 hq (by decide)) hc1) rfl rfl (Nat.le_of_ble_eq_true rfl) (by omega) (fun x_53 m_53 h_53 => ?_)
        obtain ⟨rfl, co3, rfl, hc3, hs3⟩ := h_53
        refine pw_if_eq (tgt := 72) dX2_compared_56 (by decide) (fun c_56 => ?_) (fun c_56 => ?_)
        · skip
          have hb3 := b2_0 c_56
          refine pw_iconst (v := 0) dX2_compared_72 rfl ?_
          refine pw_zret dX2_compared_73 rfl (by simp) ?_
          have e : cmpS (μ.1 8) f s = (false, (f (tkS (f s).2)).2) := by unfold cmpS; rw [hb, if_pos rfl, hl, if_neg (by decide), hq, if_pos rfl, hb3, if_neg (by decide)]
          rw [e]
          exact ⟨rfl, co3, rfl, hc3, hs3⟩
        · skip
          have hb3 := b2_n c_56
          refine pw_aload_n dX2_compared_59 rfl rfl ?_
          refine pw_bipush (v := (-15)) dX2_compared_60 rfl ?_
          refine pw_cVi dX2_compared_62 mv_X2_101 ckReader (T_X2_write (s := (f (tkS (f s).2)).2) hs3.2 hc3) rfl rfl (Nat.le_of_ble_eq_true rfl) (by omega) (fun x_62 m_62 h_62 => ?_)
          obtain ⟨rfl, co4, rfl, hc4⟩ := h_62
          refine pw_if_eq (tgt := 72) dX2_compared_65 (by decide) (fun c_65 => ?_) (fun c_65 => ?_)
          · skip
            exact absurd c_65 (by decide)
          · skip
            refine pw_iconst (v := 1) dX2_compared_68 rfl ?_
            refine pw_goto (tgt := 73) dX2_compared_69 (by decide) ?_
            refine pw_zret dX2_compared_73 rfl (by simp) ?_
            have e : cmpS (μ.1 8) f s = (true, wrS (-15) (f (tkS (f s).2)).2) := by unfold cmpS; rw [hb, if_pos rfl, hl, if_neg (by decide), hq, if_pos rfl, hb3, if_pos rfl]
            rw [e]
            exact ⟨rfl, co4, rfl, hc4, RI_wr hs3⟩
    · skip
      have hl := b2_n c_16
      rw [hl, if_pos rfl]
      refine pw_aload_n dX2_compared_19 rfl rfl ?_
      refine pw_iload_n dX2_compared_20 rfl rfl ?_
      refine pw_cVi dX2_compared_21 mv_X2_122 ckReader (hsub (s := tkS (f s).2) (RI_tk ht hs1 hl (by decide)) hc1) rfl rfl (Nat.le_of_ble_eq_true rfl) (by omega) (fun x_21 m_21 h_21 => ?_)
      obtain ⟨rfl, co3, rfl, hc3, hs3⟩ := h_21
      refine pw_if_eq (tgt := 40) dX2_compared_24 (by decide) (fun c_24 => ?_) (fun c_24 => ?_)
      · skip
        have hb3 := b2_0 c_24
        refine pw_iconst (v := 0) dX2_compared_40 rfl ?_
        refine pw_zret dX2_compared_41 rfl (by simp) ?_
        have e : cmpS (μ.1 8) f s = (false, (f (tkS (f s).2)).2) := by unfold cmpS; rw [hb, if_pos rfl, hl, if_pos rfl, hb3, if_neg (by decide)]
        rw [e]
        exact ⟨rfl, co3, rfl, hc3, hs3⟩
      · skip
        have hb3 := b2_n c_24
        refine pw_aload_n dX2_compared_27 rfl rfl ?_
        refine pw_bipush (v := (-14)) dX2_compared_28 rfl ?_
        refine pw_cVi dX2_compared_30 mv_X2_101 ckReader (T_X2_write (s := (f (tkS (f s).2)).2) hs3.2 hc3) rfl rfl (Nat.le_of_ble_eq_true rfl) (by omega) (fun x_30 m_30 h_30 => ?_)
        obtain ⟨rfl, co4, rfl, hc4⟩ := h_30
        refine pw_if_eq (tgt := 40) dX2_compared_33 (by decide) (fun c_33 => ?_) (fun c_33 => ?_)
        · skip
          exact absurd c_33 (by decide)
        · skip
          refine pw_iconst (v := 1) dX2_compared_36 rfl ?_
          refine pw_goto (tgt := 41) dX2_compared_37 (by decide) ?_
          refine pw_zret dX2_compared_41 rfl (by simp) ?_
          have e : cmpS (μ.1 8) f s = (true, wrS (-14) (f (tkS (f s).2)).2) := by unfold cmpS; rw [hb, if_pos rfl, hl, if_pos rfl, hb3, if_pos rfl]
          rw [e]
          exact ⟨rfl, co4, rfl, hc4, RI_wr hs3⟩
  · skip
    have hb := b2_0 c_5
    refine pw_iconst (v := 0) dX2_compared_8 rfl ?_
    refine pw_zret dX2_compared_9 rfl (by simp) ?_
    have e : cmpS (μ.1 8) f s = (false, (f s).2) := by unfold cmpS; rw [hb, if_neg (by decide)]
    rw [e]
    exact ⟨rfl, co1, rfl, hc1, hs1⟩

set_option maxHeartbeats 4000000 in
set_option maxRecDepth 100000 in
theorem X2_denied_of {l : Launch} {μ : PM} {nt op : Nat} {mo : Nat} {cm : Nat → RS → Bool × RS} {k2 : Nat} (ht : tokOK μ nt) (hk2 : 3 ≤ k2) (hm : op + mo = 5) (hsub : ∀ i, i ≤ mo → ∃ k1, k1 + 1 ≤ k2 ∧ RC l μ nt yX2_compared cX2_compared 2 k1 (op + i) (cm i)) : RC l μ nt yX2_denied cX2_denied 3 k2 op (rowS (μ.1 8) 6 (-10) mo cm) := by
  intro s co hs hc
  refine CT.of rfl (Nat.le_of_ble_eq_true rfl) ?_
  show PW l SC RX2 cX2_denied 3 (some .boolean) (k2) _ 0 [(0, .ref 6), (1, .int (nI op))] [] (pM μ (nI s.1) (nI s.2.length) co)
  have hN := skN_le (ki := μ.1 8) (kd := 6) mo s
  have hI := skN_RI ht (kd := 6) (by decide) mo s hs
  obtain ⟨k1, hk1, hcall⟩ := hsub (skN (μ.1 8) 6 mo s) hN
  refine pw_aload_n dX2_denied_0 rfl rfl ?_
  refine pw_bipush (v := 6) dX2_denied_1 rfl ?_
  refine pw_iconst (v := 5) dX2_denied_3 rfl ?_
  refine pw_iload_n dX2_denied_4 rfl rfl ?_
  refine pw_isub dX2_denied_5 ?_
  refine pw_top (y := nI mo) (sub5 hm) ?_
  refine pw_cVi dX2_denied_6 mv_X2_112 ckReader (T_X2_takeSome (kd := 6) (mo := mo) ht hs hc (by omega) (by decide)) rfl rfl (Nat.le_of_ble_eq_true rfl) (by omega) (fun x_6 m_6 h_6 => ?_)
  obtain ⟨rfl, rfl⟩ := h_6
  refine pw_istore_n (ls2 := [(2, _), (0, _), (1, _)]) dX2_denied_9 rfl (by decide) rfl ?_
  refine pw_aload_n dX2_denied_10 rfl rfl ?_
  refine pw_iload_n dX2_denied_11 rfl rfl ?_
  refine pw_iload_n dX2_denied_12 rfl rfl ?_
  refine pw_iadd dX2_denied_13 ?_
  refine pw_top (y := nI (op + (skN (μ.1 8) 6 mo s))) (nI_add op (skN (μ.1 8) 6 mo s)) ?_
  refine pw_cVi dX2_denied_14 mv_X2_115 ckReader (hcall (s := (s.1 + (skN (μ.1 8) 6 mo s), s.2)) hI hc) rfl rfl (Nat.le_of_ble_eq_true rfl) (by omega) (fun x_14 m_14 h_14 => ?_)
  obtain ⟨rfl, co1, rfl, hc1, hs1⟩ := h_14
  refine pw_if_eq (tgt := 34) dX2_denied_17 (by decide) (fun c_17 => ?_) (fun c_17 => ?_)
  · skip
    have hb := b2_0 c_17
    refine pw_iconst (v := 0) dX2_denied_34 rfl ?_
    refine pw_zret dX2_denied_35 rfl (by simp) ?_
    have e : rowS (μ.1 8) 6 (-10) mo cm s = (false, (cm (skN (μ.1 8) 6 mo s) (s.1 + (skN (μ.1 8) 6 mo s), s.2)).2) := by unfold rowS; rw [hb, if_neg (by decide)]
    rw [e]
    exact ⟨rfl, co1, rfl, hc1, hs1⟩
  · skip
    have hb := b2_n c_17
    refine pw_aload_n dX2_denied_20 rfl rfl ?_
    refine pw_bipush (v := (-10)) dX2_denied_21 rfl ?_
    refine pw_iload_n dX2_denied_23 rfl rfl ?_
    refine pw_cVi dX2_denied_24 mv_X2_118 ckReader (T_X2_writeSome (c := (-10)) (tm := (skN (μ.1 8) 6 mo s)) (s := (cm (skN (μ.1 8) 6 mo s) (s.1 + (skN (μ.1 8) 6 mo s), s.2)).2) hs1.2 hc1 (by omega)) rfl rfl (Nat.le_of_ble_eq_true rfl) (by omega) (fun x_24 m_24 h_24 => ?_)
    obtain ⟨rfl, co2, rfl, hc2⟩ := h_24
    refine pw_if_eq (tgt := 34) dX2_denied_27 (by decide) (fun c_27 => ?_) (fun c_27 => ?_)
    · skip
      exact absurd c_27 (by decide)
    · skip
      refine pw_iconst (v := 1) dX2_denied_30 rfl ?_
      refine pw_goto (tgt := 35) dX2_denied_31 (by decide) ?_
      refine pw_zret dX2_denied_35 rfl (by simp) ?_
      have e : rowS (μ.1 8) 6 (-10) mo cm s = (true, wrN (-10) (skN (μ.1 8) 6 mo s) (cm (skN (μ.1 8) 6 mo s) (s.1 + (skN (μ.1 8) 6 mo s), s.2)).2) := by unfold rowS; rw [hb, if_pos rfl]
      rw [e]
      exact ⟨rfl, co2, rfl, hc2, RI_wrN _ _ hs1⟩

set_option maxHeartbeats 4000000 in
set_option maxRecDepth 100000 in
theorem X2_single_of {l : Launch} {μ : PM} {nt op : Nat} {q : Option (RS → Bool × RS)} {k1 k2 : Nat} (ht : tokOK μ nt) (hk : 2 ≤ k1) (hk2 : k1 + 1 ≤ k2) (hop : op ≤ 5) (hno : q = none → 5 ≤ op) (hq : ∀ d, q = some d → op < 5 ∧ RC l μ nt yX2_either cX2_either 3 k1 (op + 1) d) : RC l μ nt yX2_single cX2_single 3 k2 op (sinS (μ.1 8) (μ.1 10) q) := by
  intro s co hs hc
  refine CT.of rfl (Nat.le_of_ble_eq_true rfl) ?_
  show PW l SC RX2 cX2_single 3 (some .boolean) (k2) _ 0 [(0, .ref 6), (1, .int (nI op))] [] (pM μ (nI s.1) (nI s.2.length) co)
  obtain ⟨t1, t2, t3, t4⟩ := id ht
  have hs1 := hs.1
  refine pw_aload_n dX2_single_0 rfl rfl ?_
  refine pw_getI dX2_single_1 fa_X2_31 rfl ?_
  refine pw_top (y := nI s.1) rfl ?_
  refine pw_aload_n dX2_single_4 rfl rfl ?_
  refine pw_getI dX2_single_5 fa_X2_19 rfl ?_
  refine pw_top (y := nI nt) t1 ?_
  refine pw_icmp_lt (tgt := 13) dX2_single_8 (by decide) (fun c_8 => ?_) (fun c_8 => ?_)
  · skip
    refine pw_aload_n dX2_single_13 rfl rfl ?_
    refine pw_getR dX2_single_14 fa_X2_22 rfl ?_
    refine pw_aload_n dX2_single_17 rfl rfl ?_
    refine pw_getI dX2_single_18 fa_X2_31 rfl ?_
    refine pw_iald (j := s.1) dX2_single_21 rfl rfl (by omega) ?_
    refine pw_top (y := μ.1 8 s.1) rfl ?_
    refine pw_istore_n (ls2 := [(2, _), (0, _), (1, _)]) dX2_single_22 rfl (by decide) rfl ?_
    refine pw_iload_n dX2_single_23 rfl rfl ?_
    refine pw_bipush (v := 40) dX2_single_24 rfl ?_
    refine pw_icmp_ne (tgt := 68) dX2_single_26 (by decide) (fun c_26 => ?_) (fun c_26 => ?_)
    · skip
      refine pw_iload_n dX2_single_68 rfl rfl ?_
      refine pw_bipush (v := 13) dX2_single_69 rfl ?_
      refine pw_icmp_ne (tgt := 91) dX2_single_71 (by decide) (fun c_71 => ?_) (fun c_71 => ?_)
      · skip
        refine pw_iload_n dX2_single_91 rfl rfl ?_
        refine pw_bipush (v := 7) dX2_single_92 rfl ?_
        refine pw_bipush (v := 12) dX2_single_94 rfl ?_
        refine pw_cSi dX2_single_96 ms_X2_43 T_X7_within rfl rfl (Nat.le_of_ble_eq_true rfl) (by omega) (fun x_96 m_96 h_96 => ?_)
        obtain ⟨rfl, rfl⟩ := h_96
        refine pw_if_eq (tgt := 116) dX2_single_99 (by decide) (fun c_99 => ?_) (fun c_99 => ?_)
        · skip
          have hi := b2_0 c_99
          refine pw_iconst (v := 0) dX2_single_116 rfl ?_
          refine pw_zret dX2_single_117 rfl (by simp) ?_
          have e : sinS (μ.1 8) (μ.1 10) q s = (false, s) := by
            unfold sinS
            rw [if_neg c_26, if_neg c_71, hi]; rfl
          rw [e]
          exact ⟨rfl, co, rfl, hc, hs⟩
        · skip
          have hi := b2_n c_99
          refine pw_aload_n dX2_single_102 rfl rfl ?_
          refine pw_iconst (v := (-1)) dX2_single_103 rfl ?_
          refine pw_iload_n dX2_single_104 rfl rfl ?_
          refine pw_bipush (v := 7) dX2_single_105 rfl ?_
          refine pw_isub dX2_single_107 ?_
          refine pw_isub dX2_single_108 ?_
          refine pw_cVi dX2_single_109 mv_X2_101 ckReader (T_X2_write hs.2 hc) rfl rfl (Nat.le_of_ble_eq_true rfl) (by omega) (fun x_109 m_109 h_109 => ?_)
          obtain ⟨rfl, co2, rfl, hc2⟩ := h_109
          have hw1 : (wrS (-1 - (μ.1 8 s.1 - 7)) s).1 = s.1 := by unfold wrS; split <;> rfl
          refine pw_pop dX2_single_112 rfl ?_
          refine pw_goto (tgt := 118) dX2_single_113 (by decide) ?_
          refine pw_aload_n dX2_single_118 rfl rfl ?_
          refine pw_dup dX2_single_119 rfl ?_
          refine pw_getI dX2_single_120 fa_X2_31 rfl ?_
          refine pw_top (y := nI (wrS (-1 - (μ.1 8 s.1 - 7)) s).1) rfl ?_
          refine pw_iconst (v := 1) dX2_single_123 rfl ?_
          refine pw_iadd dX2_single_124 ?_
          refine pw_top (y := nI (tkS (wrS (-1 - (μ.1 8 s.1 - 7)) s)).1) (nI_1 _) ?_
          refine pw_putI dX2_single_125 fa_X2_31 rfl ?_
          refine pw_mem pM_a ?_
          refine pw_iconst (v := 1) dX2_single_128 rfl ?_
          refine pw_zret dX2_single_129 rfl (by simp) ?_
          have e : sinS (μ.1 8) (μ.1 10) q s = (true, tkS (wrS (-1 - (μ.1 8 s.1 - 7)) s)) := by
            unfold sinS
            rw [if_neg c_26, if_neg c_71, hi]; rfl
          rw [e]
          exact ⟨rfl, co2, rfl, hc2, RI_tk2 ht (RI_wr hs) (by rw [hw1]; intro e14; rw [e14] at hi; exact absurd hi (by decide))⟩
      · skip
        refine pw_aload_n dX2_single_74 rfl rfl ?_
        refine pw_aload_n dX2_single_75 rfl rfl ?_
        refine pw_getR dX2_single_76 fa_X2_28 rfl ?_
        refine pw_aload_n dX2_single_79 rfl rfl ?_
        refine pw_getI dX2_single_80 fa_X2_31 rfl ?_
        refine pw_iald (j := s.1) dX2_single_83 rfl rfl (by omega) ?_
        refine pw_top (y := μ.1 10 s.1) rfl ?_
        refine pw_cVi dX2_single_84 mv_X2_101 ckReader (T_X2_write hs.2 hc) rfl rfl (Nat.le_of_ble_eq_true rfl) (by omega) (fun x_84 m_84 h_84 => ?_)
        obtain ⟨rfl, co2, rfl, hc2⟩ := h_84
        have hw1 : (wrS (μ.1 10 s.1) s).1 = s.1 := by unfold wrS; split <;> rfl
        refine pw_pop dX2_single_87 rfl ?_
        refine pw_goto (tgt := 118) dX2_single_88 (by decide) ?_
        refine pw_aload_n dX2_single_118 rfl rfl ?_
        refine pw_dup dX2_single_119 rfl ?_
        refine pw_getI dX2_single_120 fa_X2_31 rfl ?_
        refine pw_top (y := nI (wrS (μ.1 10 s.1) s).1) rfl ?_
        refine pw_iconst (v := 1) dX2_single_123 rfl ?_
        refine pw_iadd dX2_single_124 ?_
        refine pw_top (y := nI (tkS (wrS (μ.1 10 s.1) s)).1) (nI_1 _) ?_
        refine pw_putI dX2_single_125 fa_X2_31 rfl ?_
        refine pw_mem pM_a ?_
        refine pw_iconst (v := 1) dX2_single_128 rfl ?_
        refine pw_zret dX2_single_129 rfl (by simp) ?_
        have e : sinS (μ.1 8) (μ.1 10) q s = (true, tkS (wrS (μ.1 10 s.1) s)) := by
          unfold sinS
          rw [if_neg c_26, if_pos c_71]
        rw [e]
        exact ⟨rfl, co2, rfl, hc2, RI_tk2 ht (RI_wr hs) (by rw [hw1, c_71]; decide)⟩
    · skip
      have hn : nxt (μ.1 8) s 40 = true := decide_eq_true c_26
      refine pw_iload_n dX2_single_29 rfl rfl ?_
      refine pw_iconst (v := 5) dX2_single_30 rfl ?_
      refine pw_icmp_ge (tgt := 66) dX2_single_31 (by decide) (fun c_31 => ?_) (fun c_31 => ?_)
      · skip
        have hnone : q = none := by
          cases q with
          | none => rfl
          | some d => exact absurd c_31 (nI_ge (by have := (hq d rfl).1; omega) (by decide))
        refine pw_iconst (v := 0) dX2_single_66 rfl ?_
        refine pw_zret dX2_single_67 rfl (by simp) ?_
        have e : sinS (μ.1 8) (μ.1 10) q s = (false, s) := by
          unfold sinS
          rw [if_pos c_26, hnone]
        rw [e]
        exact ⟨rfl, co, rfl, hc, hs⟩
      · skip
        obtain ⟨d, hd⟩ : ∃ d, q = some d := by
          cases q with
          | none => exact absurd (nI_le (hno rfl) (by omega)) c_31
          | some d => exact ⟨d, rfl⟩
        have hop4 := (hq d hd).1
        have hde := (hq d hd).2
        refine pw_aload_n dX2_single_34 rfl rfl ?_
        refine pw_bipush (v := 40) dX2_single_35 rfl ?_
        refine pw_cVi dX2_single_37 mv_X2_50 ckReader (T_X2_take ht hs hc) rfl rfl (Nat.le_of_ble_eq_true rfl) (by omega) (fun x_37 m_37 h_37 => ?_)
        obtain ⟨rfl, rfl⟩ := h_37
        rw [hn, if_pos rfl]
        refine pw_if_eq (tgt := 66) dX2_single_40 (by decide) (fun c_40 => ?_) (fun c_40 => ?_)
        · skip
          exact absurd c_40 (by decide)
        · skip
          refine pw_aload_n dX2_single_43 rfl rfl ?_
          refine pw_iload_n dX2_single_44 rfl rfl ?_
          refine pw_iconst (v := 1) dX2_single_45 rfl ?_
          refine pw_iadd dX2_single_46 ?_
          refine pw_top (y := nI (op + 1)) (nI_1 op) ?_
          refine pw_cVi dX2_single_47 mv_X2_54 ckReader (hde (s := tkS s) (RI_tk ht hs hn (by decide)) hc) rfl rfl (Nat.le_of_ble_eq_true rfl) (by omega) (fun x_47 m_47 h_47 => ?_)
          obtain ⟨rfl, co1, rfl, hc1, hs3⟩ := h_47
          refine pw_if_eq (tgt := 66) dX2_single_50 (by decide) (fun c_50 => ?_) (fun c_50 => ?_)
          · skip
            have hb := b2_0 c_50
            refine pw_iconst (v := 0) dX2_single_66 rfl ?_
            refine pw_zret dX2_single_67 rfl (by simp) ?_
            have e : sinS (μ.1 8) (μ.1 10) q s = (false, (d (tkS s)).2) := by
              unfold sinS
              rw [if_pos c_26, hd]; show (if _ then _ else _) = _; rw [hb, if_neg (by decide)]
            rw [e]
            exact ⟨rfl, co1, rfl, hc1, hs3⟩
          · skip
            have hb := b2_n c_50
            refine pw_aload_n dX2_single_53 rfl rfl ?_
            refine pw_bipush (v := 41) dX2_single_54 rfl ?_
            refine pw_cVi dX2_single_56 mv_X2_50 ckReader (T_X2_take (s := (d (tkS s)).2) ht hs3 hc1) rfl rfl (Nat.le_of_ble_eq_true rfl) (by omega) (fun x_56 m_56 h_56 => ?_)
            obtain ⟨rfl, rfl⟩ := h_56
            refine pw_if_eq (tgt := 66) dX2_single_59 (by decide) (fun c_59 => ?_) (fun c_59 => ?_)
            · skip
              have hp := b2_0 c_59
              rw [hp, if_neg (by decide)]
              refine pw_iconst (v := 0) dX2_single_66 rfl ?_
              refine pw_zret dX2_single_67 rfl (by simp) ?_
              have e : sinS (μ.1 8) (μ.1 10) q s = (false, (d (tkS s)).2) := by
                unfold sinS
                rw [if_pos c_26, hd]; show (if _ then (if _ then _ else _) else _) = _; rw [hb, if_pos rfl, hp, if_neg (by decide)]
              rw [e]
              exact ⟨rfl, co1, rfl, hc1, hs3⟩
            · skip
              have hp := b2_n c_59
              rw [hp, if_pos rfl]
              refine pw_iconst (v := 1) dX2_single_62 rfl ?_
              refine pw_goto (tgt := 67) dX2_single_63 (by decide) ?_
              refine pw_zret dX2_single_67 rfl (by simp) ?_
              have e : sinS (μ.1 8) (μ.1 10) q s = (true, tkS (d (tkS s)).2) := by
                unfold sinS
                rw [if_pos c_26, hd]; show (if _ then (if _ then _ else _) else _) = _; rw [hb, if_pos rfl, hp, if_pos rfl]
              rw [e]
              exact ⟨rfl, co1, rfl, hc1, RI_tk ht hs3 hp (by decide)⟩
  · skip
    exact absurd (nI_lt hs1 (by omega)) c_8

set_option maxHeartbeats 4000000 in
set_option maxRecDepth 100000 in
theorem X2_one_of {l : Launch} {μ : PM} {nt op : Nat} {mo : Nat} {cm : Nat → RS → Bool × RS} {k2 : Nat} (ht : tokOK μ nt) (hk2 : 3 ≤ k2) (hm : op + mo = 5) (hsub : ∀ i, i ≤ mo → ∃ k1, k1 + 1 ≤ k2 ∧ RC l μ nt yX2_single cX2_single 3 k1 (op + i) (cm i)) : RC l μ nt yX2_one cX2_one 3 k2 op (rowS (μ.1 8) 45 (-11) mo cm) := by
  intro s co hs hc
  refine CT.of rfl (Nat.le_of_ble_eq_true rfl) ?_
  show PW l SC RX2 cX2_one 3 (some .boolean) (k2) _ 0 [(0, .ref 6), (1, .int (nI op))] [] (pM μ (nI s.1) (nI s.2.length) co)
  have hN := skN_le (ki := μ.1 8) (kd := 45) mo s
  have hI := skN_RI ht (kd := 45) (by decide) mo s hs
  obtain ⟨k1, hk1, hcall⟩ := hsub (skN (μ.1 8) 45 mo s) hN
  refine pw_aload_n dX2_one_0 rfl rfl ?_
  refine pw_bipush (v := 45) dX2_one_1 rfl ?_
  refine pw_iconst (v := 5) dX2_one_3 rfl ?_
  refine pw_iload_n dX2_one_4 rfl rfl ?_
  refine pw_isub dX2_one_5 ?_
  refine pw_top (y := nI mo) (sub5 hm) ?_
  refine pw_cVi dX2_one_6 mv_X2_112 ckReader (T_X2_takeSome (kd := 45) (mo := mo) ht hs hc (by omega) (by decide)) rfl rfl (Nat.le_of_ble_eq_true rfl) (by omega) (fun x_6 m_6 h_6 => ?_)
  obtain ⟨rfl, rfl⟩ := h_6
  refine pw_istore_n (ls2 := [(2, _), (0, _), (1, _)]) dX2_one_9 rfl (by decide) rfl ?_
  refine pw_aload_n dX2_one_10 rfl rfl ?_
  refine pw_iload_n dX2_one_11 rfl rfl ?_
  refine pw_iload_n dX2_one_12 rfl rfl ?_
  refine pw_iadd dX2_one_13 ?_
  refine pw_top (y := nI (op + (skN (μ.1 8) 45 mo s))) (nI_add op (skN (μ.1 8) 45 mo s)) ?_
  refine pw_cVi dX2_one_14 mv_X2_131 ckReader (hcall (s := (s.1 + (skN (μ.1 8) 45 mo s), s.2)) hI hc) rfl rfl (Nat.le_of_ble_eq_true rfl) (by omega) (fun x_14 m_14 h_14 => ?_)
  obtain ⟨rfl, co1, rfl, hc1, hs1⟩ := h_14
  refine pw_if_eq (tgt := 34) dX2_one_17 (by decide) (fun c_17 => ?_) (fun c_17 => ?_)
  · skip
    have hb := b2_0 c_17
    refine pw_iconst (v := 0) dX2_one_34 rfl ?_
    refine pw_zret dX2_one_35 rfl (by simp) ?_
    have e : rowS (μ.1 8) 45 (-11) mo cm s = (false, (cm (skN (μ.1 8) 45 mo s) (s.1 + (skN (μ.1 8) 45 mo s), s.2)).2) := by unfold rowS; rw [hb, if_neg (by decide)]
    rw [e]
    exact ⟨rfl, co1, rfl, hc1, hs1⟩
  · skip
    have hb := b2_n c_17
    refine pw_aload_n dX2_one_20 rfl rfl ?_
    refine pw_bipush (v := (-11)) dX2_one_21 rfl ?_
    refine pw_iload_n dX2_one_23 rfl rfl ?_
    refine pw_cVi dX2_one_24 mv_X2_118 ckReader (T_X2_writeSome (c := (-11)) (tm := (skN (μ.1 8) 45 mo s)) (s := (cm (skN (μ.1 8) 45 mo s) (s.1 + (skN (μ.1 8) 45 mo s), s.2)).2) hs1.2 hc1 (by omega)) rfl rfl (Nat.le_of_ble_eq_true rfl) (by omega) (fun x_24 m_24 h_24 => ?_)
    obtain ⟨rfl, co2, rfl, hc2⟩ := h_24
    refine pw_if_eq (tgt := 34) dX2_one_27 (by decide) (fun c_27 => ?_) (fun c_27 => ?_)
    · skip
      exact absurd c_27 (by decide)
    · skip
      refine pw_iconst (v := 1) dX2_one_30 rfl ?_
      refine pw_goto (tgt := 35) dX2_one_31 (by decide) ?_
      refine pw_zret dX2_one_35 rfl (by simp) ?_
      have e : rowS (μ.1 8) 45 (-11) mo cm s = (true, wrN (-11) (skN (μ.1 8) 45 mo s) (cm (skN (μ.1 8) 45 mo s) (s.1 + (skN (μ.1 8) 45 mo s), s.2)).2) := by unfold rowS; rw [hb, if_pos rfl]
      rw [e]
      exact ⟨rfl, co2, rfl, hc2, RI_wrN _ _ hs1⟩

theorem RC_eq {l : Launch} {μ : PM} {nt : Nat} {y : MethodName} {cc : ByteArray} {mL k op : Nat} {f g : RS → Bool × RS} (e : ∀ s, g s = f s) (h : RC l μ nt y cc mL k op f) : RC l μ nt y cc mL k op g := (funext e : g = f) ▸ h
/-- one reading more, over those with less room -/
theorem PT_step {l : Launch} {μ : PM} {nt : Nat} (ht : tokOK μ nt) (r : Nat) (hr : r ≤ 5) (he : ∀ j, j < r → RC l μ nt yX2_either cX2_either 3 (10 + 8 * j) (5 - j) (PT (μ.1 8) (μ.1 10) j).1) : RC l μ nt yX2_either cX2_either 3 (10 + 8 * r) (5 - r) (PT (μ.1 8) (μ.1 10) r).1 := by
  have sg : ∀ j, j ≤ r → RC l μ nt yX2_single cX2_single 3 (3 + 8 * j) (5 - j) (sinS (μ.1 8) (μ.1 10) (eS (μ.1 8) (μ.1 10) j)) := by
    intro j hj
    match j, hj with
    | 0, _ => exact X2_single_of (q := none) (k1 := 2) ht (by decide) (by decide) (by decide) (fun _ => by decide) (fun d h => by cases h)
    | j + 1, hj =>
      refine X2_single_of (q := some (PT (μ.1 8) (μ.1 10) j).1) (k1 := 10 + 8 * j) ht (by omega) (by omega) (by omega) (fun h => by cases h) (fun d h => ?_)
      cases h
      refine ⟨by omega, ?_⟩
      rw [show 5 - (j + 1) + 1 = 5 - j by omega]
      exact he j (by omega)
  have on : ∀ j, j ≤ r → RC l μ nt yX2_one cX2_one 3 (4 + 8 * j) (5 - j) (PT (μ.1 8) (μ.1 10) j).2.2 := by
    intro j hj
    refine RC_eq (PT_one j) (X2_one_of (op := 5 - j) (mo := j) (k2 := 4 + 8 * j) ht (by omega) (by omega) (fun i hi => ⟨3 + 8 * (j - i), by omega, ?_⟩))
    rw [show 5 - j + i = 5 - (j - i) by omega]
    exact sg (j - i) (by omega)
  have cp : ∀ j, j ≤ r → RC l μ nt yX2_compared cX2_compared 2 (7 + 8 * j) (5 - j) (cmpS (μ.1 8) (sumO (μ.1 8) (PT (μ.1 8) (μ.1 10) j).2.2)) := by
    intro j hj
    have t := X2_term_of (k2 := 5 + 8 * j) ht (by omega) (by omega) (by omega) (on j hj)
    have s := X2_sum_of (k2 := 6 + 8 * j) ht (by omega) (by omega) (by omega) t
    exact X2_compared_of (k2 := 7 + 8 * j) ht (by omega) (by omega) (by omega) s
  have d : RC l μ nt yX2_denied cX2_denied 3 (8 + 8 * r) (5 - r) (PT (μ.1 8) (μ.1 10) r).2.1 := by
    refine RC_eq (PT_den r) (X2_denied_of (op := 5 - r) (mo := r) (k2 := 8 + 8 * r) ht (by omega) (by omega) (fun i hi => ⟨7 + 8 * (r - i), by omega, ?_⟩))
    rw [show 5 - r + i = 5 - (r - i) by omega]
    exact cp (r - i) (by omega)
  have b := X2_both_of (k2 := 9 + 8 * r) ht (by omega) (by omega) (by omega) d
  rw [PT_eit]
  exact X2_either_of (k2 := 10 + 8 * r) ht (by omega) (by omega) (by omega) b
/-- all readings, with room for r more that are open -/
theorem PT_of {l : Launch} {μ : PM} {nt : Nat} (ht : tokOK μ nt) (r : Nat) (hr : r ≤ 5) : RC l μ nt yX2_either cX2_either 3 (10 + 8 * r) (5 - r) (PT (μ.1 8) (μ.1 10) r).1 := by
  induction r using Nat.strongRecOn with
  | ind r ih => exact PT_step ht r hr (fun j hj => ih j hj (by omega))

