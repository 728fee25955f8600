def RC (l : Launch) (μ : PM) (nt : Nat) (y : MethodName) (cc : ByteArray) (mL k op : Nat) (f : RS → Bool × RS) : Prop :=
  ∀ ⦃s : RS⦄ ⦃co : Nat → Int32⦄, RI nt s → rowL co s.2 → CT l SC y cc mL (some .boolean) k [.ref 6, .int (nI op)] (pM μ (nI s.1) (nI s.2.length) co) (QI fun x m => x = b2 (f s).1 ∧ ∃ co2, m = pM μ (nI (f s).2.1) (nI (f s).2.2.length) co2 ∧ rowL co2 (f s).2.2 ∧ RI nt (f s).2)
theorem pair_f {p : Bool × RS} (h : p.1 = false) : p = (false, p.2) := Prod.ext h rfl
theorem pair_t {p : Bool × RS} (h : p.1 = true) : p = (true, p.2) := Prod.ext h rfl
set_option maxHeartbeats 4000000 in
set_option maxRecDepth 100000 in
theorem X2_term_of {l : Launch} {μ : PM} {nt op : Nat} {f : RS → Bool × RS} {k1 k2 : Nat} (ht : tokOK μ nt) (hk : 2 ≤ k1) (hk2 : k1 + 1 ≤ k2) (hop : op ≤ 5) (hsub : RC l μ nt yX2_one cX2_one 3 k1 op f) : RC l μ nt yX2_term cX2_term 3 k2 op (seqS (μ.1 8) 42 f (-18)) := by
  intro s co hs hc
  refine CT.of rfl (Nat.le_of_ble_eq_true rfl) ?_
  show PW l SC RX2 cX2_term 3 (some .boolean) (k2) _ 0 [(0, .ref 6), (1, .int (nI op))] [] (pM μ (nI s.1) (nI s.2.length) co)
  refine pw_aload_n dX2_term_0 rfl rfl ?_
  refine pw_iload_n dX2_term_1 rfl rfl ?_
  refine pw_cVi dX2_term_2 mv_X2_128 ckReader (hsub hs hc) rfl rfl (Nat.le_of_ble_eq_true rfl) (by omega) (fun x_2 m_2 h_2 => ?_)
  obtain ⟨rfl, co1, rfl, hc1, hs1⟩ := h_2
  refine pw_if_ne (tgt := 10) dX2_term_5 (by decide) (fun c_5 => ?_) (fun c_5 => ?_)
  · skip
    have hb := b2_n c_5
    refine pw_iconst (v := 0) dX2_term_10 rfl ?_
    refine pw_istore_n (ls2 := [(2, _), (0, _), (1, _)]) dX2_term_11 rfl (by decide) rfl ?_
    have L_12 : ∀ (fu_12 : Nat) (i : Nat) (q : RS) (coq : Nat → Int32), (i ≤ 160) → (RI nt q) → (rowL coq q.2) → (lpS (μ.1 8) 42 f (-18) (160 - i) q = seqS (μ.1 8) 42 f (-18) s) → 160 - i < fu_12 → PW l SC RX2 cX2_term 3 (some .boolean) (k2) (QI fun x m => x = b2 (seqS (μ.1 8) 42 f (-18) s).1 ∧ ∃ co2, m = pM μ (nI (seqS (μ.1 8) 42 f (-18) s).2.1) (nI (seqS (μ.1 8) 42 f (-18) s).2.2.length) co2 ∧ rowL co2 (seqS (μ.1 8) 42 f (-18) s).2.2 ∧ RI nt (seqS (μ.1 8) 42 f (-18) s).2) 12 [(0, .ref 6), (1, .int (nI op)), (2, .int (nI i))] [] (pM μ (nI q.1) (nI q.2.length) coq) := by
      intro fu_12
      induction fu_12 with
      | zero =>
        intro i q coq hi hq hcq hx hm_12
        exact absurd hm_12 (Nat.not_lt_zero _)
      | succ fu_12 ih_12 =>
        intro i q coq hi hq hcq hx hm_12
        refine pw_iload_n dX2_term_12 rfl rfl ?_
        refine pw_sipush (v := 160) dX2_term_13 rfl ?_
        refine pw_icmp_ge (tgt := 51) dX2_term_16 (by decide) (fun c_16 => ?_) (fun c_16 => ?_)
        · skip
          have hge := nI_geD (n := 160) (by decide) c_16
          refine pw_iconst (v := 1) dX2_term_51 rfl ?_
          refine pw_zret dX2_term_52 rfl (by simp) ?_
          rw [← hx, show 160 - i = 0 by omega]
          exact ⟨rfl, coq, rfl, hcq, hq⟩
        · skip
          have hlt := nI_ltD (n := 160) (by omega) c_16
          refine pw_aload_n dX2_term_19 rfl rfl ?_
          refine pw_bipush (v := 42) dX2_term_20 rfl ?_
          refine pw_cVi dX2_term_22 mv_X2_50 ckReader (T_X2_take (s := q) ht hq hcq) rfl rfl (Nat.le_of_ble_eq_true rfl) (by omega) (fun x_22 m_22 h_22 => ?_)
          obtain ⟨rfl, rfl⟩ := h_22
          refine pw_if_eq (tgt := 51) dX2_term_25 (by decide) (fun c_25 => ?_) (fun c_25 => ?_)
          · skip
            have hn := b2_0 c_25
            refine pw_iconst (v := 1) dX2_term_51 rfl ?_
            refine pw_zret dX2_term_52 rfl (by simp) ?_
            rw [← hx, show 160 - i = (160 - (i + 1)) + 1 by omega]
            have e : lpS (μ.1 8) 42 f (-18) ((160 - (i + 1)) + 1) q = (true, q) := by
              show (if _ then (if _ then _ else _) else _) = _
              rw [hn, if_neg (by decide)]
            rw [e]
            exact ⟨rfl, coq, by rw [hn]; rfl, hcq, hq⟩
          · skip
            have hn := b2_n c_25
            rw [hn, if_pos rfl]
            refine pw_aload_n dX2_term_28 rfl rfl ?_
            refine pw_iload_n dX2_term_29 rfl rfl ?_
            refine pw_cVi dX2_term_30 mv_X2_128 ckReader (hsub (s := tkS q) (RI_tk ht hq hn (by decide)) hcq) rfl rfl (Nat.le_of_ble_eq_true rfl) (by omega) (fun x_30 m_30 h_30 => ?_)
            obtain ⟨rfl, co3, rfl, hc3, hs3⟩ := h_30
            refine pw_if_ne (tgt := 38) dX2_term_33 (by decide) (fun c_33 => ?_) (fun c_33 => ?_)
            · skip
              have hb3 := b2_n c_33
              refine pw_aload_n dX2_term_38 rfl rfl ?_
              refine pw_bipush (v := (-18)) dX2_term_39 rfl ?_
              refine pw_cVi dX2_term_41 mv_X2_101 ckReader (T_X2_write (s := (f (tkS q)).2) hs3.2 hc3) rfl rfl (Nat.le_of_ble_eq_true rfl) (by omega) (fun x_41 m_41 h_41 => ?_)
              obtain ⟨rfl, co4, rfl, hc4⟩ := h_41
              refine pw_pop dX2_term_44 rfl ?_
              refine pw_iinc (ls2 := [(2, _), (0, _), (1, _)]) (v := nI (i + 1)) dX2_term_45 rfl (inc1 i) (by decide) rfl ?_
              refine pw_goto (tgt := 12) dX2_term_48 (by decide) ?_
              refine pw_sub [1, 2, 0] rfl ?_
              exact ih_12 (i + 1) (wrS ((-18)) (f (tkS q)).2) co4 hlt (RI_wr hs3) hc4 (by rw [← hx, show 160 - i = (160 - (i + 1)) + 1 by omega]; show _ = if _ then (if _ then _ else _) else _; rw [hn, if_pos rfl, hb3, if_pos rfl]) (by omega)
            · skip
              have hb3 := b2_0 c_33
              refine pw_iconst (v := 0) dX2_term_36 rfl ?_
              refine pw_zret dX2_term_37 rfl (by simp) ?_
              rw [← hx, show 160 - i = (160 - (i + 1)) + 1 by omega]
              have e : lpS (μ.1 8) 42 f (-18) ((160 - (i + 1)) + 1) q = (false, (f (tkS q)).2) := by
                show (if _ then (if _ then _ else _) else _) = _
                rw [hn, if_pos rfl, hb3, if_neg (by decide)]
              rw [e]
              exact ⟨rfl, co3, rfl, hc3, hs3⟩
    refine pw_sub [1, 2, 0] rfl ?_
    exact L_12 161 0 (f s).2 co1 (Nat.zero_le _) hs1 hc1 (by unfold seqS; rw [hb, if_pos rfl]) (by omega)
  · skip
    have hb := b2_0 c_5
    refine pw_iconst (v := 0) dX2_term_8 rfl ?_
    refine pw_zret dX2_term_9 rfl (by simp) ?_
    have e : seqS (μ.1 8) 42 f (-18) s = (false, (f s).2) := by unfold seqS; rw [hb, if_neg (by decide)]
    rw [e]
    exact ⟨rfl, co1, rfl, hc1, hs1⟩

set_option maxHeartbeats 4000000 in
set_option maxRecDepth 100000 in
theorem X2_both_of {l : Launch} {μ : PM} {nt op : Nat} {f : RS → Bool × RS} {k1 k2 : Nat} (ht : tokOK μ nt) (hk : 2 ≤ k1) (hk2 : k1 + 1 ≤ k2) (hop : op ≤ 5) (hsub : RC l μ nt yX2_denied cX2_denied 3 k1 op f) : RC l μ nt yX2_both cX2_both 3 k2 op (seqS (μ.1 8) 5 f (-13)) := by
  intro s co hs hc
  refine CT.of rfl (Nat.le_of_ble_eq_true rfl) ?_
  show PW l SC RX2 cX2_both 3 (some .boolean) (k2) _ 0 [(0, .ref 6), (1, .int (nI op))] [] (pM μ (nI s.1) (nI s.2.length) co)
  refine pw_aload_n dX2_both_0 rfl rfl ?_
  refine pw_iload_n dX2_both_1 rfl rfl ?_
  refine pw_cVi dX2_both_2 mv_X2_109 ckReader (hsub hs hc) rfl rfl (Nat.le_of_ble_eq_true rfl) (by omega) (fun x_2 m_2 h_2 => ?_)
  obtain ⟨rfl, co1, rfl, hc1, hs1⟩ := h_2
  refine pw_if_ne (tgt := 10) dX2_both_5 (by decide) (fun c_5 => ?_) (fun c_5 => ?_)
  · skip
    have hb := b2_n c_5
    refine pw_iconst (v := 0) dX2_both_10 rfl ?_
    refine pw_istore_n (ls2 := [(2, _), (0, _), (1, _)]) dX2_both_11 rfl (by decide) rfl ?_
    have L_12 : ∀ (fu_12 : Nat) (i : Nat) (q : RS) (coq : Nat → Int32), (i ≤ 160) → (RI nt q) → (rowL coq q.2) → (lpS (μ.1 8) 5 f (-13) (160 - i) q = seqS (μ.1 8) 5 f (-13) s) → 160 - i < fu_12 → PW l SC RX2 cX2_both 3 (some .boolean) (k2) (QI fun x m => x = b2 (seqS (μ.1 8) 5 f (-13) s).1 ∧ ∃ co2, m = pM μ (nI (seqS (μ.1 8) 5 f (-13) s).2.1) (nI (seqS (μ.1 8) 5 f (-13) s).2.2.length) co2 ∧ rowL co2 (seqS (μ.1 8) 5 f (-13) s).2.2 ∧ RI nt (seqS (μ.1 8) 5 f (-13) s).2) 12 [(0, .ref 6), (1, .int (nI op)), (2, .int (nI i))] [] (pM μ (nI q.1) (nI q.2.length) coq) := by
      intro fu_12
      induction fu_12 with
      | zero =>
        intro i q coq hi hq hcq hx hm_12
        exact absurd hm_12 (Nat.not_lt_zero _)
      | succ fu_12 ih_12 =>
        intro i q coq hi hq hcq hx hm_12
        refine pw_iload_n dX2_both_12 rfl rfl ?_
        refine pw_sipush (v := 160) dX2_both_13 rfl ?_
        refine pw_icmp_ge (tgt := 50) dX2_both_16 (by decide) (fun c_16 => ?_) (fun c_16 => ?_)
        · skip
          have hge := nI_geD (n := 160) (by decide) c_16
          refine pw_iconst (v := 1) dX2_both_50 rfl ?_
          refine pw_zret dX2_both_51 rfl (by simp) ?_
          rw [← hx, show 160 - i = 0 by omega]
          exact ⟨rfl, coq, rfl, hcq, hq⟩
        · skip
          have hlt := nI_ltD (n := 160) (by omega) c_16
          refine pw_aload_n dX2_both_19 rfl rfl ?_
          refine pw_iconst (v := 5) dX2_both_20 rfl ?_
          refine pw_cVi dX2_both_21 mv_X2_50 ckReader (T_X2_take (s := q) ht hq hcq) rfl rfl (Nat.le_of_ble_eq_true rfl) (by omega) (fun x_21 m_21 h_21 => ?_)
          obtain ⟨rfl, rfl⟩ := h_21
          refine pw_if_eq (tgt := 50) dX2_both_24 (by decide) (fun c_24 => ?_) (fun c_24 => ?_)
          · skip
            have hn := b2_0 c_24
            refine pw_iconst (v := 1) dX2_both_50 rfl ?_
            refine pw_zret dX2_both_51 rfl (by simp) ?_
            rw [← hx, show 160 - i = (160 - (i + 1)) + 1 by omega]
            have e : lpS (μ.1 8) 5 f (-13) ((160 - (i + 1)) + 1) q = (true, q) := by
              show (if _ then (if _ then _ else _) else _) = _
              rw [hn, if_neg (by decide)]
            rw [e]
            exact ⟨rfl, coq, by rw [hn]; rfl, hcq, hq⟩
          · skip
            have hn := b2_n c_24
            rw [hn, if_pos rfl]
            refine pw_aload_n dX2_both_27 rfl rfl ?_
            refine pw_iload_n dX2_both_28 rfl rfl ?_
            refine pw_cVi dX2_both_29 mv_X2_109 ckReader (hsub (s := tkS q) (RI_tk ht hq hn (by decide)) hcq) rfl rfl (Nat.le_of_ble_eq_true rfl) (by omega) (fun x_29 m_29 h_29 => ?_)
            obtain ⟨rfl, co3, rfl, hc3, hs3⟩ := h_29
            refine pw_if_ne (tgt := 37) dX2_both_32 (by decide) (fun c_32 => ?_) (fun c_32 => ?_)
            · skip
              have hb3 := b2_n c_32
              refine pw_aload_n dX2_both_37 rfl rfl ?_
              refine pw_bipush (v := (-13)) dX2_both_38 rfl ?_
              refine pw_cVi dX2_both_40 mv_X2_101 ckReader (T_X2_write (s := (f (tkS q)).2) hs3.2 hc3) rfl rfl (Nat.le_of_ble_eq_true rfl) (by omega) (fun x_40 m_40 h_40 => ?_)
              obtain ⟨rfl, co4, rfl, hc4⟩ := h_40
              refine pw_pop dX2_both_43 rfl ?_
              refine pw_iinc (ls2 := [(2, _), (0, _), (1, _)]) (v := nI (i + 1)) dX2_both_44 rfl (inc1 i) (by decide) rfl ?_
              refine pw_goto (tgt := 12) dX2_both_47 (by decide) ?_
              refine pw_sub [1, 2, 0] rfl ?_
              exact ih_12 (i + 1) (wrS ((-13)) (f (tkS q)).2) co4 hlt (RI_wr hs3) hc4 (by rw [← hx, show 160 - i = (160 - (i + 1)) + 1 by omega]; show _ = if _ then (if _ then _ else _) else _; rw [hn, if_pos rfl, hb3, if_pos rfl]) (by omega)
            · skip
              have hb3 := b2_0 c_32
              refine pw_iconst (v := 0) dX2_both_35 rfl ?_
              refine pw_zret dX2_both_36 rfl (by simp) ?_
              rw [← hx, show 160 - i = (160 - (i + 1)) + 1 by omega]
              have e : lpS (μ.1 8) 5 f (-13) ((160 - (i + 1)) + 1) q = (false, (f (tkS q)).2) := by
                show (if _ then (if _ then _ else _) else _) = _
                rw [hn, if_pos rfl, hb3, if_neg (by decide)]
              rw [e]
              exact ⟨rfl, co3, rfl, hc3, hs3⟩
    refine pw_sub [1, 2, 0] rfl ?_
    exact L_12 161 0 (f s).2 co1 (Nat.zero_le _) hs1 hc1 (by unfold seqS; rw [hb, if_pos rfl]) (by omega)
  · skip
    have hb := b2_0 c_5
    refine pw_iconst (v := 0) dX2_both_8 rfl ?_
    refine pw_zret dX2_both_9 rfl (by simp) ?_
    have e : seqS (μ.1 8) 5 f (-13) s = (false, (f s).2) := by unfold seqS; rw [hb, if_neg (by decide)]
    rw [e]
    exact ⟨rfl, co1, rfl, hc1, hs1⟩

set_option maxHeartbeats 4000000 in
set_option maxRecDepth 100000 in
theorem X2_either_of {l : Launch} {μ : PM} {nt op : Nat} {f : RS → Bool × RS} {k1 k2 : Nat} (ht : tokOK μ nt) (hk : 2 ≤ k1) (hk2 : k1 + 1 ≤ k2) (hop : op ≤ 5) (hsub : RC l μ nt yX2_both cX2_both 3 k1 op f) : RC l μ nt yX2_either cX2_either 3 k2 op (seqS (μ.1 8) 4 f (-12)) := by
  intro s co hs hc
  refine CT.of rfl (Nat.le_of_ble_eq_true rfl) ?_
  show PW l SC RX2 cX2_either 3 (some .boolean) (k2) _ 0 [(0, .ref 6), (1, .int (nI op))] [] (pM μ (nI s.1) (nI s.2.length) co)
  refine pw_aload_n dX2_either_0 rfl rfl ?_
  refine pw_iload_n dX2_either_1 rfl rfl ?_
  refine pw_cVi dX2_either_2 mv_X2_104 ckReader (hsub hs hc) rfl rfl (Nat.le_of_ble_eq_true rfl) (by omega) (fun x_2 m_2 h_2 => ?_)
  obtain ⟨rfl, co1, rfl, hc1, hs1⟩ := h_2
  refine pw_if_ne (tgt := 10) dX2_either_5 (by decide) (fun c_5 => ?_) (fun c_5 => ?_)
  · skip
    have hb := b2_n c_5
    refine pw_iconst (v := 0) dX2_either_10 rfl ?_
    refine pw_istore_n (ls2 := [(2, _), (0, _), (1, _)]) dX2_either_11 rfl (by decide) rfl ?_
    have L_12 : ∀ (fu_12 : Nat) (i : Nat) (q : RS) (coq : Nat → Int32), (i ≤ 160) → (RI nt q) → (rowL coq q.2) → (lpS (μ.1 8) 4 f (-12) (160 - i) q = seqS (μ.1 8) 4 f (-12) s) → 160 - i < fu_12 → PW l SC RX2 cX2_either 3 (some .boolean) (k2) (QI fun x m => x = b2 (seqS (μ.1 8) 4 f (-12) s).1 ∧ ∃ co2, m = pM μ (nI (seqS (μ.1 8) 4 f (-12) s).2.1) (nI (seqS (μ.1 8) 4 f (-12) s).2.2.length) co2 ∧ rowL co2 (seqS (μ.1 8) 4 f (-12) s).2.2 ∧ RI nt (seqS (μ.1 8) 4 f (-12) s).2) 12 [(0, .ref 6), (1, .int (nI op)), (2, .int (nI i))] [] (pM μ (nI q.1) (nI q.2.length) coq) := by
      intro fu_12
      induction fu_12 with
      | zero =>
        intro i q coq hi hq hcq hx hm_12
        exact absurd hm_12 (Nat.not_lt_zero _)
      | succ fu_12 ih_12 =>
        intro i q coq hi hq hcq hx hm_12
        refine pw_iload_n dX2_either_12 rfl rfl ?_
        refine pw_sipush (v := 160) dX2_either_13 rfl ?_
        refine pw_icmp_ge (tgt := 50) dX2_either_16 (by decide) (fun c_16 => ?_) (fun c_16 => ?_)
        · skip
          have hge := nI_geD (n := 160) (by decide) c_16
          refine pw_iconst (v := 1) dX2_either_50 rfl ?_
          refine pw_zret dX2_either_51 rfl (by simp) ?_
          rw [← hx, show 160 - i = 0 by omega]
          exact ⟨rfl, coq, rfl, hcq, hq⟩
        · skip
          have hlt := nI_ltD (n := 160) (by omega) c_16
          refine pw_aload_n dX2_either_19 rfl rfl ?_
          refine pw_iconst (v := 4) dX2_either_20 rfl ?_
          refine pw_cVi dX2_either_21 mv_X2_50 ckReader (T_X2_take (s := q) ht hq hcq) rfl rfl (Nat.le_of_ble_eq_true rfl) (by omega) (fun x_21 m_21 h_21 => ?_)
          obtain ⟨rfl, rfl⟩ := h_21
          refine pw_if_eq (tgt := 50) dX2_either_24 (by decide) (fun c_24 => ?_) (fun c_24 => ?_)
          · skip
            have hn := b2_0 c_24
            refine pw_iconst (v := 1) dX2_either_50 rfl ?_
            refine pw_zret dX2_either_51 rfl (by simp) ?_
            rw [← hx, show 160 - i = (160 - (i + 1)) + 1 by omega]
            have e : lpS (μ.1 8) 4 f (-12) ((160 - (i + 1)) + 1) q = (true, q) := by
              show (if _ then (if _ then _ else _) else _) = _
              rw [hn, if_neg (by decide)]
            rw [e]
            exact ⟨rfl, coq, by rw [hn]; rfl, hcq, hq⟩
          · skip
            have hn := b2_n c_24
            rw [hn, if_pos rfl]
            refine pw_aload_n dX2_either_27 rfl rfl ?_
            refine pw_iload_n dX2_either_28 rfl rfl ?_
            refine pw_cVi dX2_either_29 mv_X2_104 ckReader (hsub (s := tkS q) (RI_tk ht hq hn (by decide)) hcq) rfl rfl (Nat.le_of_ble_eq_true rfl) (by omega) (fun x_29 m_29 h_29 => ?_)
            obtain ⟨rfl, co3, rfl, hc3, hs3⟩ := h_29
            refine pw_if_ne (tgt := 37) dX2_either_32 (by decide) (fun c_32 => ?_) (fun c_32 => ?_)
            · skip
              have hb3 := b2_n c_32
              refine pw_aload_n dX2_either_37 rfl rfl ?_
              refine pw_bipush (v := (-12)) dX2_either_38 rfl ?_
              refine pw_cVi dX2_either_40 mv_X2_101 ckReader (T_X2_write (s := (f (tkS q)).2) hs3.2 hc3) rfl rfl (Nat.le_of_ble_eq_true rfl) (by omega) (fun x_40 m_40 h_40 => ?_)
              obtain ⟨rfl, co4, rfl, hc4⟩ := h_40
              refine pw_pop dX2_either_43 rfl ?_
              refine pw_iinc (ls2 := [(2, _), (0, _), (1, _)]) (v := nI (i + 1)) dX2_either_44 rfl (inc1 i) (by decide) rfl ?_
              refine pw_goto (tgt := 12) dX2_either_47 (by decide) ?_
              refine pw_sub [1, 2, 0] rfl ?_
              exact ih_12 (i + 1) (wrS ((-12)) (f (tkS q)).2) co4 hlt (RI_wr hs3) hc4 (by rw [← hx, show 160 - i = (160 - (i + 1)) + 1 by omega]; show _ = if _ then (if _ then _ else _) else _; rw [hn, if_pos rfl, hb3, if_pos rfl]) (by omega)
            · skip
              have hb3 := b2_0 c_32
              refine pw_iconst (v := 0) dX2_either_35 rfl ?_
              refine pw_zret dX2_either_36 rfl (by simp) ?_
              rw [← hx, show 160 - i = (160 - (i + 1)) + 1 by omega]
              have e : lpS (μ.1 8) 4 f (-12) ((160 - (i + 1)) + 1) q = (false, (f (tkS q)).2) := by
                show (if _ then (if _ then _ else _) else _) = _
                rw [hn, if_pos rfl, hb3, if_neg (by decide)]
              rw [e]
              exact ⟨rfl, co3, rfl, hc3, hs3⟩
    refine pw_sub [1, 2, 0] rfl ?_
    exact L_12 161 0 (f s).2 co1 (Nat.zero_le _) hs1 hc1 (by unfold seqS; rw [hb, if_pos rfl]) (by omega)
  · skip
    have hb := b2_0 c_5
    refine pw_iconst (v := 0) dX2_either_8 rfl ?_
    refine pw_zret dX2_either_9 rfl (by simp) ?_
    have e : seqS (μ.1 8) 4 f (-12) s = (false, (f s).2) := by unfold seqS; rw [hb, if_neg (by decide)]
    rw [e]
    exact ⟨rfl, co1, rfl, hc1, hs1⟩

set_option maxHeartbeats 4000000 in
set_option maxRecDepth 100000 in
theorem X2_sum_of {l : Launch} {μ : PM} {nt op : Nat} {f : RS → Bool × RS} {k1 k2 : Nat} (ht : tokOK μ nt) (hk : 2 ≤ k1) (hk2 : k1 + 1 ≤ k2) (hop : op ≤ 5) (hsub : RC l μ nt yX2_term cX2_term 3 k1 op f) : RC l μ nt yX2_sum cX2_sum 4 k2 op (sumS (μ.1 8) f) := by
  intro s co hs hc
  refine CT.of rfl (Nat.le_of_ble_eq_true rfl) ?_
  show PW l SC RX2 cX2_sum 4 (some .boolean) (k2) _ 0 [(0, .ref 6), (1, .int (nI op))] [] (pM μ (nI s.1) (nI s.2.length) co)
  refine pw_aload_n dX2_sum_0 rfl rfl ?_
  refine pw_iload_n dX2_sum_1 rfl rfl ?_
  refine pw_cVi dX2_sum_2 mv_X2_125 ckReader (hsub hs hc) rfl rfl (Nat.le_of_ble_eq_true rfl) (by omega) (fun x_2 m_2 h_2 => ?_)
  obtain ⟨rfl, co1, rfl, hc1, hs1⟩ := h_2
  refine pw_if_ne (tgt := 10) dX2_sum_5 (by decide) (fun c_5 => ?_) (fun c_5 => ?_)
  · skip
    have hb := b2_n c_5
    refine pw_iconst (v := 0) dX2_sum_10 rfl ?_
    refine pw_istore_n (ls2 := [(2, _), (0, _), (1, _)]) dX2_sum_11 rfl (by decide) rfl ?_
    have L_12 : ∀ (fu_12 : Nat) (i : Nat) (q : RS) (coq : Nat → Int32), (i ≤ 160) → (RI nt q) → (rowL coq q.2) → (lpP (μ.1 8) f (160 - i) q = sumS (μ.1 8) f s) → 160 - i < fu_12 → PW l SC RX2 cX2_sum 4 (some .boolean) (k2) (QI fun x m => x = b2 (sumS (μ.1 8) f s).1 ∧ ∃ co2, m = pM μ (nI (sumS (μ.1 8) f s).2.1) (nI (sumS (μ.1 8) f s).2.2.length) co2 ∧ rowL co2 (sumS (μ.1 8) f s).2.2 ∧ RI nt (sumS (μ.1 8) f s).2) 12 [(0, .ref 6), (1, .int (nI op)), (2, .int (nI i))] [] (pM μ (nI q.1) (nI q.2.length) coq) := by
      intro fu_12
      induction fu_12 with
      | zero =>
        intro i q coq hi hq hcq hx hm_12
        exact absurd hm_12 (Nat.not_lt_zero _)
      | succ fu_12 ih_12 =>
        intro i q coq hi hq hcq hx hm_12
        refine pw_iload_n dX2_sum_12 rfl rfl ?_
        refine pw_sipush (v := 160) dX2_sum_13 rfl ?_
        refine pw_icmp_ge (tgt := 86) dX2_sum_16 (by decide) (fun c_16 => ?_) (fun c_16 => ?_)
        · skip
          have hge := nI_geD (n := 160) (by decide) c_16
          refine pw_iconst (v := 1) dX2_sum_86 rfl ?_
          refine pw_zret dX2_sum_87 rfl (by simp) ?_
          rw [← hx, show 160 - i = 0 by omega]
          exact ⟨rfl, coq, rfl, hcq, hq⟩
        · skip
          have hlt := nI_ltD (n := 160) (by omega) c_16
          refine pw_aload_n dX2_sum_19 rfl rfl ?_
          refine pw_bipush (v := 43) dX2_sum_20 rfl ?_
          refine pw_cVi dX2_sum_22 mv_X2_57 ckReader (T_X2_isNext (s := q) ht hq hcq) rfl rfl (Nat.le_of_ble_eq_true rfl) (by omega) (fun x_22 m_22 h_22 => ?_)
          obtain ⟨rfl, rfl⟩ := h_22
          refine pw_if_ne (tgt := 37) dX2_sum_25 (by decide) (fun c_25 => ?_) (fun c_25 => ?_)
          · skip
            have hp := b2_n c_25
            have hor : (nxt (μ.1 8) q 43 || nxt (μ.1 8) q 45) = true := by rw [hp]; rfl
            have hI : RI nt (tkS q) := RI_tk ht hq hp (by decide)
            refine pw_aload_n dX2_sum_37 rfl rfl ?_
            refine pw_bipush (v := 43) dX2_sum_38 rfl ?_
            refine pw_cVi dX2_sum_40 mv_X2_57 ckReader (T_X2_isNext (s := q) ht hq hcq) rfl rfl (Nat.le_of_ble_eq_true rfl) (by omega) (fun x_40 m_40 h_40 => ?_)
            obtain ⟨rfl, rfl⟩ := h_40
            refine pw_if_eq (tgt := 51) dX2_sum_43 (by decide) (fun c_43 => ?_) (fun c_43 => ?_)
            · skip
              have hp2 := b2_0 c_43
              refine pw_bipush (v := (-17)) dX2_sum_51 rfl ?_
              refine pw_top (y := if nxt (μ.1 8) q 43 then -16 else -17) (by rw [hp2]; rfl) ?_
              refine pw_istore_n (ls2 := [(3, _), (0, _), (1, _), (2, _)]) dX2_sum_53 rfl (by decide) rfl ?_
              refine pw_aload_n dX2_sum_54 rfl rfl ?_
              refine pw_dup dX2_sum_55 rfl ?_
              refine pw_getI dX2_sum_56 fa_X2_31 rfl ?_
              refine pw_top (y := nI q.1) rfl ?_
              refine pw_iconst (v := 1) dX2_sum_59 rfl ?_
              refine pw_iadd dX2_sum_60 ?_
              refine pw_top (y := nI (tkS q).1) (nI_1 q.1) ?_
              refine pw_putI dX2_sum_61 fa_X2_31 rfl ?_
              refine pw_mem pM_a ?_
              refine pw_aload_n dX2_sum_64 rfl rfl ?_
              refine pw_iload_n dX2_sum_65 rfl rfl ?_
              refine pw_cVi dX2_sum_66 mv_X2_125 ckReader (hsub (s := tkS q) hI hcq) rfl rfl (Nat.le_of_ble_eq_true rfl) (by omega) (fun x_66 m_66 h_66 => ?_)
              obtain ⟨rfl, co3, rfl, hc3, hs3⟩ := h_66
              refine pw_if_ne (tgt := 74) dX2_sum_69 (by decide) (fun c_69 => ?_) (fun c_69 => ?_)
              · skip
                have hb3 := b2_n c_69
                refine pw_aload_n dX2_sum_74 rfl rfl ?_
                refine pw_iload_n dX2_sum_75 rfl rfl ?_
                refine pw_cVi dX2_sum_76 mv_X2_101 ckReader (T_X2_write (s := (f (tkS q)).2) hs3.2 hc3) rfl rfl (Nat.le_of_ble_eq_true rfl) (by omega) (fun x_76 m_76 h_76 => ?_)
                obtain ⟨rfl, co4, rfl, hc4⟩ := h_76
                refine pw_pop dX2_sum_79 rfl ?_
                refine pw_iinc (ls2 := [(2, _), (3, _), (0, _), (1, _)]) (v := nI (i + 1)) dX2_sum_80 rfl (inc1 i) (by decide) rfl ?_
                refine pw_goto (tgt := 12) dX2_sum_83 (by decide) ?_
                refine pw_sub [2, 3, 0] rfl ?_
                exact ih_12 (i + 1) (wrS (if nxt (μ.1 8) q 43 then -16 else -17) (f (tkS q)).2) co4 hlt (RI_wr hs3) hc4 (by rw [← hx, show 160 - i = (160 - (i + 1)) + 1 by omega]; show _ = if _ then (if _ then _ else _) else _; rw [hor, if_pos rfl, hb3, if_pos rfl]) (by omega)
              · skip
                have hb3 := b2_0 c_69
                refine pw_iconst (v := 0) dX2_sum_72 rfl ?_
                refine pw_zret dX2_sum_73 rfl (by simp) ?_
                rw [← hx, show 160 - i = (160 - (i + 1)) + 1 by omega]
                have e : lpP (μ.1 8) f ((160 - (i + 1)) + 1) q = (false, (f (tkS q)).2) := by
                  show (if _ then (if _ then _ else _) else _) = _
                  rw [hor, if_pos rfl, hb3, if_neg (by decide)]
                rw [e]
                exact ⟨rfl, co3, rfl, hc3, hs3⟩
            · skip
              have hp2 := b2_n c_43
              refine pw_bipush (v := (-16)) dX2_sum_46 rfl ?_
              refine pw_goto (tgt := 53) dX2_sum_48 (by decide) ?_
              refine pw_top (y := if nxt (μ.1 8) q 43 then -16 else -17) (by rw [hp2]; rfl) ?_
              refine pw_istore_n (ls2 := [(3, _), (0, _), (1, _), (2, _)]) dX2_sum_53 rfl (by decide) rfl ?_
              refine pw_aload_n dX2_sum_54 rfl rfl ?_
              refine pw_dup dX2_sum_55 rfl ?_
              refine pw_getI dX2_sum_56 fa_X2_31 rfl ?_
              refine pw_top (y := nI q.1) rfl ?_
              refine pw_iconst (v := 1) dX2_sum_59 rfl ?_
              refine pw_iadd dX2_sum_60 ?_
              refine pw_top (y := nI (tkS q).1) (nI_1 q.1) ?_
              refine pw_putI dX2_sum_61 fa_X2_31 rfl ?_
              refine pw_mem pM_a ?_
              refine pw_aload_n dX2_sum_64 rfl rfl ?_
              refine pw_iload_n dX2_sum_65 rfl rfl ?_
              refine pw_cVi dX2_sum_66 mv_X2_125 ckReader (hsub (s := tkS q) hI hcq) rfl rfl (Nat.le_of_ble_eq_true rfl) (by omega) (fun x_66 m_66 h_66 => ?_)
              obtain ⟨rfl, co3, rfl, hc3, hs3⟩ := h_66
              refine pw_if_ne (tgt := 74) dX2_sum_69 (by decide) (fun c_69 => ?_) (fun c_69 => ?_)
              · skip
                have hb3 := b2_n c_69
                refine pw_aload_n dX2_sum_74 rfl rfl ?_
                refine pw_iload_n dX2_sum_75 rfl rfl ?_
                refine pw_cVi dX2_sum_76 mv_X2_101 ckReader (T_X2_write (s := (f (tkS q)).2) hs3.2 hc3) rfl rfl (Nat.le_of_ble_eq_true rfl) (by omega) (fun x_76 m_76 h_76 => ?_)
                obtain ⟨rfl, co4, rfl, hc4⟩ := h_76
                refine pw_pop dX2_sum_79 rfl ?_
                refine pw_iinc (ls2 := [(2, _), (3, _), (0, _), (1, _)]) (v := nI (i + 1)) dX2_sum_80 rfl (inc1 i) (by decide) rfl ?_
                refine pw_goto (tgt := 12) dX2_sum_83 (by decide) ?_
                refine pw_sub [2, 3, 0] rfl ?_
                exact ih_12 (i + 1) (wrS (if nxt (μ.1 8) q 43 then -16 else -17) (f (tkS q)).2) co4 hlt (RI_wr hs3) hc4 (by rw [← hx, show 160 - i = (160 - (i + 1)) + 1 by omega]; show _ = if _ then (if _ then _ else _) else _; rw [hor, if_pos rfl, hb3, if_pos rfl]) (by omega)
              · skip
                have hb3 := b2_0 c_69
                refine pw_iconst (v := 0) dX2_sum_72 rfl ?_
                refine pw_zret dX2_sum_73 rfl (by simp) ?_
                rw [← hx, show 160 - i = (160 - (i + 1)) + 1 by omega]
                have e : lpP (μ.1 8) f ((160 - (i + 1)) + 1) q = (false, (f (tkS q)).2) := by
                  show (if _ then (if _ then _ else _) else _) = _
                  rw [hor, if_pos rfl, hb3, if_neg (by decide)]
                rw [e]
                exact ⟨rfl, co3, rfl, hc3, hs3⟩
          · skip
            have hp := b2_0 c_25
            refine pw_aload_n dX2_sum_28 rfl rfl ?_
            refine pw_bipush (v := 45) dX2_sum_29 rfl ?_
            refine pw_cVi dX2_sum_31 mv_X2_57 ckReader (T_X2_isNext (s := q) ht hq hcq) rfl rfl (Nat.le_of_ble_eq_true rfl) (by omega) (fun x_31 m_31 h_31 => ?_)
            obtain ⟨rfl, rfl⟩ := h_31
            refine pw_if_eq (tgt := 86) dX2_sum_34 (by decide) (fun c_34 => ?_) (fun c_34 => ?_)
            · skip
              have hm := b2_0 c_34
              have hor : (nxt (μ.1 8) q 43 || nxt (μ.1 8) q 45) = false := by rw [hp, hm]; rfl
              refine pw_iconst (v := 1) dX2_sum_86 rfl ?_
              refine pw_zret dX2_sum_87 rfl (by simp) ?_
              rw [← hx, show 160 - i = (160 - (i + 1)) + 1 by omega]
              have e : lpP (μ.1 8) f ((160 - (i + 1)) + 1) q = (true, q) := by
                show (if _ then (if _ then _ else _) else _) = _
                rw [hor, if_neg (by decide)]
              rw [e]
              exact ⟨rfl, coq, rfl, hcq, hq⟩
            · skip
              have hm := b2_n c_34
              have hor : (nxt (μ.1 8) q 43 || nxt (μ.1 8) q 45) = true := by rw [hm]; cases nxt (μ.1 8) q 43 <;> rfl
              have hI : RI nt (tkS q) := RI_tk ht hq hm (by decide)
              refine pw_aload_n dX2_sum_37 rfl rfl ?_
              refine pw_bipush (v := 43) dX2_sum_38 rfl ?_
              refine pw_cVi dX2_sum_40 mv_X2_57 ckReader (T_X2_isNext (s := q) ht hq hcq) rfl rfl (Nat.le_of_ble_eq_true rfl) (by omega) (fun x_40 m_40 h_40 => ?_)
              obtain ⟨rfl, rfl⟩ := h_40
              refine pw_if_eq (tgt := 51) dX2_sum_43 (by decide) (fun c_43 => ?_) (fun c_43 => ?_)
              · skip
                have hp2 := b2_0 c_43
                refine pw_bipush (v := (-17)) dX2_sum_51 rfl ?_
                refine pw_top (y := if nxt (μ.1 8) q 43 then -16 else -17) (by rw [hp2]; rfl) ?_
                refine pw_istore_n (ls2 := [(3, _), (0, _), (1, _), (2, _)]) dX2_sum_53 rfl (by decide) rfl ?_
                refine pw_aload_n dX2_sum_54 rfl rfl ?_
                refine pw_dup dX2_sum_55 rfl ?_
                refine pw_getI dX2_sum_56 fa_X2_31 rfl ?_
                refine pw_top (y := nI q.1) rfl ?_
                refine pw_iconst (v := 1) dX2_sum_59 rfl ?_
                refine pw_iadd dX2_sum_60 ?_
                refine pw_top (y := nI (tkS q).1) (nI_1 q.1) ?_
                refine pw_putI dX2_sum_61 fa_X2_31 rfl ?_
                refine pw_mem pM_a ?_
                refine pw_aload_n dX2_sum_64 rfl rfl ?_
                refine pw_iload_n dX2_sum_65 rfl rfl ?_
                refine pw_cVi dX2_sum_66 mv_X2_125 ckReader (hsub (s := tkS q) hI hcq) rfl rfl (Nat.le_of_ble_eq_true rfl) (by omega) (fun x_66 m_66 h_66 => ?_)
                obtain ⟨rfl, co3, rfl, hc3, hs3⟩ := h_66
                refine pw_if_ne (tgt := 74) dX2_sum_69 (by decide) (fun c_69 => ?_) (fun c_69 => ?_)
                · skip
                  have hb3 := b2_n c_69
                  refine pw_aload_n dX2_sum_74 rfl rfl ?_
                  refine pw_iload_n dX2_sum_75 rfl rfl ?_
                  refine pw_cVi dX2_sum_76 mv_X2_101 ckReader (T_X2_write (s := (f (tkS q)).2) hs3.2 hc3) rfl rfl (Nat.le_of_ble_eq_true rfl) (by omega) (fun x_76 m_76 h_76 => ?_)
                  obtain ⟨rfl, co4, rfl, hc4⟩ := h_76
                  refine pw_pop dX2_sum_79 rfl ?_
                  refine pw_iinc (ls2 := [(2, _), (3, _), (0, _), (1, _)]) (v := nI (i + 1)) dX2_sum_80 rfl (inc1 i) (by decide) rfl ?_
                  refine pw_goto (tgt := 12) dX2_sum_83 (by decide) ?_
                  refine pw_sub [2, 3, 0] rfl ?_
                  exact ih_12 (i + 1) (wrS (if nxt (μ.1 8) q 43 then -16 else -17) (f (tkS q)).2) co4 hlt (RI_wr hs3) hc4 (by rw [← hx, show 160 - i = (160 - (i + 1)) + 1 by omega]; show _ = if _ then (if _ then _ else _) else _; rw [hor, if_pos rfl, hb3, if_pos rfl]) (by omega)
                · skip
                  have hb3 := b2_0 c_69
                  refine pw_iconst (v := 0) dX2_sum_72 rfl ?_
                  refine pw_zret dX2_sum_73 rfl (by simp) ?_
                  rw [← hx, show 160 - i = (160 - (i + 1)) + 1 by omega]
                  have e : lpP (μ.1 8) f ((160 - (i + 1)) + 1) q = (false, (f (tkS q)).2) := by
                    show (if _ then (if _ then _ else _) else _) = _
                    rw [hor, if_pos rfl, hb3, if_neg (by decide)]
                  rw [e]
                  exact ⟨rfl, co3, rfl, hc3, hs3⟩
              · skip
                have hp2 := b2_n c_43
                refine pw_bipush (v := (-16)) dX2_sum_46 rfl ?_
                refine pw_goto (tgt := 53) dX2_sum_48 (by decide) ?_
                refine pw_top (y := if nxt (μ.1 8) q 43 then -16 else -17) (by rw [hp2]; rfl) ?_
                refine pw_istore_n (ls2 := [(3, _), (0, _), (1, _), (2, _)]) dX2_sum_53 rfl (by decide) rfl ?_
                refine pw_aload_n dX2_sum_54 rfl rfl ?_
                refine pw_dup dX2_sum_55 rfl ?_
                refine pw_getI dX2_sum_56 fa_X2_31 rfl ?_
                refine pw_top (y := nI q.1) rfl ?_
                refine pw_iconst (v := 1) dX2_sum_59 rfl ?_
                refine pw_iadd dX2_sum_60 ?_
                refine pw_top (y := nI (tkS q).1) (nI_1 q.1) ?_
                refine pw_putI dX2_sum_61 fa_X2_31 rfl ?_
                refine pw_mem pM_a ?_
                refine pw_aload_n dX2_sum_64 rfl rfl ?_
                refine pw_iload_n dX2_sum_65 rfl rfl ?_
                refine pw_cVi dX2_sum_66 mv_X2_125 ckReader (hsub (s := tkS q) hI hcq) rfl rfl (Nat.le_of_ble_eq_true rfl) (by omega) (fun x_66 m_66 h_66 => ?_)
                obtain ⟨rfl, co3, rfl, hc3, hs3⟩ := h_66
                refine pw_if_ne (tgt := 74) dX2_sum_69 (by decide) (fun c_69 => ?_) (fun c_69 => ?_)
                · skip
                  have hb3 := b2_n c_69
                  refine pw_aload_n dX2_sum_74 rfl rfl ?_
                  refine pw_iload_n dX2_sum_75 rfl rfl ?_
                  refine pw_cVi dX2_sum_76 mv_X2_101 ckReader (T_X2_write (s := (f (tkS q)).2) hs3.2 hc3) rfl rfl (Nat.le_of_ble_eq_true rfl) (by omega) (fun x_76 m_76 h_76 => ?_)
                  obtain ⟨rfl, co4, rfl, hc4⟩ := h_76
                  refine pw_pop dX2_sum_79 rfl ?_
                  refine pw_iinc (ls2 := [(2, _), (3, _), (0, _), (1, _)]) (v := nI (i + 1)) dX2_sum_80 rfl (inc1 i) (by decide) rfl ?_
                  refine pw_goto (tgt := 12) dX2_sum_83 (by decide) ?_
                  refine pw_sub [2, 3, 0] rfl ?_
                  exact ih_12 (i + 1) (wrS (if nxt (μ.1 8) q 43 then -16 else -17) (f (tkS q)).2) co4 hlt (RI_wr hs3) hc4 (by rw [← hx, show 160 - i = (160 - (i + 1)) + 1 by omega]; show _ = if _ then (if _ then _ else _) else _; rw [hor, if_pos rfl, hb3, if_pos rfl]) (by omega)
                · skip
                  have hb3 := b2_0 c_69
                  refine pw_iconst (v := 0) dX2_sum_72 rfl ?_
                  refine pw_zret dX2_sum_73 rfl (by simp) ?_
                  rw [← hx, show 160 - i = (160 - (i + 1)) + 1 by omega]
                  have e : lpP (μ.1 8) f ((160 - (i + 1)) + 1) q = (false, (f (tkS q)).2) := by
                    show (if _ then (if _ then _ else _) else _) = _
                    rw [hor, if_pos rfl, hb3, if_neg (by decide)]
                  rw [e]
                  exact ⟨rfl, co3, rfl, hc3, hs3⟩
    refine pw_sub [1, 2, 0] rfl ?_
    exact L_12 161 0 (f s).2 co1 (Nat.zero_le _) hs1 hc1 (by unfold sumS; rw [hb, if_pos rfl]) (by omega)
  · skip
    have hb := b2_0 c_5
    refine pw_iconst (v := 0) dX2_sum_8 rfl ?_
    refine pw_zret dX2_sum_9 rfl (by simp) ?_
    have e : sumS (μ.1 8) f s = (false, (f s).2) := by unfold sumS; rw [hb, if_neg (by decide)]
    rw [e]
    exact ⟨rfl, co1, rfl, hc1, hs1⟩

set_option maxHeartbeats 4000000 in
set_option maxRecDepth 100000 in
theorem X2_denied_of {l : Launch} {μ : PM} {nt op : Nat} {f : RS → Bool × RS} {dn : Option (RS → Bool × RS)} {k1 k2 k3 : Nat} (ht : tokOK μ nt) (hk : 2 ≤ k1) (hk2 : k1 + 1 ≤ k2) (hk3 : k3 + 1 ≤ k2) (hop : op ≤ 5) (hno : dn = none → 5 ≤ op) (hdn : ∀ d, dn = some d → op < 5 ∧ RC l μ nt yX2_denied cX2_denied 2 k3 (op + 1) d) (hsub : RC l μ nt yX2_sum cX2_sum 4 k1 op f) : RC l μ nt yX2_denied cX2_denied 2 k2 op (denS (μ.1 8) dn f) := by
  intro s co hs hc
  refine CT.of rfl (Nat.le_of_ble_eq_true rfl) ?_
  show PW l SC RX2 cX2_denied 3 (some .boolean) (k2) _ 0 [(0, .ref 6), (1, .int (nI op))] [] (pM μ (nI s.1) (nI s.2.length) co)
  refine pw_aload_n dX2_denied_0 rfl rfl ?_
  refine pw_bipush (v := 6) dX2_denied_1 rfl ?_
  refine pw_iconst (v := 5) dX2_denied_3 rfl ?_
  refine pw_iload_n dX2_denied_4 rfl rfl ?_
  refine pw_isub dX2_denied_5 ?_
  refine pw_cVi dX2_denied_6 mv_X2_112 ckReader T_X2_takeSome rfl rfl (Nat.le_of_ble_eq_true rfl) (by omega) (fun x_6 m_6 h_6 => ?_)
  obtain ⟨rfl, rfl⟩ := h_6
  refine pw_istore_n (ls2 := [(2, _), (0, _), (1, _)]) dX2_denied_9 rfl (by decide) rfl ?_
  refine pw_aload_n dX2_denied_10 rfl rfl ?_
  refine pw_iload_n dX2_denied_11 rfl rfl ?_
  refine pw_iload_n dX2_denied_12 rfl rfl ?_
  refine pw_iadd dX2_denied_13 ?_
  refine pw_cVi dX2_denied_14 mv_X2_115 ckReader T_X2_compared rfl rfl (Nat.le_of_ble_eq_true rfl) (by omega) (fun x_14 m_14 h_14 => ?_)
  obtain ⟨rfl, rfl⟩ := h_14
  refine pw_if_eq (tgt := 34) dX2_denied_17 (by decide) (fun c_17 => ?_) (fun c_17 => ?_)
  · skip
    refine pw_iconst (v := 0) dX2_denied_34 rfl ?_
    refine pw_zret dX2_denied_35 rfl (by simp) ?_
    have e : cmpS (μ.1 8) f s = (true, wrS (-15) (f (tkS (f s).2)).2) := by unfold cmpS; rw [hb, if_pos rfl, hl, if_neg (by decide), hq, if_pos rfl, hb3, if_pos rfl]
    rw [eD, e]
    exact ⟨rfl, co4, rfl, hc4, RI_wr hs3⟩
  · skip
    refine pw_aload_n dX2_denied_20 rfl rfl ?_
    refine pw_bipush (v := (-10)) dX2_denied_21 rfl ?_
    refine pw_iload_n dX2_denied_23 rfl rfl ?_
    refine pw_cVi dX2_denied_24 mv_X2_118 ckReader T_X2_writeSome rfl rfl (Nat.le_of_ble_eq_true rfl) (by omega) (fun x_24 m_24 h_24 => ?_)
    obtain ⟨rfl, rfl⟩ := h_24
    refine pw_top (y := nI (op + 1)) (nI_1 op) ?_
    refine pw_if_eq (tgt := 34) dX2_denied_27 (by decide) (fun c_27 => ?_) (fun c_27 => ?_)
    · skip
      refine pw_iconst (v := 0) dX2_denied_34 rfl ?_
      refine pw_zret dX2_denied_35 rfl (by simp) ?_
      have e : cmpS (μ.1 8) f s = (true, wrS (-15) (f (tkS (f s).2)).2) := by unfold cmpS; rw [hb, if_pos rfl, hl, if_neg (by decide), hq, if_pos rfl, hb3, if_pos rfl]
      rw [eD, e]
      exact ⟨rfl, co4, rfl, hc4, RI_wr hs3⟩
    · skip
      refine pw_iconst (v := 1) dX2_denied_30 rfl ?_
      refine pw_goto (tgt := 35) dX2_denied_31 (by decide) ?_
      refine pw_zret dX2_denied_35 rfl (by simp) ?_
      have e : cmpS (μ.1 8) f s = (true, wrS (-15) (f (tkS (f s).2)).2) := by unfold cmpS; rw [hb, if_pos rfl, hl, if_neg (by decide), hq, if_pos rfl, hb3, if_pos rfl]
      rw [eD, e]
      exact ⟨rfl, co4, rfl, hc4, RI_wr hs3⟩

set_option maxHeartbeats 4000000 in
set_option maxRecDepth 100000 in
theorem X2_one_of {l : Launch} {μ : PM} {nt op : Nat} {q : Option ((RS → Bool × RS) × (RS → Bool × RS))} {k1 k2 : Nat} (ht : tokOK μ nt) (hk : 2 ≤ k1) (hk2 : k1 + 1 ≤ k2) (hop : op ≤ 5) (hno : q = none → 5 ≤ op) (hq : ∀ d, q = some d → op < 5 ∧ RC l μ nt yX2_either cX2_either 3 k1 (op + 1) d.1 ∧ RC l μ nt yX2_one cX2_one 3 (k1 - 5) (op + 1) d.2) : RC l μ nt yX2_one cX2_one 3 k2 op (oneS (μ.1 8) (μ.1 10) q) := by
  intro s co hs hc
  refine CT.of rfl (Nat.le_of_ble_eq_true rfl) ?_
  show PW l SC RX2 cX2_one 3 (some .boolean) (k2) _ 0 [(0, .ref 6), (1, .int (nI op))] [] (pM μ (nI s.1) (nI s.2.length) co)
  obtain ⟨t1, t2, t3, t4⟩ := id ht
  have hs1 := hs.1
  refine pw_aload_n dX2_one_0 rfl rfl ?_
  refine pw_bipush (v := 45) dX2_one_1 rfl ?_
  refine pw_iconst (v := 5) dX2_one_3 rfl ?_
  refine pw_top (y := nI s.1) rfl ?_
  refine pw_iload_n dX2_one_4 rfl rfl ?_
  refine pw_isub dX2_one_5 ?_
  refine pw_cVi dX2_one_6 mv_X2_112 ckReader T_X2_takeSome rfl rfl (Nat.le_of_ble_eq_true rfl) (by omega) (fun x_6 m_6 h_6 => ?_)
  obtain ⟨rfl, rfl⟩ := h_6
  refine pw_istore_n (ls2 := [(2, _), (0, _), (1, _)]) dX2_one_9 rfl (by decide) rfl ?_
  refine pw_aload_n dX2_one_10 rfl rfl ?_
  refine pw_iload_n dX2_one_11 rfl rfl ?_
  refine pw_iload_n dX2_one_12 rfl rfl ?_
  refine pw_iadd dX2_one_13 ?_
  refine pw_cVi dX2_one_14 mv_X2_131 ckReader T_X2_single rfl rfl (Nat.le_of_ble_eq_true rfl) (by omega) (fun x_14 m_14 h_14 => ?_)
  obtain ⟨rfl, rfl⟩ := h_14
  refine pw_if_eq (tgt := 34) dX2_one_17 (by decide) (fun c_17 => ?_) (fun c_17 => ?_)
  · skip
    refine pw_iconst (v := 0) dX2_one_34 rfl ?_
    refine pw_zret dX2_one_35 rfl (by simp) ?_
    have e : oneS (μ.1 8) (μ.1 10) q s = (true, tkS (wrS (-1 - (μ.1 8 s.1 - 7)) s)) := by
      unfold oneS
      rw [if_neg c_26, if_neg c_71, if_neg c_116, hi]; rfl
    rw [e]
    exact ⟨rfl, co2, rfl, hc2, RI_tk2 ht (RI_wr hs) (by rw [hw1]; intro e14; rw [e14] at hi; exact absurd hi (by decide))⟩
  · skip
    refine pw_aload_n dX2_one_20 rfl rfl ?_
    refine pw_bipush (v := (-11)) dX2_one_21 rfl ?_
    refine pw_iload_n dX2_one_23 rfl rfl ?_
    refine pw_cVi dX2_one_24 mv_X2_118 ckReader T_X2_writeSome rfl rfl (Nat.le_of_ble_eq_true rfl) (by omega) (fun x_24 m_24 h_24 => ?_)
    obtain ⟨rfl, rfl⟩ := h_24
    refine pw_if_eq (tgt := 34) dX2_one_27 (by decide) (fun c_27 => ?_) (fun c_27 => ?_)
    · skip
      refine pw_iconst (v := 0) dX2_one_34 rfl ?_
      refine pw_zret dX2_one_35 rfl (by simp) ?_
      have e : oneS (μ.1 8) (μ.1 10) q s = (true, tkS (wrS (-1 - (μ.1 8 s.1 - 7)) s)) := by
        unfold oneS
        rw [if_neg c_26, if_neg c_71, if_neg c_116, hi]; rfl
      rw [e]
      exact ⟨rfl, co2, rfl, hc2, RI_tk2 ht (RI_wr hs) (by rw [hw1]; intro e14; rw [e14] at hi; exact absurd hi (by decide))⟩
    · skip
      refine pw_iconst (v := 1) dX2_one_30 rfl ?_
      refine pw_goto (tgt := 35) dX2_one_31 (by decide) ?_
      refine pw_zret dX2_one_35 rfl (by simp) ?_
      have e : oneS (μ.1 8) (μ.1 10) q s = (true, tkS (wrS (-1 - (μ.1 8 s.1 - 7)) s)) := by
        unfold oneS
        rw [if_neg c_26, if_neg c_71, if_neg c_116, hi]; rfl
      rw [e]
      exact ⟨rfl, co2, rfl, hc2, RI_tk2 ht (RI_wr hs) (by rw [hw1]; intro e14; rw [e14] at hi; exact absurd hi (by decide))⟩

/-- all readings, with room for r more that are open -/
theorem PT_of {l : Launch} {μ : PM} {nt : Nat} (ht : tokOK μ nt) : ∀ (r : Nat), r ≤ 5 → RC l μ nt yX2_either cX2_either 3 (9 + 6 * r) (5 - r) (PT (μ.1 8) (μ.1 10) r).1 ∧ RC l μ nt yX2_denied cX2_denied 2 (7 + 6 * r) (5 - r) (PT (μ.1 8) (μ.1 10) r).2.1 ∧ RC l μ nt yX2_one cX2_one 3 (4 + 6 * r) (5 - r) (PT (μ.1 8) (μ.1 10) r).2.2
  | 0, _ => by
    have o := X2_one_of (l := l) (μ := μ) (op := 5) (q := none) (k1 := 3) (k2 := 4) ht (by decide) (by decide) (by decide) (fun _ => by decide) (fun d h => by cases h)
    have t := X2_term_of (k2 := 5) ht (by decide) (by decide) (by decide) o
    have s := X2_sum_of (k2 := 6) ht (by decide) (by decide) (by decide) t
    have d := X2_denied_of (dn := none) (k2 := 7) (k3 := 0) ht (by decide) (by decide) (by decide) (by decide) (fun _ => by decide) (fun d h => by cases h) s
    have b := X2_both_of (k2 := 8) ht (by decide) (by decide) (by decide) d
    exact ⟨X2_either_of (k2 := 9) ht (by decide) (by decide) (by decide) b, d, o⟩
  | r + 1, hr => by
    obtain ⟨i1, i2, i3⟩ := PT_of ht r (by omega)
    have e5 : 5 - (r + 1) + 1 = 5 - r := by omega
    have o := X2_one_of (l := l) (μ := μ) (op := 5 - (r + 1)) (q := some ((PT (μ.1 8) (μ.1 10) r).1, (PT (μ.1 8) (μ.1 10) r).2.2)) (k1 := 9 + 6 * r) (k2 := 4 + 6 * (r + 1)) ht (by omega) (by omega) (by omega) (fun h => by cases h) (fun d h => by
      cases h
      rw [e5]
      exact ⟨by omega, i1, by rw [show 9 + 6 * r - 5 = 4 + 6 * r by omega]; exact i3⟩)
    have t := X2_term_of (k2 := 5 + 6 * (r + 1)) ht (by omega) (by omega) (by omega) o
    have s := X2_sum_of (k2 := 6 + 6 * (r + 1)) ht (by omega) (by omega) (by omega) t
    have d := X2_denied_of (dn := some (PT (μ.1 8) (μ.1 10) r).2.1) (k2 := 7 + 6 * (r + 1)) (k3 := 7 + 6 * r) ht (by omega) (by omega) (by omega) (by omega) (fun h => by cases h) (fun d h => by
      cases h
      rw [e5]
      exact ⟨by omega, i2⟩) s
    have b := X2_both_of (k2 := 8 + 6 * (r + 1)) ht (by omega) (by omega) (by omega) d
    exact ⟨X2_either_of (k2 := 9 + 6 * (r + 1)) ht (by omega) (by omega) (by omega) b, d, o⟩

