def rkF (s : Int32) : Int32 := if s = 0 then 0 else if s = 11 then 1 else if s = 12 then 2 else if s = 13 then 3 else if s ≤ 15 then 4 else if s ≤ 17 then 5 else if s = 18 then 6 else 7
def opF (s : Int32) : Int32 := if s = 13 then 1 else if s = 19 then 1 else 0
def unw (l : Int32) : List Int32 → Int32 → List Int32 → List Int32 × Int32 × List Int32
  | [], o, w => ([], o, w)
  | s :: r, o, w => if l ≤ rkF s then unw l r (o - opF s) (w ++ [s]) else (s :: r, o, w)
theorem unw_len {l : Int32} : ∀ (hs : List Int32) (o : Int32) (w : List Int32), (unw l hs o w).1.length + (unw l hs o w).2.2.length = hs.length + w.length
  | [], _, _ => rfl
  | s :: r, o, w => by
    unfold unw
    split
    · rw [unw_len r, List.length_append]
      simp only [List.length_cons, List.length_nil]
      omega
    · rfl
def cdR (C C0 : Nat → Int32) (t : Nat) (w : List Int32) : Prop := (∀ k v, w[k]? = some v → C (200 * t + k) = v) ∧ ∀ i, i < 200 * t → C i = C0 i
theorem cdR_push {C C0 : Nat → Int32} {t : Nat} {w : List Int32} {v : Int32} (h : cdR C C0 t w) : cdR (upd C (200 * t + w.length) v) C0 t (w ++ [v]) := by
  refine ⟨fun k d hk => ?_, fun i hi => ?_⟩
  · by_cases e : k < w.length
    · rw [List.getElem?_append_left e] at hk
      rw [upd_o _ _ (by omega)]
      exact h.1 k d hk
    · have e2 : k = w.length := by
        have := (List.getElem?_eq_some_iff.mp hk).1
        simp only [List.length_append, List.length_cons, List.length_nil] at this
        omega
      subst e2
      rw [List.getElem?_append_right (Nat.le_refl _), Nat.sub_self] at hk
      cases hk
      rw [upd_s]
  · rw [upd_o _ _ (by omega)]
    exact h.2 i hi
def btO (s : Int32) : List Int32 → Bool
  | [] => true
  | x :: _ => !(decide (rkF s = 4) && decide (rkF x = 4))
def lsF (s : Int32) : Int32 := if rkF s = 4 then 5 else rkF s
def sgF (t : Int32) : Int32 := if t = 4 then 11 else if t = 5 then 12 else if t = 60 then 14 else if t = 61 then 15 else if t = 43 then 16 else if t = 45 then 17 else if t = 42 then 18 else -1
theorem len0 {hs : List Int32} (h : nI hs.length ≤ 0) (hl : hs.length < 2 ^ 31) : hs = [] := by
  cases hs with
  | nil => rfl
  | cons a r => exact absurd h (nI_nle (by simp) hl)
theorem len1 {hs : List Int32} (h : ¬ nI hs.length ≤ 0) : ∃ s r, hs = s :: r := by
  cases hs with
  | nil => exact absurd (Int32.le_refl 0) h
  | cons a r => exact ⟨a, r, rfl⟩
set_option maxHeartbeats 4000000 in
set_option maxRecDepth 100000 in
theorem T_X8_rank {l : Launch} {Ω : SH} {s : Int32} {μ : PM} : CT l Ω yX8_rank cX8_rank 1 (some .int) 1 [.int s] μ (QI fun x m => x = rkF s ∧ m = μ) := by
  refine CT.of rfl (Nat.le_of_ble_eq_true rfl) ?_
  show PW l Ω RX8 cX8_rank 1 (some .int) 1 _ 0 [(0, .int s)] [] μ
  refine pw_iload_n dX8_rank_0 rfl rfl ?_
  refine pw_if_ne (tgt := 8) dX8_rank_1 (by decide) (fun c_1 => ?_) (fun c_1 => ?_)
  · skip
    refine pw_iload_n dX8_rank_8 rfl rfl ?_
    refine pw_bipush (v := 11) dX8_rank_9 rfl ?_
    refine pw_icmp_ne (tgt := 18) dX8_rank_11 (by decide) (fun c_11 => ?_) (fun c_11 => ?_)
    · skip
      refine pw_iload_n dX8_rank_18 rfl rfl ?_
      refine pw_bipush (v := 12) dX8_rank_19 rfl ?_
      refine pw_icmp_ne (tgt := 28) dX8_rank_21 (by decide) (fun c_21 => ?_) (fun c_21 => ?_)
      · skip
        refine pw_iload_n dX8_rank_28 rfl rfl ?_
        refine pw_bipush (v := 13) dX8_rank_29 rfl ?_
        refine pw_icmp_ne (tgt := 38) dX8_rank_31 (by decide) (fun c_31 => ?_) (fun c_31 => ?_)
        · skip
          refine pw_iload_n dX8_rank_38 rfl rfl ?_
          refine pw_bipush (v := 15) dX8_rank_39 rfl ?_
          refine pw_icmp_gt (tgt := 48) dX8_rank_41 (by decide) (fun c_41 => ?_) (fun c_41 => ?_)
          · skip
            refine pw_iload_n dX8_rank_48 rfl rfl ?_
            refine pw_bipush (v := 17) dX8_rank_49 rfl ?_
            refine pw_icmp_gt (tgt := 58) dX8_rank_51 (by decide) (fun c_51 => ?_) (fun c_51 => ?_)
            · skip
              refine pw_iload_n dX8_rank_58 rfl rfl ?_
              refine pw_bipush (v := 18) dX8_rank_59 rfl ?_
              refine pw_icmp_ne (tgt := 69) dX8_rank_61 (by decide) (fun c_61 => ?_) (fun c_61 => ?_)
              · skip
                refine pw_bipush (v := 7) dX8_rank_69 rfl ?_
                refine pw_iret dX8_rank_71 rfl ?_
                exact ⟨by unfold rkF; rw [if_neg c_1, if_neg c_11, if_neg c_21, if_neg c_31, if_neg (Int32.not_le.mpr c_41), if_neg (Int32.not_le.mpr c_51), if_neg c_61], rfl⟩
              · skip
                refine pw_bipush (v := 6) dX8_rank_64 rfl ?_
                refine pw_goto (tgt := 71) dX8_rank_66 (by decide) ?_
                refine pw_iret dX8_rank_71 rfl ?_
                exact ⟨by unfold rkF; rw [if_neg c_1, if_neg c_11, if_neg c_21, if_neg c_31, if_neg (Int32.not_le.mpr c_41), if_neg (Int32.not_le.mpr c_51), if_pos c_61], rfl⟩
            · skip
              refine pw_iconst (v := 5) dX8_rank_54 rfl ?_
              refine pw_goto (tgt := 71) dX8_rank_55 (by decide) ?_
              refine pw_iret dX8_rank_71 rfl ?_
              exact ⟨by unfold rkF; rw [if_neg c_1, if_neg c_11, if_neg c_21, if_neg c_31, if_neg (Int32.not_le.mpr c_41), if_pos (Int32.not_lt.mp c_51)], rfl⟩
          · skip
            refine pw_iconst (v := 4) dX8_rank_44 rfl ?_
            refine pw_goto (tgt := 71) dX8_rank_45 (by decide) ?_
            refine pw_iret dX8_rank_71 rfl ?_
            exact ⟨by unfold rkF; rw [if_neg c_1, if_neg c_11, if_neg c_21, if_neg c_31, if_pos (Int32.not_lt.mp c_41)], rfl⟩
        · skip
          refine pw_iconst (v := 3) dX8_rank_34 rfl ?_
          refine pw_goto (tgt := 71) dX8_rank_35 (by decide) ?_
          refine pw_iret dX8_rank_71 rfl ?_
          exact ⟨by unfold rkF; rw [if_neg c_1, if_neg c_11, if_neg c_21, if_pos c_31], rfl⟩
      · skip
        refine pw_iconst (v := 2) dX8_rank_24 rfl ?_
        refine pw_goto (tgt := 71) dX8_rank_25 (by decide) ?_
        refine pw_iret dX8_rank_71 rfl ?_
        exact ⟨by unfold rkF; rw [if_neg c_1, if_neg c_11, if_pos c_21], rfl⟩
    · skip
      refine pw_iconst (v := 1) dX8_rank_14 rfl ?_
      refine pw_goto (tgt := 71) dX8_rank_15 (by decide) ?_
      refine pw_iret dX8_rank_71 rfl ?_
      exact ⟨by unfold rkF; rw [if_neg c_1, if_pos c_11], rfl⟩
  · skip
    refine pw_iconst (v := 0) dX8_rank_4 rfl ?_
    refine pw_goto (tgt := 71) dX8_rank_5 (by decide) ?_
    refine pw_iret dX8_rank_71 rfl ?_
    exact ⟨by unfold rkF; rw [if_pos c_1], rfl⟩

set_option maxHeartbeats 4000000 in
set_option maxRecDepth 100000 in
theorem T_X8_puts {l : Launch} {μ : PM} {V : VW} {nm sk st : Nat → Int32} {sn a b tk v o : Int32} {H C : Nat → Int32} {h : Int32} {w : List Int32} {t : Nat} {c : Int32} (ht : μ.1 0 12 = nI t) (ht6 : t < 6) (hw : w.length < 200) : CT l SM yX8_puts cX8_puts 2 none 1 [.ref 0, .int c] (mm (xM μ a b tk v h o (nI w.length) H C) V nm sk st sn) (QV fun m => m = mm (xM μ a b tk v h o (nI (w.length + 1)) H (upd C (200 * t + w.length) c)) V nm sk st sn) := by
  refine CT.of rfl (Nat.le_of_ble_eq_true rfl) ?_
  show PW l SM RX8 cX8_puts 2 none 1 _ 0 [(0, .ref 0), (1, .int c)] [] (mm (xM μ a b tk v h o (nI w.length) H C) V nm sk st sn)
  refine pw_aload_n dX8_puts_0 rfl rfl ?_
  refine pw_getR dX8_puts_1 fa_X8_28 rfl ?_
  refine pw_sipush (v := 200) dX8_puts_4 rfl ?_
  refine pw_aload_n dX8_puts_7 rfl rfl ?_
  refine pw_getI dX8_puts_8 fa_X8_91 rfl ?_
  refine pw_top (y := nI t) ht ?_
  refine pw_imul dX8_puts_11 ?_
  refine pw_aload_n dX8_puts_12 rfl rfl ?_
  refine pw_getI dX8_puts_13 fa_X8_117 rfl ?_
  refine pw_top (y := nI w.length) rfl ?_
  refine pw_iadd dX8_puts_16 ?_
  refine pw_iload_n dX8_puts_17 rfl rfl ?_
  refine pw_iast (j := 200 * t + w.length) dX8_puts_18 rfl (by show nI 200 * nI t + nI w.length = _; rw [pk_mul, nI_add]) (by omega) ?_
  refine pw_mem t_7 ?_
  refine pw_aload_n dX8_puts_19 rfl rfl ?_
  refine pw_dup dX8_puts_20 rfl ?_
  refine pw_getI dX8_puts_21 fa_X8_117 rfl ?_
  refine pw_top (y := nI w.length) rfl ?_
  refine pw_iconst (v := 1) dX8_puts_24 rfl ?_
  refine pw_iadd dX8_puts_25 ?_
  refine pw_top (y := nI (w.length + 1)) (nI_1 _) ?_
  refine pw_putI dX8_puts_26 fa_X8_117 rfl ?_
  refine pw_mem t_32 ?_
  refine pw_vret dX8_puts_29 rfl ?_
  rfl

set_option maxHeartbeats 4000000 in
set_option maxRecDepth 100000 in
theorem T_X8_holds {l : Launch} {μ : PM} {V : VW} {nm sk st : Nat → Int32} {sn a b tk v o : Int32} {H C : Nat → Int32} {u : Int32} {hs : List Int32} {s : Int32} (hl : hs.length < 200) : CT l SM yX8_holds cX8_holds 2 none 1 [.ref 0, .int s] (mm (xM μ a b tk v (nI hs.length) o u H C) V nm sk st sn) (QV fun m => m = mm (xM μ a b tk v (nI (hs.length + 1)) o u (upd H hs.length s) C) V nm sk st sn) := by
  refine CT.of rfl (Nat.le_of_ble_eq_true rfl) ?_
  show PW l SM RX8 cX8_holds 2 none 1 _ 0 [(0, .ref 0), (1, .int s)] [] (mm (xM μ a b tk v (nI hs.length) o u H C) V nm sk st sn)
  refine pw_aload_n dX8_holds_0 rfl rfl ?_
  refine pw_getR dX8_holds_1 fa_X8_52 rfl ?_
  refine pw_aload_n dX8_holds_4 rfl rfl ?_
  refine pw_getI dX8_holds_5 fa_X8_120 rfl ?_
  refine pw_iload_n dX8_holds_8 rfl rfl ?_
  refine pw_iast (j := hs.length) dX8_holds_9 rfl rfl (by omega) ?_
  refine pw_mem t_15 ?_
  refine pw_aload_n dX8_holds_10 rfl rfl ?_
  refine pw_dup dX8_holds_11 rfl ?_
  refine pw_getI dX8_holds_12 fa_X8_120 rfl ?_
  refine pw_top (y := nI hs.length) rfl ?_
  refine pw_iconst (v := 1) dX8_holds_15 rfl ?_
  refine pw_iadd dX8_holds_16 ?_
  refine pw_top (y := nI (hs.length + 1)) (nI_1 _) ?_
  refine pw_putI dX8_holds_17 fa_X8_120 rfl ?_
  refine pw_mem t_30 ?_
  refine pw_vret dX8_holds_20 rfl ?_
  rfl

set_option maxHeartbeats 4000000 in
set_option maxRecDepth 100000 in
theorem T_X8_unwinds {l : Launch} {μ : PM} {V : VW} {nm sk st : Nat → Int32} {sn a b tk v o : Int32} {H C : Nat → Int32} {C0 : Nat → Int32} {hs w : List Int32} {t : Nat} {l0 : Int32} (ht : μ.1 0 12 = nI t) (ht6 : t < 6) (hst : stk H hs) (hC : cdR C C0 t w) (hl : hs.length + w.length ≤ 199) : CT l SM yX8_unwinds cX8_unwinds 3 none 2 [.ref 0, .int l0] (mm (xM μ a b tk v (nI hs.length) o (nI w.length) H C) V nm sk st sn) (QV fun m => ∃ C2, m = mm (xM μ a b tk v (nI (unw l0 hs o w).1.length) (unw l0 hs o w).2.1 (nI (unw l0 hs o w).2.2.length) H C2) V nm sk st sn ∧ stk H (unw l0 hs o w).1 ∧ cdR C2 C0 t (unw l0 hs o w).2.2) := by
  refine CT.of rfl (Nat.le_of_ble_eq_true rfl) ?_
  show PW l SM RX8 cX8_unwinds 3 none 2 _ 0 [(0, .ref 0), (1, .int l0)] [] (mm (xM μ a b tk v (nI hs.length) o (nI w.length) H C) V nm sk st sn)
  have L_0 : ∀ (fu_0 : Nat) (h2 w2 : List Int32) (o2 : Int32) (C2 : Nat → Int32), (unw l0 h2 o2 w2 = unw l0 hs o w) → (stk H h2) → (cdR C2 C0 t w2) → (h2.length + w2.length ≤ 199) → h2.length < fu_0 → PW l SM RX8 cX8_unwinds 3 none 2 (QV fun m => ∃ C2, m = mm (xM μ a b tk v (nI (unw l0 hs o w).1.length) (unw l0 hs o w).2.1 (nI (unw l0 hs o w).2.2.length) H C2) V nm sk st sn ∧ stk H (unw l0 hs o w).1 ∧ cdR C2 C0 t (unw l0 hs o w).2.2) 0 [(0, .ref 0), (1, .int l0)] [] (mm (xM μ a b tk v (nI h2.length) o2 (nI w2.length) H C2) V nm sk st sn) := by
    intro fu_0
    induction fu_0 with
    | zero =>
      intro h2 w2 o2 C2 hx hst2 hC2 hl2 hm_0
      exact absurd hm_0 (Nat.not_lt_zero _)
    | succ fu_0 ih_0 =>
      intro h2 w2 o2 C2 hx hst2 hC2 hl2 hm_0
      refine pw_aload_n dX8_unwinds_0 rfl rfl ?_
      refine pw_getI dX8_unwinds_1 fa_X8_120 rfl ?_
      refine pw_top (y := nI h2.length) rfl ?_
      refine pw_if_le (tgt := 79) dX8_unwinds_4 (by decide) (fun c_4 => ?_) (fun c_4 => ?_)
      · skip
        have h0 := len0 c_4 (by omega)
        subst h0
        refine pw_vret dX8_unwinds_79 rfl ?_
        rw [← hx]
        exact ⟨C2, rfl, hst2, hC2⟩
      · skip
        obtain ⟨s, r, rfl⟩ := len1 c_4
        have hlr : r.length + 1 + w2.length ≤ 199 := hl2
        have hxs := hx
        change (if l0 ≤ rkF s then unw l0 r (o2 - opF s) (w2 ++ [s]) else (s :: r, o2, w2)) = _ at hxs
        refine pw_aload_n dX8_unwinds_7 rfl rfl ?_
        refine pw_getR dX8_unwinds_8 fa_X8_52 rfl ?_
        refine pw_aload_n dX8_unwinds_11 rfl rfl ?_
        refine pw_getI dX8_unwinds_12 fa_X8_120 rfl ?_
        refine pw_iconst (v := 1) dX8_unwinds_15 rfl ?_
        refine pw_isub dX8_unwinds_16 ?_
        refine pw_iald (j := r.length) dX8_unwinds_17 rfl (nI_pred r.length) (by omega) ?_
        refine pw_top (y := s) hst2.1 ?_
        refine pw_cSi dX8_unwinds_18 ms_X8_123 T_X8_rank rfl rfl (Nat.le_of_ble_eq_true rfl) (by decide) (fun x_18 m_18 h_18 => ?_)
        obtain ⟨rfl, rfl⟩ := h_18
        refine pw_iload_n dX8_unwinds_21 rfl rfl ?_
        refine pw_icmp_lt (tgt := 79) dX8_unwinds_22 (by decide) (fun c_22 => ?_) (fun c_22 => ?_)
        · skip
          rw [if_neg (Int32.not_le.mpr c_22)] at hxs
          refine pw_vret dX8_unwinds_79 rfl ?_
          rw [← hxs]
          exact ⟨C2, rfl, hst2, hC2⟩
        · skip
          rw [if_pos (Int32.not_lt.mp c_22)] at hxs
          refine pw_aload_n dX8_unwinds_25 rfl rfl ?_
          refine pw_dup dX8_unwinds_26 rfl ?_
          refine pw_getI dX8_unwinds_27 fa_X8_120 rfl ?_
          refine pw_top (y := nI (r.length + 1)) rfl ?_
          refine pw_iconst (v := 1) dX8_unwinds_30 rfl ?_
          refine pw_isub dX8_unwinds_31 ?_
          refine pw_top (y := nI r.length) (nI_pred r.length) ?_
          refine pw_putI dX8_unwinds_32 fa_X8_120 rfl ?_
          refine pw_mem t_30 ?_
          refine pw_aload_n dX8_unwinds_35 rfl rfl ?_
          refine pw_getR dX8_unwinds_36 fa_X8_52 rfl ?_
          refine pw_aload_n dX8_unwinds_39 rfl rfl ?_
          refine pw_getI dX8_unwinds_40 fa_X8_120 rfl ?_
          refine pw_iald (j := r.length) dX8_unwinds_43 rfl rfl (by omega) ?_
          refine pw_top (y := s) hst2.1 ?_
          refine pw_istore_n (ls2 := [(2, _), (0, _), (1, _)]) dX8_unwinds_44 rfl (by decide) rfl ?_
          refine pw_aload_n dX8_unwinds_45 rfl rfl ?_
          refine pw_dup dX8_unwinds_46 rfl ?_
          refine pw_getI dX8_unwinds_47 fa_X8_127 rfl ?_
          refine pw_top (y := o2) rfl ?_
          refine pw_iload_n dX8_unwinds_50 rfl rfl ?_
          refine pw_bipush (v := 13) dX8_unwinds_51 rfl ?_
          refine pw_icmp_eq (tgt := 62) dX8_unwinds_53 (by decide) (fun c_53 => ?_) (fun c_53 => ?_)
          · skip
            refine pw_iconst (v := 1) dX8_unwinds_62 rfl ?_
            refine pw_goto (tgt := 67) dX8_unwinds_63 (by decide) ?_
            refine pw_isub dX8_unwinds_67 ?_
            refine pw_top (y := o2 - opF s) (by unfold opF; rw [if_pos c_53]) ?_
            refine pw_putI dX8_unwinds_68 fa_X8_127 rfl ?_
            refine pw_mem t_31 ?_
            refine pw_aload_n dX8_unwinds_71 rfl rfl ?_
            refine pw_iload_n dX8_unwinds_72 rfl rfl ?_
            refine pw_cVv dX8_unwinds_73 mv_X8_130 ckModel (T_X8_puts (w := w2) (t := t) ht ht6 (by omega)) rfl rfl (Nat.le_of_ble_eq_true rfl) (by decide) (fun m_73 h_73 => ?_)
            obtain rfl := h_73
            refine pw_goto (tgt := 0) dX8_unwinds_76 (by decide) ?_
            refine pw_sub [1, 2] rfl ?_
            have hh := ih_0 r (w2 ++ [s]) (o2 - opF s) (upd C2 (200 * t + w2.length) s) hxs hst2.2 (cdR_push hC2) (by rw [List.length_append]; simp only [List.length_cons, List.length_nil]; omega) (by have : (s :: r).length = r.length + 1 := rfl; omega)
            rw [List.length_append] at hh
            exact hh
          · skip
            refine pw_iload_n dX8_unwinds_56 rfl rfl ?_
            refine pw_bipush (v := 19) dX8_unwinds_57 rfl ?_
            refine pw_icmp_ne (tgt := 66) dX8_unwinds_59 (by decide) (fun c_59 => ?_) (fun c_59 => ?_)
            · skip
              refine pw_iconst (v := 0) dX8_unwinds_66 rfl ?_
              refine pw_isub dX8_unwinds_67 ?_
              refine pw_top (y := o2 - opF s) (by unfold opF; rw [if_neg c_53, if_neg c_59]) ?_
              refine pw_putI dX8_unwinds_68 fa_X8_127 rfl ?_
              refine pw_mem t_31 ?_
              refine pw_aload_n dX8_unwinds_71 rfl rfl ?_
              refine pw_iload_n dX8_unwinds_72 rfl rfl ?_
              refine pw_cVv dX8_unwinds_73 mv_X8_130 ckModel (T_X8_puts (w := w2) (t := t) ht ht6 (by omega)) rfl rfl (Nat.le_of_ble_eq_true rfl) (by decide) (fun m_73 h_73 => ?_)
              obtain rfl := h_73
              refine pw_goto (tgt := 0) dX8_unwinds_76 (by decide) ?_
              refine pw_sub [1, 2] rfl ?_
              have hh := ih_0 r (w2 ++ [s]) (o2 - opF s) (upd C2 (200 * t + w2.length) s) hxs hst2.2 (cdR_push hC2) (by rw [List.length_append]; simp only [List.length_cons, List.length_nil]; omega) (by have : (s :: r).length = r.length + 1 := rfl; omega)
              rw [List.length_append] at hh
              exact hh
            · skip
              refine pw_iconst (v := 1) dX8_unwinds_62 rfl ?_
              refine pw_goto (tgt := 67) dX8_unwinds_63 (by decide) ?_
              refine pw_isub dX8_unwinds_67 ?_
              refine pw_top (y := o2 - opF s) (by unfold opF; rw [if_neg c_53, if_pos c_59]) ?_
              refine pw_putI dX8_unwinds_68 fa_X8_127 rfl ?_
              refine pw_mem t_31 ?_
              refine pw_aload_n dX8_unwinds_71 rfl rfl ?_
              refine pw_iload_n dX8_unwinds_72 rfl rfl ?_
              refine pw_cVv dX8_unwinds_73 mv_X8_130 ckModel (T_X8_puts (w := w2) (t := t) ht ht6 (by omega)) rfl rfl (Nat.le_of_ble_eq_true rfl) (by decide) (fun m_73 h_73 => ?_)
              obtain rfl := h_73
              refine pw_goto (tgt := 0) dX8_unwinds_76 (by decide) ?_
              refine pw_sub [1, 2] rfl ?_
              have hh := ih_0 r (w2 ++ [s]) (o2 - opF s) (upd C2 (200 * t + w2.length) s) hxs hst2.2 (cdR_push hC2) (by rw [List.length_append]; simp only [List.length_cons, List.length_nil]; omega) (by have : (s :: r).length = r.length + 1 := rfl; omega)
              rw [List.length_append] at hh
              exact hh
  refine pw_sub [0, 1] rfl ?_
  exact L_0 (hs.length + 1) hs w o C rfl hst hC hl (by omega)

set_option maxHeartbeats 4000000 in
set_option maxRecDepth 100000 in
theorem T_X8_opensOne {l : Launch} {μ : PM} {V : VW} {nm sk st : Nat → Int32} {sn a b tk v o : Int32} {H C : Nat → Int32} {u : Int32} {hs : List Int32} {s : Int32} (hl : hs.length < 200) : CT l SM yX8_opensOne cX8_opensOne 2 (some .boolean) 2 [.ref 0, .int s] (mm (xM μ a b tk v (nI hs.length) o u H C) V nm sk st sn) (QI fun x m => x = b2 (!(decide (o = 5))) ∧ m = if o = 5 then mm (xM μ a b tk v (nI hs.length) o u H C) V nm sk st sn else mm (xM μ a b tk v (nI (hs.length + 1)) (o + 1) u (upd H hs.length s) C) V nm sk st sn) := by
  refine CT.of rfl (Nat.le_of_ble_eq_true rfl) ?_
  show PW l SM RX8 cX8_opensOne 2 (some .boolean) 2 _ 0 [(0, .ref 0), (1, .int s)] [] (mm (xM μ a b tk v (nI hs.length) o u H C) V nm sk st sn)
  refine pw_aload_n dX8_opensOne_0 rfl rfl ?_
  refine pw_getI dX8_opensOne_1 fa_X8_127 rfl ?_
  refine pw_top (y := o) rfl ?_
  refine pw_iconst (v := 5) dX8_opensOne_4 rfl ?_
  refine pw_icmp_ne (tgt := 10) dX8_opensOne_5 (by decide) (fun c_5 => ?_) (fun c_5 => ?_)
  · skip
    refine pw_aload_n dX8_opensOne_10 rfl rfl ?_
    refine pw_dup dX8_opensOne_11 rfl ?_
    refine pw_getI dX8_opensOne_12 fa_X8_127 rfl ?_
    refine pw_top (y := o) rfl ?_
    refine pw_iconst (v := 1) dX8_opensOne_15 rfl ?_
    refine pw_iadd dX8_opensOne_16 ?_
    refine pw_putI dX8_opensOne_17 fa_X8_127 rfl ?_
    refine pw_mem t_31 ?_
    refine pw_aload_n dX8_opensOne_20 rfl rfl ?_
    refine pw_iload_n dX8_opensOne_21 rfl rfl ?_
    refine pw_cVv dX8_opensOne_22 mv_X8_134 ckModel (T_X8_holds (hs := hs) hl) rfl rfl (Nat.le_of_ble_eq_true rfl) (by decide) (fun m_22 h_22 => ?_)
    obtain rfl := h_22
    refine pw_iconst (v := 1) dX8_opensOne_25 rfl ?_
    refine pw_zret dX8_opensOne_26 rfl (by decide) ?_
    exact ⟨by rw [decide_eq_false (show ¬ o = 5 from c_5)]; rfl, by rw [if_neg (show ¬ o = 5 from c_5)]⟩
  · skip
    refine pw_iconst (v := 0) dX8_opensOne_8 rfl ?_
    refine pw_zret dX8_opensOne_9 rfl (by decide) ?_
    exact ⟨by rw [decide_eq_true (show o = 5 from c_5)]; rfl, by rw [if_pos (show o = 5 from c_5)]⟩

set_option maxHeartbeats 4000000 in
set_option maxRecDepth 100000 in
theorem T_X8_between {l : Launch} {μ : PM} {V : VW} {nm sk st : Nat → Int32} {sn a b tk v o : Int32} {H C : Nat → Int32} {C0 : Nat → Int32} {hs w : List Int32} {t : Nat} {s : Int32} (ht : μ.1 0 12 = nI t) (ht6 : t < 6) (hst : stk H hs) (hC : cdR C C0 t w) (hl : hs.length + w.length ≤ 199) : CT l SM yX8_between cX8_between 2 (some .boolean) 3 [.ref 0, .int s] (mm (xM μ a b tk v (nI hs.length) o (nI w.length) H C) V nm sk st sn) (QI fun x m => x = b2 (btO s (unw (lsF s) hs o w).1) ∧ ∃ C2, m = (if btO s (unw (lsF s) hs o w).1 then mm (xM μ a b tk v (nI ((unw (lsF s) hs o w).1.length + 1)) (unw (lsF s) hs o w).2.1 (nI (unw (lsF s) hs o w).2.2.length) (upd H (unw (lsF s) hs o w).1.length s) C2) V nm sk st sn else mm (xM μ a b tk v (nI (unw (lsF s) hs o w).1.length) (unw (lsF s) hs o w).2.1 (nI (unw (lsF s) hs o w).2.2.length) H C2) V nm sk st sn) ∧ stk H (unw (lsF s) hs o w).1 ∧ cdR C2 C0 t (unw (lsF s) hs o w).2.2) := by
  refine CT.of rfl (Nat.le_of_ble_eq_true rfl) ?_
  show PW l SM RX8 cX8_between 2 (some .boolean) 3 _ 0 [(0, .ref 0), (1, .int s)] [] (mm (xM μ a b tk v (nI hs.length) o (nI w.length) H C) V nm sk st sn)
  refine pw_aload_n dX8_between_0 rfl rfl ?_
  refine pw_iload_n dX8_between_1 rfl rfl ?_
  refine pw_cSi dX8_between_2 ms_X8_123 T_X8_rank rfl rfl (Nat.le_of_ble_eq_true rfl) (by decide) (fun x_2 m_2 h_2 => ?_)
  obtain ⟨rfl, rfl⟩ := h_2
  refine pw_iconst (v := 4) dX8_between_5 rfl ?_
  refine pw_icmp_ne (tgt := 13) dX8_between_6 (by decide) (fun c_6 => ?_) (fun c_6 => ?_)
  · skip
    refine pw_iload_n dX8_between_13 rfl rfl ?_
    refine pw_cSi dX8_between_14 ms_X8_123 T_X8_rank rfl rfl (Nat.le_of_ble_eq_true rfl) (by decide) (fun x_14 m_14 h_14 => ?_)
    obtain ⟨rfl, rfl⟩ := h_14
    refine pw_top (y := lsF s) (by unfold lsF; rw [if_neg c_6]) ?_
    refine pw_cVv dX8_between_17 mv_X8_137 ckModel (T_X8_unwinds (l0 := lsF s) ht ht6 hst hC hl) rfl rfl (Nat.le_of_ble_eq_true rfl) (by decide) (fun m_17 h_17 => ?_)
    obtain ⟨C2, rfl, hs2, hC2⟩ := h_17
    obtain ⟨R, hR⟩ : ∃ R, R = unw (lsF s) hs o w := ⟨_, rfl⟩
    rw [← hR] at hs2 hC2 ⊢
    have hln := unw_len (l := lsF s) hs o w
    rw [← hR] at hln
    refine pw_iload_n dX8_between_20 rfl rfl ?_
    refine pw_cSi dX8_between_21 ms_X8_123 T_X8_rank rfl rfl (Nat.le_of_ble_eq_true rfl) (by decide) (fun x_21 m_21 h_21 => ?_)
    obtain ⟨rfl, rfl⟩ := h_21
    refine pw_iconst (v := 4) dX8_between_24 rfl ?_
    refine pw_icmp_ne (tgt := 55) dX8_between_25 (by decide) (fun c_25 => ?_) (fun c_25 => ?_)
    · skip
      have hbt : btO s R.1 = true := by
        cases hc : R.1 with
        | nil => rfl
        | cons x r =>
          show (!(_ && _)) = true
          rw [decide_eq_false (show ¬ rkF s = 4 from c_25)]; rfl
      refine pw_aload_n dX8_between_55 rfl rfl ?_
      refine pw_iload_n dX8_between_56 rfl rfl ?_
      refine pw_cVv dX8_between_57 mv_X8_134 ckModel (T_X8_holds (hs := R.1) (by omega)) rfl rfl (Nat.le_of_ble_eq_true rfl) (by decide) (fun m_57 h_57 => ?_)
      obtain rfl := h_57
      refine pw_iconst (v := 1) dX8_between_60 rfl ?_
      refine pw_zret dX8_between_61 rfl (by decide) ?_
      exact ⟨by rw [hbt]; rfl, C2, by rw [hbt, if_pos rfl], hs2, hC2⟩
    · skip
      exact absurd c_25 c_6
  · skip
    refine pw_iconst (v := 5) dX8_between_9 rfl ?_
    refine pw_goto (tgt := 17) dX8_between_10 (by decide) ?_
    refine pw_top (y := lsF s) (by unfold lsF; rw [if_pos c_6]) ?_
    refine pw_cVv dX8_between_17 mv_X8_137 ckModel (T_X8_unwinds (l0 := lsF s) ht ht6 hst hC hl) rfl rfl (Nat.le_of_ble_eq_true rfl) (by decide) (fun m_17 h_17 => ?_)
    obtain ⟨C2, rfl, hs2, hC2⟩ := h_17
    obtain ⟨R, hR⟩ : ∃ R, R = unw (lsF s) hs o w := ⟨_, rfl⟩
    rw [← hR] at hs2 hC2 ⊢
    have hln := unw_len (l := lsF s) hs o w
    rw [← hR] at hln
    refine pw_iload_n dX8_between_20 rfl rfl ?_
    refine pw_cSi dX8_between_21 ms_X8_123 T_X8_rank rfl rfl (Nat.le_of_ble_eq_true rfl) (by decide) (fun x_21 m_21 h_21 => ?_)
    obtain ⟨rfl, rfl⟩ := h_21
    refine pw_iconst (v := 4) dX8_between_24 rfl ?_
    refine pw_icmp_ne (tgt := 55) dX8_between_25 (by decide) (fun c_25 => ?_) (fun c_25 => ?_)
    · skip
      exact absurd c_6 c_25
    · skip
      refine pw_aload_n dX8_between_28 rfl rfl ?_
      refine pw_getI dX8_between_29 fa_X8_120 rfl ?_
      refine pw_top (y := nI R.1.length) rfl ?_
      refine pw_if_le (tgt := 55) dX8_between_32 (by decide) (fun c_32 => ?_) (fun c_32 => ?_)
      · skip
        have h0 := len0 c_32 (by omega)
        have hbt : btO s R.1 = true := by rw [h0]; rfl
        skip
        refine pw_aload_n dX8_between_55 rfl rfl ?_
        refine pw_iload_n dX8_between_56 rfl rfl ?_
        refine pw_cVv dX8_between_57 mv_X8_134 ckModel (T_X8_holds (hs := R.1) (by omega)) rfl rfl (Nat.le_of_ble_eq_true rfl) (by decide) (fun m_57 h_57 => ?_)
        obtain rfl := h_57
        refine pw_iconst (v := 1) dX8_between_60 rfl ?_
        refine pw_zret dX8_between_61 rfl (by decide) ?_
        exact ⟨by rw [hbt]; rfl, C2, by rw [hbt, if_pos rfl], hs2, hC2⟩
      · skip
        obtain ⟨x, r, hxr⟩ := len1 c_32
        rw [hxr] at hs2
        have hrl : R.1.length = r.length + 1 := by rw [hxr]; rfl
        refine pw_aload_n dX8_between_35 rfl rfl ?_
        refine pw_getR dX8_between_36 fa_X8_52 rfl ?_
        refine pw_aload_n dX8_between_39 rfl rfl ?_
        refine pw_getI dX8_between_40 fa_X8_120 rfl ?_
        refine pw_iconst (v := 1) dX8_between_43 rfl ?_
        refine pw_isub dX8_between_44 ?_
        refine pw_iald (j := r.length) dX8_between_45 rfl (by show nI R.1.length - 1 = _; rw [hrl]; exact nI_pred r.length) (by omega) ?_
        refine pw_top (y := x) hs2.1 ?_
        refine pw_cSi dX8_between_46 ms_X8_123 T_X8_rank rfl rfl (Nat.le_of_ble_eq_true rfl) (by decide) (fun x_46 m_46 h_46 => ?_)
        obtain ⟨rfl, rfl⟩ := h_46
        refine pw_iconst (v := 4) dX8_between_49 rfl ?_
        refine pw_icmp_ne (tgt := 55) dX8_between_50 (by decide) (fun c_50 => ?_) (fun c_50 => ?_)
        · skip
          have hbt : btO s R.1 = true := by rw [hxr]; show (!(_ && _)) = true; rw [decide_eq_false (show ¬ rkF x = 4 from c_50), Bool.and_false]; rfl
          skip
          refine pw_aload_n dX8_between_55 rfl rfl ?_
          refine pw_iload_n dX8_between_56 rfl rfl ?_
          refine pw_cVv dX8_between_57 mv_X8_134 ckModel (T_X8_holds (hs := R.1) (by omega)) rfl rfl (Nat.le_of_ble_eq_true rfl) (by decide) (fun m_57 h_57 => ?_)
          obtain rfl := h_57
          refine pw_iconst (v := 1) dX8_between_60 rfl ?_
          refine pw_zret dX8_between_61 rfl (by decide) ?_
          exact ⟨by rw [hbt]; rfl, C2, by rw [hbt, if_pos rfl], by rw [hxr]; exact hs2, hC2⟩
        · skip
          have hbt : btO s R.1 = false := by rw [hxr]; show (!(_ && _)) = false; rw [decide_eq_true (show rkF x = 4 from c_50), decide_eq_true (show rkF s = 4 from c_25)]; rfl
          refine pw_iconst (v := 0) dX8_between_53 rfl ?_
          refine pw_zret dX8_between_54 rfl (by decide) ?_
          exact ⟨by rw [hbt]; rfl, C2, by rw [hbt, if_neg Bool.false_ne_true], by rw [hxr]; exact hs2, hC2⟩

set_option maxHeartbeats 4000000 in
set_option maxRecDepth 100000 in
theorem T_X8_signOf {l : Launch} {μ : PM} {V : VW} {nm sk st : Nat → Int32} {sn a b tk v h o u : Int32} {H C : Nat → Int32} : CT l SM yX8_signOf cX8_signOf 1 (some .int) 1 [.ref 0] (mm (xM μ a b tk v h o u H C) V nm sk st sn) (QI fun x m => x = sgF tk ∧ m = mm (xM μ a b tk v h o u H C) V nm sk st sn) := by
  refine CT.of rfl (Nat.le_of_ble_eq_true rfl) ?_
  show PW l SM RX8 cX8_signOf 1 (some .int) 1 _ 0 [(0, .ref 0)] [] (mm (xM μ a b tk v h o u H C) V nm sk st sn)
  refine pw_aload_n dX8_signOf_0 rfl rfl ?_
  refine pw_getI dX8_signOf_1 fa_X8_107 rfl ?_
  refine pw_top (y := tk) rfl ?_
  refine pw_iconst (v := 4) dX8_signOf_4 rfl ?_
  refine pw_icmp_ne (tgt := 13) dX8_signOf_5 (by decide) (fun c_5 => ?_) (fun c_5 => ?_)
  · skip
    refine pw_aload_n dX8_signOf_13 rfl rfl ?_
    refine pw_getI dX8_signOf_14 fa_X8_107 rfl ?_
    refine pw_top (y := tk) rfl ?_
    refine pw_iconst (v := 5) dX8_signOf_17 rfl ?_
    refine pw_icmp_ne (tgt := 26) dX8_signOf_18 (by decide) (fun c_18 => ?_) (fun c_18 => ?_)
    · skip
      refine pw_aload_n dX8_signOf_26 rfl rfl ?_
      refine pw_getI dX8_signOf_27 fa_X8_107 rfl ?_
      refine pw_top (y := tk) rfl ?_
      refine pw_bipush (v := 60) dX8_signOf_30 rfl ?_
      refine pw_icmp_ne (tgt := 40) dX8_signOf_32 (by decide) (fun c_32 => ?_) (fun c_32 => ?_)
      · skip
        refine pw_aload_n dX8_signOf_40 rfl rfl ?_
        refine pw_getI dX8_signOf_41 fa_X8_107 rfl ?_
        refine pw_top (y := tk) rfl ?_
        refine pw_bipush (v := 61) dX8_signOf_44 rfl ?_
        refine pw_icmp_ne (tgt := 54) dX8_signOf_46 (by decide) (fun c_46 => ?_) (fun c_46 => ?_)
        · skip
          refine pw_aload_n dX8_signOf_54 rfl rfl ?_
          refine pw_getI dX8_signOf_55 fa_X8_107 rfl ?_
          refine pw_top (y := tk) rfl ?_
          refine pw_bipush (v := 43) dX8_signOf_58 rfl ?_
          refine pw_icmp_ne (tgt := 68) dX8_signOf_60 (by decide) (fun c_60 => ?_) (fun c_60 => ?_)
          · skip
            refine pw_aload_n dX8_signOf_68 rfl rfl ?_
            refine pw_getI dX8_signOf_69 fa_X8_107 rfl ?_
            refine pw_top (y := tk) rfl ?_
            refine pw_bipush (v := 45) dX8_signOf_72 rfl ?_
            refine pw_icmp_ne (tgt := 82) dX8_signOf_74 (by decide) (fun c_74 => ?_) (fun c_74 => ?_)
            · skip
              refine pw_aload_n dX8_signOf_82 rfl rfl ?_
              refine pw_getI dX8_signOf_83 fa_X8_107 rfl ?_
              refine pw_top (y := tk) rfl ?_
              refine pw_bipush (v := 42) dX8_signOf_86 rfl ?_
              refine pw_icmp_ne (tgt := 96) dX8_signOf_88 (by decide) (fun c_88 => ?_) (fun c_88 => ?_)
              · skip
                refine pw_iconst (v := (-1)) dX8_signOf_96 rfl ?_
                refine pw_iret dX8_signOf_97 rfl ?_
                exact ⟨by unfold sgF; rw [if_neg c_5, if_neg c_18, if_neg c_32, if_neg c_46, if_neg c_60, if_neg c_74, if_neg c_88], rfl⟩
              · skip
                refine pw_bipush (v := 18) dX8_signOf_91 rfl ?_
                refine pw_goto (tgt := 97) dX8_signOf_93 (by decide) ?_
                refine pw_iret dX8_signOf_97 rfl ?_
                exact ⟨by unfold sgF; rw [if_neg c_5, if_neg c_18, if_neg c_32, if_neg c_46, if_neg c_60, if_neg c_74, if_pos c_88], rfl⟩
            · skip
              refine pw_bipush (v := 17) dX8_signOf_77 rfl ?_
              refine pw_goto (tgt := 97) dX8_signOf_79 (by decide) ?_
              refine pw_iret dX8_signOf_97 rfl ?_
              exact ⟨by unfold sgF; rw [if_neg c_5, if_neg c_18, if_neg c_32, if_neg c_46, if_neg c_60, if_pos c_74], rfl⟩
          · skip
            refine pw_bipush (v := 16) dX8_signOf_63 rfl ?_
            refine pw_goto (tgt := 97) dX8_signOf_65 (by decide) ?_
            refine pw_iret dX8_signOf_97 rfl ?_
            exact ⟨by unfold sgF; rw [if_neg c_5, if_neg c_18, if_neg c_32, if_neg c_46, if_pos c_60], rfl⟩
        · skip
          refine pw_bipush (v := 15) dX8_signOf_49 rfl ?_
          refine pw_goto (tgt := 97) dX8_signOf_51 (by decide) ?_
          refine pw_iret dX8_signOf_97 rfl ?_
          exact ⟨by unfold sgF; rw [if_neg c_5, if_neg c_18, if_neg c_32, if_pos c_46], rfl⟩
      · skip
        refine pw_bipush (v := 14) dX8_signOf_35 rfl ?_
        refine pw_goto (tgt := 97) dX8_signOf_37 (by decide) ?_
        refine pw_iret dX8_signOf_97 rfl ?_
        exact ⟨by unfold sgF; rw [if_neg c_5, if_neg c_18, if_pos c_32], rfl⟩
    · skip
      refine pw_bipush (v := 12) dX8_signOf_21 rfl ?_
      refine pw_goto (tgt := 97) dX8_signOf_23 (by decide) ?_
      refine pw_iret dX8_signOf_97 rfl ?_
      exact ⟨by unfold sgF; rw [if_neg c_5, if_pos c_18], rfl⟩
  · skip
    refine pw_bipush (v := 11) dX8_signOf_8 rfl ?_
    refine pw_goto (tgt := 97) dX8_signOf_10 (by decide) ?_
    refine pw_iret dX8_signOf_97 rfl ?_
    exact ⟨by unfold sgF; rw [if_pos c_5], rfl⟩

