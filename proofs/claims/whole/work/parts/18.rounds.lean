theorem rwM_1 {μ : PM} {f d : Int32} {b : Int64} {V : VW} {nm sk : Nat → Int32} : (sc (wr (rwM μ f d b) 22 V) nm sk).1 17 1 = f := rfl
theorem rwM_d {μ : PM} {f d d2 : Int32} {b : Int64} : si (rwM μ f d b) 17 3 d2 = rwM μ f d2 b := by
  refine PM_ext (fun x => ?_) rfl
  by_cases e : x = 17
  · subst e
    show upd (upd (upd (μ.1 17) 1 f) 3 d) 3 d2 = upd (upd (μ.1 17) 1 f) 3 d2
    funext j
    by_cases h : j = 3
    · subst h; rw [upd_s, upd_s]
    · rw [upd_o _ _ h, upd_o _ _ h, upd_o _ _ h]
  · rw [si_other _ _ _ _ e]
    show (if x = 17 then _ else μ.1 x) = if x = 17 then _ else μ.1 x
    rw [if_neg e, if_neg e]
theorem rwM_b {μ : PM} {f d : Int32} {b b2 : Int64} : sl (rwM μ f d b) 17 b2 = rwM μ f d b2 := by
  refine PM_ext (fun x => rfl) ?_
  funext x
  by_cases e : x = 17
  · subst e; rfl
  · show (if x = 17 then b2 else if x = 17 then b else μ.2 x) = if x = 17 then b2 else μ.2 x
    rw [if_neg e, if_neg e, if_neg e]
theorem rwM_self {μ : PM} {f d : Int32} {b : Int64} : si (sl (si μ 17 1 f) 17 b) 17 3 d = rwM μ f d b := by
  refine PM_ext (fun x => ?_) rfl
  by_cases e : x = 17
  · subst e; rfl
  · rw [si_other _ _ _ _ e]
    show (si μ 17 1 f).1 x = if x = 17 then _ else μ.1 x
    rw [si_other _ _ _ _ e, if_neg e]
set_option maxHeartbeats 4000000 in
set_option maxRecDepth 100000 in
theorem T_X3_compare {l : Launch} {μ : PM} {V : VW} {nm sk : Nat → Int32} {f d : Int32} {b v : Int64} {dg : Nat} : CT l SC yX3_compare cX3_compare 4 none 1 [.ref 17, .long v, .int (nI dg)] (sc (wr (rwM μ f d b) 22 V) nm sk) (QV fun m => m = sc (wr (rwM μ f (cmpF v (nI dg) (b, d)).2 (cmpF v (nI dg) (b, d)).1) 22 V) nm sk) := by
  refine CT.of rfl (Nat.le_of_ble_eq_true rfl) ?_
  show PW l SC RX3 cX3_compare 4 none 1 _ 0 [(0, .ref 17), (1, .long v), (3, .int (nI dg))] [] (sc (wr (rwM μ f d b) 22 V) nm sk)
  refine pw_iload_n dX3_compare_0 rfl rfl ?_
  refine pw_if_le (tgt := 23) dX3_compare_1 (by decide) (fun c_1 => ?_) (fun c_1 => ?_)
  · skip
    have e1 := Int32.not_lt.mpr c_1
    skip
    refine pw_vret dX3_compare_23 rfl ?_
    unfold cmpF
    rw [if_neg (fun h => e1 h.1)]
  · skip
    have e1 := Int32.not_le.mp c_1
    refine pw_lload_n dX3_compare_4 rfl rfl ?_
    refine pw_aload_n dX3_compare_5 rfl rfl ?_
    refine pw_getL dX3_compare_6 fa_X3_15 rfl ?_
    refine pw_topl (y := b) rfl ?_
    refine pw_lcmp dX3_compare_9 ?_
    refine pw_if_le (tgt := 23) dX3_compare_10 (by decide) (fun c_10 => ?_) (fun c_10 => ?_)
    · skip
      have e2 := lg_le.mp c_10
      skip
      refine pw_vret dX3_compare_23 rfl ?_
      unfold cmpF
      rw [if_neg (fun h => e2 h.2)]
    · skip
      have e2 : b < v := Classical.not_not.mp (fun h => c_10 (lg_le.mpr h))
      refine pw_aload_n dX3_compare_13 rfl rfl ?_
      refine pw_lload_n dX3_compare_14 rfl rfl ?_
      refine pw_putL dX3_compare_15 fa_X3_15 rfl rfl ?_
      refine pw_mem (by rw [sl_sc, sl_wr, rwM_b]) ?_
      refine pw_aload_n dX3_compare_18 rfl rfl ?_
      refine pw_iload_n dX3_compare_19 rfl rfl ?_
      refine pw_putI dX3_compare_20 fa_X3_19 rfl ?_
      refine pw_mem (by rw [si_sc (by decide) (by decide), si_wrO (by decide), rwM_d]) ?_
      refine pw_vret dX3_compare_23 rfl ?_
      unfold cmpF
      rw [if_pos ⟨e1, e2⟩]

set_option maxHeartbeats 4000000 in
set_option maxRecDepth 100000 in
theorem goOn_step {l : Launch} {μ : PM} {V : VW} {nm sk : Nat → Int32} {f : Int32} {first : Nat} (hf : f = nI first) (h4f : first < 4) (fu k1 k2 : Nat) (hk : 3 ≤ k1) (hk2 : k1 + 1 ≤ k2)
  (hrec : ∀ {at0 dg b : Nat} {much : Int64} {a : Int64 × Int32}, at0 < 4 → b < 16 → 5 ≤ cnt4 b + fu → dg < 10 ^ (cnt4 b - 1) → 1 ≤ cnt4 b → CT l SC yX3_goOn cX3_goOn 7 none k1 [.ref 17, .int (nI at0), .long much, .int (nI dg), .int (nI b)] (sc (wr (rwM μ f a.2 a.1) 22 V) nm sk) (QV fun m => m = sc (wr (rwM μ f (goF (V 9) first fu at0 much dg b a).2 (goF (V 9) first fu at0 much dg b a).1) 22 V) nm sk))
  {at0 dg b : Nat} {much : Int64} {a : Int64 × Int32} (hat : at0 < 4) (hb16 : b < 16) (hcn : 5 ≤ cnt4 b + (fu + 1)) (hdg : dg < 10 ^ (cnt4 b - 1)) (h1b : 1 ≤ cnt4 b) : CT l SC yX3_goOn cX3_goOn 7 none (k2) [.ref 17, .int (nI at0), .long much, .int (nI dg), .int (nI b)] (sc (wr (rwM μ f a.2 a.1) 22 V) nm sk) (QV fun m => m = sc (wr (rwM μ f (goS (V 9) first (goF (V 9) first fu) at0 much dg b 0 4 a).2 (goS (V 9) first (goF (V 9) first fu) at0 much dg b 0 4 a).1) 22 V) nm sk) := by
  have hc4 := cnt4_le b hb16
  have hdg2 : dg ≤ 999 := by
    have : 10 ^ (cnt4 b - 1) ≤ 10 ^ 3 := Nat.pow_le_pow_right (by decide) (by omega)
    omega
  refine CT.of rfl (Nat.le_of_ble_eq_true rfl) ?_
  show PW l SC RX3 cX3_goOn 7 none (k2) _ 0 [(0, .ref 17), (1, .int (nI at0)), (2, .long much), (4, .int (nI dg)), (5, .int (nI b))] [] (sc (wr (rwM μ f a.2 a.1) 22 V) nm sk)
  refine pw_iload dX3_goOn_0 rfl ?_
  refine pw_sipush (v := 999) dX3_goOn_2 rfl ?_
  refine pw_icmp_le (tgt := 9) dX3_goOn_5 (by decide) (fun c_5 => ?_) (fun c_5 => ?_)
  · skip
    refine pw_iconst (v := 0) dX3_goOn_9 rfl ?_
    refine pw_istore (ls2 := [(6, _), (0, _), (1, _), (2, _), (4, _), (5, _)]) dX3_goOn_10 (by decide) rfl ?_
    have L_12 : ∀ (fu_12 : Nat) (t : Nat) (q : Int64 × Int32), (t ≤ 4) → (goS (V 9) first (goF (V 9) first fu) at0 much dg b t (4 - t) q = goS (V 9) first (goF (V 9) first fu) at0 much dg b 0 4 a) → 4 - t < fu_12 → PW l SC RX3 cX3_goOn 7 none (k2) (QV fun m => m = sc (wr (rwM μ f (goS (V 9) first (goF (V 9) first fu) at0 much dg b 0 4 a).2 (goS (V 9) first (goF (V 9) first fu) at0 much dg b 0 4 a).1) 22 V) nm sk) 12 [(0, .ref 17), (1, .int (nI at0)), (2, .long much), (4, .int (nI dg)), (5, .int (nI b)), (6, .int (nI t))] [] (sc (wr (rwM μ f q.2 q.1) 22 V) nm sk) := by
      intro fu_12
      induction fu_12 with
      | zero =>
        intro t q ht hq hm_12
        exact absurd hm_12 (Nat.not_lt_zero _)
      | succ fu_12 ih_12 =>
        intro t q ht hq hm_12
        refine pw_iload dX3_goOn_12 rfl ?_
        refine pw_iconst (v := 4) dX3_goOn_14 rfl ?_
        refine pw_icmp_ge (tgt := 97) dX3_goOn_15 (by decide) (fun c_15 => ?_) (fun c_15 => ?_)
        · skip
          have hge := nI_geD (n := 4) (by decide) c_15
          refine pw_vret dX3_goOn_97 rfl ?_
          have e : t = 4 := by omega
          subst e
          have hq2 : q = _ := hq
          rw [hq2]
        · skip
          have hlt := nI_ltD (n := 4) (by omega) c_15
          refine pw_iload dX3_goOn_18 rfl ?_
          refine pw_aload_n dX3_goOn_20 rfl rfl ?_
          refine pw_getI dX3_goOn_21 fa_X3_9 rfl ?_
          refine pw_top (y := nI first) hf ?_
          refine pw_icmp_ne (tgt := 47) dX3_goOn_24 (by decide) (fun c_24 => ?_) (fun c_24 => ?_)
          · skip
            have hne : ¬ t = first := fun h => c_24 (by rw [h])
            refine pw_iload dX3_goOn_47 rfl ?_
            refine pw_iload dX3_goOn_49 rfl ?_
            refine pw_cSi dX3_goOn_51 ms_X3_40 T_X7_hasBit rfl rfl (Nat.le_of_ble_eq_true rfl) (by omega) (fun x_51 m_51 h_51 => ?_)
            obtain ⟨rfl, rfl⟩ := h_51
            refine pw_if_ne (tgt := 91) dX3_goOn_54 (by decide) (fun c_54 => ?_) (fun c_54 => ?_)
            · skip
              have hb := b2_n c_54
              refine pw_iinc (ls2 := [(6, _), (0, _), (1, _), (2, _), (4, _), (5, _)]) (v := nI (t + 1)) dX3_goOn_91 rfl (inc1 t) (by decide) rfl ?_
              refine pw_goto (tgt := 12) dX3_goOn_94 (by decide) ?_
              refine pw_sub [1, 2, 3, 4, 5, 0] rfl ?_
              exact ih_12 (t + 1) q hlt (by rw [← hq, show 4 - t = (4 - (t + 1)) + 1 by omega]; show _ = goS _ _ _ _ _ _ _ (t + 1) _ (if _ then _ else _); rw [if_neg hne, hb, if_pos rfl]) (by omega)
            · skip
              have hb := b2_0 c_54
              have h4 := set4 b hb16 t (by omega) hb
              refine pw_aload_n dX3_goOn_57 rfl rfl ?_
              refine pw_iload dX3_goOn_58 rfl ?_
              refine pw_aload_n dX3_goOn_60 rfl rfl ?_
              refine pw_getR dX3_goOn_61 fa_X3_22 rfl ?_
              refine pw_iload_n dX3_goOn_64 rfl rfl ?_
              refine pw_iload dX3_goOn_65 rfl ?_
              refine pw_lload_n dX3_goOn_67 rfl rfl ?_
              refine pw_cVl dX3_goOn_68 mv_X3_30 ckNow (T_X6_changed (w := 22) (Or.inl rfl) hat (by omega)) rfl rfl (Nat.le_of_ble_eq_true rfl) (by omega) (fun x_68 m_68 h_68 => ?_)
              obtain ⟨rfl, rfl⟩ := h_68
              refine pw_iload dX3_goOn_71 rfl ?_
              refine pw_bipush (v := 10) dX3_goOn_73 rfl ?_
              refine pw_imul dX3_goOn_75 ?_
              refine pw_iload dX3_goOn_76 rfl ?_
              refine pw_iadd dX3_goOn_78 ?_
              refine pw_iconst (v := 1) dX3_goOn_79 rfl ?_
              skip
              refine pw_iadd dX3_goOn_80 ?_
              refine pw_top (y := nI (dg * 10 + t + 1)) (by show nI dg * nI 10 + nI t + 1 = _; rw [pk_mul, nI_add, nI_1]) ?_
              refine pw_iload dX3_goOn_81 rfl ?_
              refine pw_iconst (v := 1) dX3_goOn_83 rfl ?_
              refine pw_iload dX3_goOn_84 rfl ?_
              refine pw_ishl dX3_goOn_86 ?_
              refine pw_ior dX3_goOn_87 ?_
              refine pw_top h4.1 ?_
              refine pw_cSv dX3_goOn_88 ms_X3_26 (hrec (at0 := t) (dg := dg * 10 + t + 1) (b := b + 2 ^ t) (a := q) (by omega) h4.2.1 (by omega) (by rw [h4.2.2, show cnt4 b + 1 - 1 = (cnt4 b - 1) + 1 by omega, Nat.pow_succ]; omega) (by omega)) rfl rfl (Nat.le_of_ble_eq_true rfl) (by omega) (fun m_88 h_88 => ?_)
              obtain rfl := h_88
              refine pw_iinc (ls2 := [(6, _), (0, _), (1, _), (2, _), (4, _), (5, _)]) (v := nI (t + 1)) dX3_goOn_91 rfl (inc1 t) (by decide) rfl ?_
              refine pw_goto (tgt := 12) dX3_goOn_94 (by decide) ?_
              refine pw_sub [1, 2, 3, 4, 5, 0] rfl ?_
              exact ih_12 (t + 1) _ hlt (by rw [← hq, show 4 - t = (4 - (t + 1)) + 1 by omega]; show _ = goS _ _ _ _ _ _ _ (t + 1) _ (if _ then _ else _); rw [if_neg hne, hb, if_neg (by decide)]) (by omega)
          · skip
            have heq : t = first := (nI_eq (by omega) (by omega)).mp c_24
            subst heq
            refine pw_aload_n dX3_goOn_27 rfl rfl ?_
            refine pw_aload_n dX3_goOn_28 rfl rfl ?_
            refine pw_getR dX3_goOn_29 fa_X3_22 rfl ?_
            refine pw_iload_n dX3_goOn_32 rfl rfl ?_
            refine pw_iload dX3_goOn_33 rfl ?_
            refine pw_lload_n dX3_goOn_35 rfl rfl ?_
            refine pw_cVl dX3_goOn_36 mv_X3_30 ckNow (T_X6_changed (w := 22) (Or.inl rfl) hat (by omega)) rfl rfl (Nat.le_of_ble_eq_true rfl) (by omega) (fun x_36 m_36 h_36 => ?_)
            obtain ⟨rfl, rfl⟩ := h_36
            refine pw_iload dX3_goOn_39 rfl ?_
            refine pw_cVv dX3_goOn_41 mv_X3_36 ckRounds (T_X3_compare (f := f) (d := q.2) (b := q.1)) rfl rfl (Nat.le_of_ble_eq_true rfl) (by omega) (fun m_41 h_41 => ?_)
            obtain rfl := h_41
            refine pw_goto (tgt := 91) dX3_goOn_44 (by decide) ?_
            refine pw_iinc (ls2 := [(6, _), (0, _), (1, _), (2, _), (4, _), (5, _)]) (v := nI (t + 1)) dX3_goOn_91 rfl (inc1 t) (by decide) rfl ?_
            refine pw_goto (tgt := 12) dX3_goOn_94 (by decide) ?_
            refine pw_sub [1, 2, 3, 4, 5, 0] rfl ?_
            exact ih_12 (t + 1) _ hlt (by rw [← hq, show 4 - t = (4 - (t + 1)) + 1 by omega]; show _ = goS _ _ _ _ _ _ _ (t + 1) _ (if _ then _ else _); rw [if_pos rfl]) (by omega)
    refine pw_sub [1, 2, 3, 4, 5, 0] rfl ?_
    exact L_12 5 0 a (Nat.zero_le _) rfl (by omega)
  · skip
    exact absurd (nI_le (by omega) (by decide)) c_5

theorem goOn_all {l : Launch} {μ : PM} {V : VW} {nm sk : Nat → Int32} {f : Int32} {first : Nat} (hf : f = nI first) (h4f : first < 4) : ∀ (fu : Nat) {at0 dg b : Nat} {much : Int64} {a : Int64 × Int32}, at0 < 4 → b < 16 → 5 ≤ cnt4 b + fu → dg < 10 ^ (cnt4 b - 1) → 1 ≤ cnt4 b →
    CT l SC yX3_goOn cX3_goOn 7 none (3 + fu) [.ref 17, .int (nI at0), .long much, .int (nI dg), .int (nI b)] (sc (wr (rwM μ f a.2 a.1) 22 V) nm sk) (QV fun m => m = sc (wr (rwM μ f (goF (V 9) first fu at0 much dg b a).2 (goF (V 9) first fu at0 much dg b a).1) 22 V) nm sk)
  | 0, _, _, b, _, _, _, h2, h3, _, _ => absurd (cnt4_le b h2) (by omega)
  | fu + 1, at0, dg, b, much, a, h1, h2, h3, h4, h5 =>
    goOn_step hf h4f fu (3 + fu) (3 + (fu + 1)) (by omega) (by omega) (fun g1 g2 g3 g4 g5 => goOn_all hf h4f fu g1 g2 g3 g4 g5) h1 h2 h3 h4 h5

theorem pow4 : ∀ a, a < 4 → ((1 : Int32) <<< (nI a &&& 31)) = nI (2 ^ a) := by decide +kernel
theorem pow4b : ∀ a, a < 4 → 2 ^ a < 16 ∧ cnt4 (2 ^ a) = 1 := by decide +kernel

set_option maxHeartbeats 4000000 in
set_option maxRecDepth 100000 in
theorem T_X3_start {l : Launch} {μ : PM} {V : VW} {nm sk : Nat → Int32} {a : Nat} {much : Int64} (ha : a < 4) : CT l SC yX3_start cX3_start 4 none 8 [.ref 17, .int (nI a), .long much] (sc (wr μ 22 V) nm sk) (QV fun m => m = sc (wr (rwM μ (nI a) (goF (V 9) a 4 a much 0 (2 ^ a) (much, 0)).2 (goF (V 9) a 4 a much 0 (2 ^ a) (much, 0)).1) 22 V) nm sk) := by
  refine CT.of rfl (Nat.le_of_ble_eq_true rfl) ?_
  show PW l SC RX3 cX3_start 4 none 8 _ 0 [(0, .ref 17), (1, .int (nI a)), (2, .long much)] [] (sc (wr μ 22 V) nm sk)
  refine pw_aload_n dX3_start_0 rfl rfl ?_
  refine pw_iload_n dX3_start_1 rfl rfl ?_
  refine pw_putI dX3_start_2 fa_X3_9 rfl ?_
  refine pw_mem (by rw [si_sc (by decide) (by decide), si_wrO (by decide)]) ?_
  refine pw_aload_n dX3_start_5 rfl rfl ?_
  refine pw_lload_n dX3_start_6 rfl rfl ?_
  refine pw_putL dX3_start_7 fa_X3_15 rfl rfl ?_
  refine pw_mem (by rw [sl_sc, sl_wr]) ?_
  refine pw_aload_n dX3_start_10 rfl rfl ?_
  refine pw_iconst (v := 0) dX3_start_11 rfl ?_
  refine pw_putI dX3_start_12 fa_X3_19 rfl ?_
  refine pw_mem (by rw [si_sc (by decide) (by decide), si_wrO (by decide), rwM_self]) ?_
  refine pw_aload_n dX3_start_15 rfl rfl ?_
  refine pw_iload_n dX3_start_16 rfl rfl ?_
  refine pw_lload_n dX3_start_17 rfl rfl ?_
  refine pw_iconst (v := 0) dX3_start_18 rfl ?_
  refine pw_iconst (v := 1) dX3_start_19 rfl ?_
  refine pw_iload_n dX3_start_20 rfl rfl ?_
  refine pw_ishl dX3_start_21 ?_
  refine pw_top (y := nI (2 ^ a)) (pow4 a ha) ?_
  refine pw_cSv dX3_start_22 ms_X3_26 (goOn_all (a := (much, 0)) (dg := 0) rfl ha 4 ha (pow4b a ha).1 (by rw [(pow4b a ha).2]; decide) (by rw [(pow4b a ha).2]; decide) (by rw [(pow4b a ha).2]; decide)) rfl rfl (Nat.le_of_ble_eq_true rfl) (by decide) (fun m_22 h_22 => ?_)
  obtain rfl := h_22
  refine pw_vret dX3_start_25 rfl ?_
  rfl

