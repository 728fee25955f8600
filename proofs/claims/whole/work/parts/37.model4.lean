def onesF (x : Int32) : Nat → Int32
  | 0 => 0
  | m + 1 => onesF x m + ((x >>> (nI m &&& 31)) &&& 1)
theorem onesF_bc : ∀ x, x < 64 → onesF (nI x) 6 = bcF (nI x) := by decide +kernel
theorem and_sm (x : Int32) {a : Nat} (ha : a < 64) : ∃ z, z < 64 ∧ x &&& nI a = nI z := by
  have hle : x.toBitVec.toNat &&& a ≤ a := Nat.and_le_right
  refine ⟨x.toBitVec.toNat &&& a, by omega, ?_⟩
  apply Int32.toBitVec_inj.mp
  apply BitVec.eq_of_toNat_eq
  rw [Int32.toBitVec_and, BitVec.toNat_and, pk_tn (by omega), pk_tn (by omega)]
theorem or_sm {a b : Nat} (ha : a < 64) (hb : b < 64) : ∃ z, z < 64 ∧ nI a ||| nI b = nI z := by
  have hlt : a ||| b < 2 ^ 6 := Nat.or_lt_two_pow (n := 6) ha hb
  refine ⟨a ||| b, hlt, ?_⟩
  apply Int32.toBitVec_inj.mp
  apply BitVec.eq_of_toNat_eq
  rw [Int32.toBitVec_or, BitVec.toNat_or, pk_tn (by omega), pk_tn (by omega), pk_tn (by omega)]
theorem shF_sm : ∀ h, h < 6 → ∃ z, z < 64 ∧ shF h = nI z
  | 0, _ => ⟨1, by decide, by decide⟩
  | 1, _ => ⟨2, by decide, by decide⟩
  | 2, _ => ⟨4, by decide, by decide⟩
  | 3, _ => ⟨8, by decide, by decide⟩
  | 4, _ => ⟨16, by decide, by decide⟩
  | 5, _ => ⟨32, by decide, by decide⟩
theorem minuteF_sm {fr ca : Nat → Int32} {a : Nat} {th : Int32} (ha : a < 64) : ∀ n, n ≤ 6 → ∃ b, b < 64 ∧ minuteF fr ca (nI a) th n = nI b
  | 0, _ => ⟨a, ha, rfl⟩
  | h + 1, hn => by
    obtain ⟨b, hb, e⟩ := minuteF_sm (fr := fr) (ca := ca) (th := th) ha h (by omega)
    obtain ⟨z, hz, ez⟩ := shF_sm h (by omega)
    unfold minuteF
    split
    · rw [e]
      change ∃ b, b < 64 ∧ nI _ ||| shF h = nI b
      rw [ez]
      exact or_sm hb hz
    · exact ⟨b, hb, e⟩
set_option maxHeartbeats 4000000 in
set_option maxRecDepth 100000 in
theorem T_X8_ones {l : Launch} {Ω : SH} {v : Int32} {μ : PM} : CT l Ω yX8_ones cX8_ones 3 (some .int) 1 [.int v] μ (QI fun x m => x = onesF v 6 ∧ m = μ) := by
  refine CT.of rfl (Nat.le_of_ble_eq_true rfl) ?_
  show PW l Ω RX8 cX8_ones 3 (some .int) 1 _ 0 [(0, .int v)] [] μ
  refine pw_iconst (v := 0) dX8_ones_0 rfl ?_
  refine pw_istore_n (ls2 := [(1, _), (0, _)]) dX8_ones_1 rfl (by decide) rfl ?_
  refine pw_iconst (v := 0) dX8_ones_2 rfl ?_
  refine pw_istore_n (ls2 := [(2, _), (1, _), (0, _)]) dX8_ones_3 rfl (by decide) rfl ?_
  have L_4 : ∀ (fu_4 : Nat) (i : Nat) (s : Int32), (i ≤ 6) → (s = onesF v i) → 6 - i < fu_4 → PW l Ω RX8 cX8_ones 3 (some .int) 1 (QI fun x m => x = onesF v 6 ∧ m = μ) 4 [(0, .int v), (1, .int s), (2, .int (nI i))] [] (μ) := by
    intro fu_4
    induction fu_4 with
    | zero =>
      intro i s hi hs hm_4
      exact absurd hm_4 (Nat.not_lt_zero _)
    | succ fu_4 ih_4 =>
      intro i s hi hs hm_4
      refine pw_iload_n dX8_ones_4 rfl rfl ?_
      refine pw_bipush (v := 6) dX8_ones_5 rfl ?_
      refine pw_icmp_ge (tgt := 24) dX8_ones_7 (by decide) (fun c_7 => ?_) (fun c_7 => ?_)
      · skip
        have hge := nI_geD (n := 6) (by decide) c_7
        refine pw_iload_n dX8_ones_24 rfl rfl ?_
        refine pw_iret dX8_ones_25 rfl ?_
        exact ⟨by rw [hs, show i = 6 by omega], rfl⟩
      · skip
        have hlt := nI_ltD (n := 6) (by omega) c_7
        refine pw_iload_n dX8_ones_10 rfl rfl ?_
        refine pw_iload_n dX8_ones_11 rfl rfl ?_
        refine pw_iload_n dX8_ones_12 rfl rfl ?_
        refine pw_ishr dX8_ones_13 ?_
        refine pw_iconst (v := 1) dX8_ones_14 rfl ?_
        refine pw_iand dX8_ones_15 ?_
        refine pw_iadd dX8_ones_16 ?_
        refine pw_istore_n (ls2 := [(1, _), (0, _), (2, _)]) dX8_ones_17 rfl (by decide) rfl ?_
        refine pw_iinc (ls2 := [(2, _), (1, _), (0, _)]) (v := nI (i + 1)) dX8_ones_18 rfl (inc1 i) (by decide) rfl ?_
        refine pw_goto (tgt := 4) dX8_ones_21 (by decide) ?_
        refine pw_sub [2, 1, 0] rfl ?_
        exact ih_4 (i + 1) _ hlt (by rw [hs]; rfl) (by omega)
  refine pw_sub [2, 1, 0] rfl ?_
  exact L_4 7 0 0 (Nat.zero_le _) rfl (by omega)

set_option maxHeartbeats 4000000 in
set_option maxRecDepth 100000 in
theorem T_X8_catches {l : Launch} {μ : PM} {V : VW} {nm sk st : Nat → Int32} {sn : Int32} {n a : Nat} {th : Int32} (hn : V 0 5 = nI n) (hn6 : n ≤ 6) (ha : a < 64) : CT l SM yX8_catches cX8_catches 6 (some .int) 2 [.ref 0, .int (nI a), .int th] (mm μ V nm sk st sn) (QI fun x m => x = minuteF (V 6) (V 8) (nI a) th n ∧ m = mm μ V nm sk st sn) := by
  refine CT.of rfl (Nat.le_of_ble_eq_true rfl) ?_
  show PW l SM RX8 cX8_catches 6 (some .int) 2 _ 0 [(0, .ref 0), (1, .int (nI a)), (2, .int th)] [] (mm μ V nm sk st sn)
  refine pw_iload_n dX8_catches_0 rfl rfl ?_
  refine pw_istore_n (ls2 := [(3, _), (0, _), (1, _), (2, _)]) dX8_catches_1 rfl (by decide) rfl ?_
  refine pw_iconst (v := 0) dX8_catches_2 rfl ?_
  refine pw_istore (ls2 := [(4, _), (3, _), (0, _), (1, _), (2, _)]) dX8_catches_3 (by decide) rfl ?_
  have L_5 : ∀ (fu_5 : Nat) (i : Nat) (x : Int32), (i ≤ n) → (x = minuteF (V 6) (V 8) (nI a) th i) → n - i < fu_5 → PW l SM RX8 cX8_catches 6 (some .int) 2 (QI fun x m => x = minuteF (V 6) (V 8) (nI a) th n ∧ m = mm μ V nm sk st sn) 5 [(0, .ref 0), (1, .int (nI a)), (2, .int th), (3, .int x), (4, .int (nI i))] [] (mm μ V nm sk st sn) := by
    intro fu_5
    induction fu_5 with
    | zero =>
      intro i x hi hx hm_5
      exact absurd hm_5 (Nat.not_lt_zero _)
    | succ fu_5 ih_5 =>
      intro i x hi hx hm_5
      refine pw_iload dX8_catches_5 rfl ?_
      refine pw_aload_n dX8_catches_7 rfl rfl ?_
      refine pw_getI dX8_catches_8 fa_X8_82 rfl ?_
      refine pw_top (y := nI n) hn ?_
      refine pw_icmp_ge (tgt := 85) dX8_catches_11 (by decide) (fun c_11 => ?_) (fun c_11 => ?_)
      · skip
        have hge := nI_geD (by omega) c_11
        refine pw_iload_n dX8_catches_85 rfl rfl ?_
        refine pw_iret dX8_catches_86 rfl ?_
        exact ⟨by rw [hx, show i = n by omega], rfl⟩
      · skip
        have hlt := nI_ltD (by omega) c_11
        refine pw_iload_n dX8_catches_14 rfl rfl ?_
        refine pw_iload dX8_catches_15 rfl ?_
        refine pw_ishr dX8_catches_17 ?_
        refine pw_iconst (v := 1) dX8_catches_18 rfl ?_
        refine pw_iand dX8_catches_19 ?_
        refine pw_iconst (v := 1) dX8_catches_20 rfl ?_
        refine pw_icmp_ne (tgt := 60) dX8_catches_21 (by decide) (fun c_21 => ?_) (fun c_21 => ?_)
        · skip
          have hbt := bit_f c_21
          refine pw_iconst (v := 0) dX8_catches_60 rfl ?_
          refine pw_istore (ls2 := [(5, _), (0, _), (1, _), (2, _), (3, _), (4, _)]) dX8_catches_61 (by decide) rfl ?_
          refine pw_iload_n dX8_catches_63 rfl rfl ?_
          refine pw_iload dX8_catches_64 rfl ?_
          refine pw_if_eq (tgt := 76) dX8_catches_66 (by decide) (fun c_66 => ?_) (fun c_66 => ?_)
          · skip
            refine pw_iconst (v := 0) dX8_catches_76 rfl ?_
            refine pw_ior dX8_catches_77 ?_
            refine pw_istore_n (ls2 := [(3, _), (5, _), (0, _), (1, _), (2, _), (4, _)]) dX8_catches_78 rfl (by decide) rfl ?_
            refine pw_iinc (ls2 := [(4, _), (3, _), (5, _), (0, _), (1, _), (2, _)]) (v := nI (i + 1)) dX8_catches_79 rfl (inc1 i) (by decide) rfl ?_
            refine pw_goto (tgt := 5) dX8_catches_82 (by decide) ?_
            refine pw_sub [3, 4, 5, 1, 0] rfl ?_
            exact ih_5 (i + 1) _ hlt (by rw [hx]; show _ = if (bitF th i && decide (V 8 i ≤ bcF ((V 6 i &&& th) &&& nI a))) then _ else _; rw [hbt, Bool.false_and, if_neg Bool.false_ne_true]; exact Int32.or_zero) (by omega)
          · skip
            exact absurd rfl c_66
        · skip
          have hbt := bit_t c_21
          refine pw_aload_n dX8_catches_24 rfl rfl ?_
          refine pw_getR dX8_catches_25 fa_X8_19 rfl ?_
          refine pw_iconst (v := 5) dX8_catches_28 rfl ?_
          refine pw_iload dX8_catches_29 rfl ?_
          refine pw_imul dX8_catches_31 ?_
          refine pw_iconst (v := 2) dX8_catches_32 rfl ?_
          refine pw_iadd dX8_catches_33 ?_
          refine pw_iald (j := 5 * i + 2) dX8_catches_34 rfl (by show nI 5 * nI i + nI 2 = _; rw [pk_mul, nI_add]) (by omega) ?_
          refine pw_top (y := V 6 i) (hl_at (by decide)) ?_
          refine pw_iload_n dX8_catches_35 rfl rfl ?_
          refine pw_iand dX8_catches_36 ?_
          refine pw_iload_n dX8_catches_37 rfl rfl ?_
          refine pw_iand dX8_catches_38 ?_
          refine pw_cSi dX8_catches_39 ms_X8_229 T_X8_ones rfl rfl (Nat.le_of_ble_eq_true rfl) (by decide) (fun x_39 m_39 h_39 => ?_)
          obtain ⟨rfl, rfl⟩ := h_39
          obtain ⟨z, hz, ez⟩ := and_sm (V 6 i &&& th) ha
          rw [show onesF (V 6 i &&& th &&& nI a) 6 = bcF (V 6 i &&& th &&& nI a) by rw [ez]; exact onesF_bc z hz]
          refine pw_aload_n dX8_catches_42 rfl rfl ?_
          refine pw_getR dX8_catches_43 fa_X8_19 rfl ?_
          refine pw_iconst (v := 5) dX8_catches_46 rfl ?_
          refine pw_iload dX8_catches_47 rfl ?_
          refine pw_imul dX8_catches_49 ?_
          refine pw_iconst (v := 4) dX8_catches_50 rfl ?_
          refine pw_iadd dX8_catches_51 ?_
          refine pw_iald (j := 5 * i + 4) dX8_catches_52 rfl (by show nI 5 * nI i + nI 4 = _; rw [pk_mul, nI_add]) (by omega) ?_
          refine pw_top (y := V 8 i) (hl_at (by decide)) ?_
          refine pw_icmp_lt (tgt := 60) dX8_catches_53 (by decide) (fun c_53 => ?_) (fun c_53 => ?_)
          · skip
            refine pw_iconst (v := 0) dX8_catches_60 rfl ?_
            refine pw_istore (ls2 := [(5, _), (0, _), (1, _), (2, _), (3, _), (4, _)]) dX8_catches_61 (by decide) rfl ?_
            refine pw_iload_n dX8_catches_63 rfl rfl ?_
            refine pw_iload dX8_catches_64 rfl ?_
            refine pw_if_eq (tgt := 76) dX8_catches_66 (by decide) (fun c_66 => ?_) (fun c_66 => ?_)
            · skip
              refine pw_iconst (v := 0) dX8_catches_76 rfl ?_
              refine pw_ior dX8_catches_77 ?_
              refine pw_istore_n (ls2 := [(3, _), (5, _), (0, _), (1, _), (2, _), (4, _)]) dX8_catches_78 rfl (by decide) rfl ?_
              refine pw_iinc (ls2 := [(4, _), (3, _), (5, _), (0, _), (1, _), (2, _)]) (v := nI (i + 1)) dX8_catches_79 rfl (inc1 i) (by decide) rfl ?_
              refine pw_goto (tgt := 5) dX8_catches_82 (by decide) ?_
              refine pw_sub [3, 4, 5, 1, 0] rfl ?_
              exact ih_5 (i + 1) _ hlt (by rw [hx]; show _ = if (bitF th i && decide (V 8 i ≤ bcF ((V 6 i &&& th) &&& nI a))) then _ else _; rw [hbt, Bool.true_and, decide_eq_false (Int32.not_le.mpr c_53), if_neg Bool.false_ne_true]; exact Int32.or_zero) (by omega)
            · skip
              exact absurd rfl c_66
          · skip
            refine pw_iconst (v := 1) dX8_catches_56 rfl ?_
            refine pw_goto (tgt := 61) dX8_catches_57 (by decide) ?_
            refine pw_istore (ls2 := [(5, _), (0, _), (1, _), (2, _), (3, _), (4, _)]) dX8_catches_61 (by decide) rfl ?_
            refine pw_iload_n dX8_catches_63 rfl rfl ?_
            refine pw_iload dX8_catches_64 rfl ?_
            refine pw_if_eq (tgt := 76) dX8_catches_66 (by decide) (fun c_66 => ?_) (fun c_66 => ?_)
            · skip
              exact absurd c_66 (by decide)
            · skip
              refine pw_iconst (v := 1) dX8_catches_69 rfl ?_
              refine pw_iload dX8_catches_70 rfl ?_
              refine pw_ishl dX8_catches_72 ?_
              refine pw_goto (tgt := 77) dX8_catches_73 (by decide) ?_
              refine pw_ior dX8_catches_77 ?_
              refine pw_istore_n (ls2 := [(3, _), (5, _), (0, _), (1, _), (2, _), (4, _)]) dX8_catches_78 rfl (by decide) rfl ?_
              refine pw_iinc (ls2 := [(4, _), (3, _), (5, _), (0, _), (1, _), (2, _)]) (v := nI (i + 1)) dX8_catches_79 rfl (inc1 i) (by decide) rfl ?_
              refine pw_goto (tgt := 5) dX8_catches_82 (by decide) ?_
              refine pw_sub [3, 4, 5, 1, 0] rfl ?_
              exact ih_5 (i + 1) _ hlt (by rw [hx]; show _ = if (bitF th i && decide (V 8 i ≤ bcF ((V 6 i &&& th) &&& nI a))) then _ else _; rw [hbt, Bool.true_and, decide_eq_true (Int32.not_lt.mp c_53), if_pos rfl]) (by omega)
  refine pw_sub [2, 3, 4, 1, 0] rfl ?_
  exact L_5 (n + 1) 0 (nI a) (Nat.zero_le _) rfl (by omega)

set_option maxHeartbeats 4000000 in
set_option maxRecDepth 100000 in
theorem T_X8_caught {l : Launch} {μ : PM} {V : VW} {nm sk st : Nat → Int32} {sn : Int32} {n : Nat} {fi mi : Int32} (hn : V 0 5 = nI n) (hn6 : n ≤ 6) : CT l SM yX8_caught cX8_caught 5 (some .int) 3 [.ref 0, .int fi, .int mi] (mm μ V nm sk st sn) (QI fun x m => x = caughtF V n fi mi ∧ m = mm μ V nm sk st sn) := by
  refine CT.of rfl (Nat.le_of_ble_eq_true rfl) ?_
  show PW l SM RX8 cX8_caught 5 (some .int) 3 _ 0 [(0, .ref 0), (1, .int fi), (2, .int mi)] [] (mm μ V nm sk st sn)
  have hal := allF_n hn hn6
  have hab := aN_b hn6
  refine pw_aload_n dX8_caught_0 rfl rfl ?_
  refine pw_iload_n dX8_caught_1 rfl rfl ?_
  refine pw_cVi dX8_caught_2 mv_X8_180 ckModel T_X8_areSome rfl rfl (Nat.le_of_ble_eq_true rfl) (by decide) (fun x_2 m_2 h_2 => ?_)
  obtain ⟨rfl, rfl⟩ := h_2
  refine pw_if_eq (tgt := 18) dX8_caught_5 (by decide) (fun c_5 => ?_) (fun c_5 => ?_)
  · skip
    have hb_5 := b2_0 c_5
    refine pw_bipush (v := (-2)) dX8_caught_18 rfl ?_
    refine pw_iret dX8_caught_20 rfl ?_
    exact ⟨by unfold caughtF; rw [hb_5]; rfl, rfl⟩
  · skip
    have hb_5 := b2_n c_5
    refine pw_iload_n dX8_caught_8 rfl rfl ?_
    refine pw_iconst (v := 0) dX8_caught_9 rfl ?_
    refine pw_bipush (v := 9) dX8_caught_10 rfl ?_
    refine pw_cSi dX8_caught_12 ms_X8_78 T_X8_in rfl rfl (Nat.le_of_ble_eq_true rfl) (by decide) (fun x_12 m_12 h_12 => ?_)
    obtain ⟨rfl, rfl⟩ := h_12
    refine pw_if_ne (tgt := 21) dX8_caught_15 (by decide) (fun c_15 => ?_) (fun c_15 => ?_)
    · skip
      have hb_15 := b2_n c_15
      obtain ⟨mi, hm9, rfl⟩ := in_trueL (n := 9) hb_15 (by decide)
      have hfi : inF fi 0 (nI (aN n - 1)) = true := by rw [← hal]; exact hb_5
      obtain ⟨a0, ha0, efi⟩ := in_trueL hfi (by omega)
      refine pw_iload_n dX8_caught_21 rfl rfl ?_
      refine pw_istore_n (ls2 := [(3, _), (0, _), (1, _), (2, _)]) dX8_caught_22 rfl (by decide) rfl ?_
      refine pw_iconst (v := 0) dX8_caught_23 rfl ?_
      refine pw_istore (ls2 := [(4, _), (3, _), (0, _), (1, _), (2, _)]) dX8_caught_24 (by decide) rfl ?_
      have L_26 : ∀ (fu_26 : Nat) (i a : Nat), (i ≤ mi) → (a < 64) → (nI a = atLastF (V 6) (V 8) n fi (allF V) i) → mi - i < fu_26 → PW l SM RX8 cX8_caught 5 (some .int) 3 (QI fun x m => x = caughtF V n fi (nI mi) ∧ m = mm μ V nm sk st sn) 26 [(0, .ref 0), (2, .int (nI mi)), (3, .int (nI a)), (4, .int (nI i))] [] (mm μ V nm sk st sn) := by
        intro fu_26
        induction fu_26 with
        | zero =>
          intro i a hi ha hx hm_26
          exact absurd hm_26 (Nat.not_lt_zero _)
        | succ fu_26 ih_26 =>
          intro i a hi ha hx hm_26
          refine pw_iload dX8_caught_26 rfl ?_
          refine pw_iload_n dX8_caught_28 rfl rfl ?_
          refine pw_icmp_ge (tgt := 48) dX8_caught_29 (by decide) (fun c_29 => ?_) (fun c_29 => ?_)
          · skip
            have hge := nI_geD (by omega) c_29
            refine pw_iload_n dX8_caught_48 rfl rfl ?_
            refine pw_iret dX8_caught_49 rfl ?_
            exact ⟨by unfold caughtF; rw [hb_5, show inF (nI mi) 0 9 = true from hb_15, cl_nI (by omega), hx, show i = mi by omega]; rfl, rfl⟩
          · skip
            have hlt := nI_ltD (by omega) c_29
            refine pw_aload_n dX8_caught_32 rfl rfl ?_
            refine pw_iload_n dX8_caught_33 rfl rfl ?_
            refine pw_aload_n dX8_caught_34 rfl rfl ?_
            refine pw_cVi dX8_caught_35 mv_X8_85 ckModel T_X8_everybody rfl rfl (Nat.le_of_ble_eq_true rfl) (by decide) (fun x_35 m_35 h_35 => ?_)
            obtain ⟨rfl, rfl⟩ := h_35
            refine pw_cVi dX8_caught_38 mv_X8_232 ckModel (T_X8_catches (a := a) hn hn6 ha) rfl rfl (Nat.le_of_ble_eq_true rfl) (by decide) (fun x_38 m_38 h_38 => ?_)
            obtain ⟨rfl, rfl⟩ := h_38
            refine pw_istore_n (ls2 := [(3, _), (0, _), (2, _), (4, _)]) dX8_caught_41 rfl (by decide) rfl ?_
            refine pw_iinc (ls2 := [(4, _), (3, _), (0, _), (2, _)]) (v := nI (i + 1)) dX8_caught_42 rfl (inc1 i) (by decide) rfl ?_
            refine pw_goto (tgt := 26) dX8_caught_45 (by decide) ?_
            refine pw_sub [2, 3, 1, 0] rfl ?_
            obtain ⟨b, hb, eb⟩ := minuteF_sm (fr := V 6) (ca := V 8) (th := allF V) ha n hn6
            rw [eb]
            exact ih_26 (i + 1) b hlt hb (by rw [← eb, hx]; rfl) (by omega)
      refine pw_sub [2, 4, 1, 0] rfl ?_
      have hL := L_26 (mi + 1) 0 a0 (Nat.zero_le _) (by omega) efi.symm (by omega)
      rw [← efi] at hL
      exact hL
    · skip
      have hb_15 := b2_0 c_15
      refine pw_bipush (v := (-2)) dX8_caught_18 rfl ?_
      refine pw_iret dX8_caught_20 rfl ?_
      exact ⟨by unfold caughtF; rw [hb_5, hb_15]; rfl, rfl⟩

