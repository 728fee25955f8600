def gM (μ : PM) (g : Int64) (d : Int32) : PM := sl (si μ 0 40 d) 0 g
theorem gM_self {μ : PM} : gM μ (μ.2 0) (μ.1 0 40) = μ := by
  unfold gM
  rw [si_id]
  refine PM_ext (fun _ => rfl) (funext fun x => ?_)
  show (if x = 0 then μ.2 0 else μ.2 x) = μ.2 x
  by_cases e : x = 0
  · rw [if_pos e, e]
  · rw [if_neg e]
theorem gM_d {μ : PM} {g : Int64} {d e : Int32} : si (gM μ g d) 0 40 e = gM μ g e := by
  show sl (si (si μ 0 40 d) 0 40 e) 0 g = sl (si μ 0 40 e) 0 g
  rw [si_si]
theorem gM_g {μ : PM} {g v : Int64} {d : Int32} {V : VW} {nm sk st : Nat → Int32} {sn : Int32} : sl (mm (gM μ g d) V nm sk st sn) 0 v = mm (gM μ v d) V nm sk st sn := by
  refine PM_ext (fun _ => rfl) (funext fun x => ?_)
  show (if x = 0 then v else if x = 0 then g else μ.2 x) = if x = 0 then v else μ.2 x
  by_cases e : x = 0
  · rw [if_pos e, if_pos e]
  · rw [if_neg e, if_neg e, if_neg e]
def b3P (a b c t : Nat) : Prop := a = b ∨ a = c ∨ b = c ∨ (bitF (nI (2 ^ a + 2 ^ b + 2 ^ c)) t = (decide (t = a) || decide (t = b) || decide (t = c)) ∧ (t = a ∨ t = b ∨ t = c ∨ 2 ^ a + 2 ^ b + 2 ^ c + 2 ^ t = 15))
theorem b3x : ∀ x, x < 256 → x % 4 = x / 4 % 4 ∨ x % 4 = x / 16 % 4 ∨ x / 4 % 4 = x / 16 % 4 ∨ (bitF (nI (2 ^ (x % 4) + 2 ^ (x / 4 % 4) + 2 ^ (x / 16 % 4))) (x / 64) = (decide (x / 64 = x % 4) || decide (x / 64 = x / 4 % 4) || decide (x / 64 = x / 16 % 4)) ∧ (x / 64 = x % 4 ∨ x / 64 = x / 4 % 4 ∨ x / 64 = x / 16 % 4 ∨ 2 ^ (x % 4) + 2 ^ (x / 4 % 4) + 2 ^ (x / 16 % 4) + 2 ^ (x / 64) = 15)) := by decide +kernel
theorem b3p (a : Nat) (ha : a < 4) (b : Nat) (hb : b < 4) (c : Nat) (hc : c < 4) (t : Nat) (ht : t < 4) : b3P a b c t := by
  have h := b3x (a + 4 * b + 16 * c + 64 * t) (by omega)
  rw [show (a + 4 * b + 16 * c + 64 * t) % 4 = a by omega, show (a + 4 * b + 16 * c + 64 * t) / 4 % 4 = b by omega, show (a + 4 * b + 16 * c + 64 * t) / 16 % 4 = c by omega, show (a + 4 * b + 16 * c + 64 * t) / 64 = t by omega] at h
  exact h
theorem b2k : ∀ a, a < 4 → ∀ b, b < 4 → ∀ t, t < 4 → a = b ∨ bitF (nI (2 ^ a + 2 ^ b)) t = (decide (t = a) || decide (t = b)) := by decide +kernel
theorem bit3 (a : Nat) (ha : a < 4) (b : Nat) (hb : b < 4) (c : Nat) (hc : c < 4) (h1 : a ≠ b) (h2 : a ≠ c) (h3 : b ≠ c) (t : Nat) (ht : t < 4) : (bitF (nI (2 ^ a + 2 ^ b + 2 ^ c)) t = true ∧ (t = a ∨ t = b ∨ t = c)) ∨ (bitF (nI (2 ^ a + 2 ^ b + 2 ^ c)) t = false ∧ t ≠ a ∧ t ≠ b ∧ t ≠ c ∧ 2 ^ a + 2 ^ b + 2 ^ c + 2 ^ t = 15) := by
  have k : b3P a b c t := b3p a ha b hb c hc t ht
  unfold b3P at k
  have k3 := ((k.resolve_left h1).resolve_left h2).resolve_left h3
  have k2 := k3.1
  have s2 := k3.2
  rw [k2]
  by_cases e1 : t = a
  · exact Or.inl ⟨by rw [decide_eq_true e1]; rfl, Or.inl e1⟩
  · by_cases e2 : t = b
    · exact Or.inl ⟨by rw [decide_eq_true e2, decide_eq_false e1]; rfl, Or.inr (Or.inl e2)⟩
    · by_cases e3 : t = c
      · exact Or.inl ⟨by rw [decide_eq_true e3, decide_eq_false e1, decide_eq_false e2]; rfl, Or.inr (Or.inr e3)⟩
      · exact Or.inr ⟨by rw [decide_eq_false e1, decide_eq_false e2, decide_eq_false e3]; rfl, e1, e2, e3, ((s2.resolve_left e1).resolve_left e2).resolve_left e3⟩
theorem bit2 (a : Nat) (ha : a < 4) (b : Nat) (hb : b < 4) (h1 : a ≠ b) (t : Nat) (ht : t < 4) : (bitF (nI (2 ^ a + 2 ^ b)) t = true ∧ (t = a ∨ t = b)) ∨ (bitF (nI (2 ^ a + 2 ^ b)) t = false ∧ t ≠ a ∧ t ≠ b) := by
  have k2 := (b2k a ha b hb t ht).resolve_left h1
  rw [k2]
  by_cases e1 : t = a
  · exact Or.inl ⟨by rw [decide_eq_true e1]; rfl, Or.inl e1⟩
  · by_cases e2 : t = b
    · exact Or.inl ⟨by rw [decide_eq_true e2, decide_eq_false e1]; rfl, Or.inr e2⟩
    · exact Or.inr ⟨by rw [decide_eq_false e1, decide_eq_false e2]; rfl, e1, e2⟩
theorem gM_of {μ : PM} {g : Int64} {d : Int32} {V : VW} {nm sk st : Nat → Int32} {sn : Int32} : si (sl (mm μ V nm sk st sn) 0 g) 0 40 d = mm (gM μ g d) V nm sk st sn := by
  show si (mm (sl μ 0 g) V nm sk st sn) 0 40 d = _
  rw [m_0 (by decide) (by decide) (by decide) (by decide) (by decide)]
  rfl
theorem bit1 : ∀ a, a < 4 → ∀ t, t < 4 → (bitF (nI (2 ^ a)) t = true ∧ t = a) ∨ (bitF (nI (2 ^ a)) t = false ∧ t ≠ a) := by decide +kernel
theorem bit15 : ∀ t, t < 4 → bitF (nI 15) t = true := by decide +kernel
theorem go_last {rt : Nat → Int32} {a t d : Nat} {m : Int64} {q : Int64 × Int32} (ha : a < 4) : goF rt a 1 t m d 15 q = cmpF (chF rt t a m) (nI d) q := by
  have h : ∀ a, a < 4 → goF rt a 1 t m d 15 q = cmpF (chF rt t a m) (nI d) q
    | 0, _ => rfl
    | 1, _ => rfl
    | 2, _ => rfl
    | 3, _ => rfl
  exact h a ha
theorem ch_aa {rt : Nat → Int32} {a : Nat} {m : Int64} : chF rt a a m = m := if_pos rfl
theorem cmp_0 {v : Int64} {q : Int64 × Int32} : cmpF v (nI 0) q = q := if_neg (fun h => absurd h.1 (by decide))
set_option maxHeartbeats 4000000 in
set_option maxRecDepth 100000 in
theorem T_X8_closes {l : Launch} {μ : PM} {V : VW} {nm sk st : Nat → Int32} {sn : Int32} {a fr dg : Nat} {mu g : Int64} {d : Int32} (ha : a < 4) (hf : fr < 4) (hd : 0 < dg) (hd2 : dg < 2 ^ 31) : CT l SM yX8_closes cX8_closes 8 none 2 [.ref 0, .int (nI a), .int (nI fr), .long mu, .int (nI dg)] (mm (gM μ g d) V nm sk st sn) (QV fun m => m = mm (gM μ (cmpF (chF (V 9) fr a mu) (nI dg) (g, d)).1 (cmpF (chF (V 9) fr a mu) (nI dg) (g, d)).2) V nm sk st sn) := by
  refine CT.of rfl (Nat.le_of_ble_eq_true rfl) ?_
  show PW l SM RX8 cX8_closes 8 none 2 _ 0 [(0, .ref 0), (1, .int (nI a)), (2, .int (nI fr)), (3, .long mu), (5, .int (nI dg))] [] (mm (gM μ g d) V nm sk st sn)
  have hd0 : (0 : Int32) < nI dg := nI_lt hd hd2
  refine pw_aload_n dX8_closes_0 rfl rfl ?_
  refine pw_iload_n dX8_closes_1 rfl rfl ?_
  refine pw_iload_n dX8_closes_2 rfl rfl ?_
  refine pw_lload_n dX8_closes_3 rfl rfl ?_
  refine pw_cVl dX8_closes_4 mv_X8_249 ckModel (T_X8_changes hf ha) rfl rfl (Nat.le_of_ble_eq_true rfl) (by decide) (fun x_4 m_4 h_4 => ?_)
  obtain ⟨rfl, rfl⟩ := h_4
  refine pw_lstore (ls2 := [(6, _), (0, _), (1, _), (2, _), (3, _), (5, _)]) dX8_closes_7 (by decide) rfl ?_
  refine pw_aload_n dX8_closes_9 rfl rfl ?_
  refine pw_lload dX8_closes_10 rfl ?_
  refine pw_aload_n dX8_closes_12 rfl rfl ?_
  refine pw_getL dX8_closes_13 fa_X8_255 rfl ?_
  refine pw_topl (y := g) rfl ?_
  refine pw_lcmp dX8_closes_16 ?_
  refine pw_if_le (tgt := 25) dX8_closes_17 (by decide) (fun c_17 => ?_) (fun c_17 => ?_)
  · skip
    have h17 : ¬ g < (chF (V 9) fr a mu) := lg_le.mp c_17
    have hcp : (cmpF (chF (V 9) fr a mu) (nI dg) (g, d)) = (g, d) := if_neg (fun h => h17 h.2)
    refine pw_aload_n dX8_closes_25 rfl rfl ?_
    refine pw_getI dX8_closes_26 fa_X8_259 rfl ?_
    refine pw_top (y := d) (by show (gM μ g d).1 0 40 = d; unfold gM; show (si μ 0 40 d).1 0 40 = d; rw [si_same, upd_s]) ?_
    refine pw_putI dX8_closes_29 fa_X8_259 rfl ?_
    refine pw_mem (m_0 (by decide) (by decide) (by decide) (by decide) (by decide)) ?_
    rw [gM_d]
    refine pw_aload_n dX8_closes_32 rfl rfl ?_
    refine pw_lload dX8_closes_33 rfl ?_
    refine pw_aload_n dX8_closes_35 rfl rfl ?_
    refine pw_getL dX8_closes_36 fa_X8_255 rfl ?_
    refine pw_topl (y := g) rfl ?_
    refine pw_lcmp dX8_closes_39 ?_
    refine pw_if_le (tgt := 48) dX8_closes_40 (by decide) (fun c_40 => ?_) (fun c_40 => ?_)
    · skip
      refine pw_aload_n dX8_closes_48 rfl rfl ?_
      refine pw_getL dX8_closes_49 fa_X8_255 rfl ?_
      refine pw_topl (y := g) rfl ?_
      refine pw_putL dX8_closes_52 fa_X8_255 rfl rfl ?_
      refine pw_mem gM_g ?_
      refine pw_vret dX8_closes_55 rfl ?_
      rw [hcp]
      all_goals rfl
    · skip
      exact absurd c_17 c_40
  · skip
    have h17 : g < (chF (V 9) fr a mu) := Classical.byContradiction (fun q => c_17 (lg_le.mpr q))
    have hcp : (cmpF (chF (V 9) fr a mu) (nI dg) (g, d)) = ((chF (V 9) fr a mu), nI dg) := if_pos ⟨hd0, h17⟩
    refine pw_iload dX8_closes_20 rfl ?_
    refine pw_goto (tgt := 29) dX8_closes_22 (by decide) ?_
    skip
    refine pw_putI dX8_closes_29 fa_X8_259 rfl ?_
    refine pw_mem (m_0 (by decide) (by decide) (by decide) (by decide) (by decide)) ?_
    rw [gM_d]
    refine pw_aload_n dX8_closes_32 rfl rfl ?_
    refine pw_lload dX8_closes_33 rfl ?_
    refine pw_aload_n dX8_closes_35 rfl rfl ?_
    refine pw_getL dX8_closes_36 fa_X8_255 rfl ?_
    refine pw_topl (y := g) rfl ?_
    refine pw_lcmp dX8_closes_39 ?_
    refine pw_if_le (tgt := 48) dX8_closes_40 (by decide) (fun c_40 => ?_) (fun c_40 => ?_)
    · skip
      exact absurd c_40 c_17
    · skip
      refine pw_lload dX8_closes_43 rfl ?_
      refine pw_goto (tgt := 52) dX8_closes_45 (by decide) ?_
      skip
      refine pw_putL dX8_closes_52 fa_X8_255 rfl rfl ?_
      refine pw_mem gM_g ?_
      refine pw_vret dX8_closes_55 rfl ?_
      rw [hcp]
      all_goals rfl

set_option maxHeartbeats 4000000 in
set_option maxRecDepth 100000 in
theorem T_X8_thirds {l : Launch} {μ : PM} {V : VW} {nm sk st : Nat → Int32} {sn : Int32} {a b c dg : Nat} {mu : Int64} {p : Int64 × Int32} (ha : a < 4) (hb : b < 4) (hc : c < 4) (hab : a ≠ b) (hac : a ≠ c) (hbc : b ≠ c) (hd : 0 < dg) (hd2 : dg ≤ 999) : CT l SM yX8_thirds cX8_thirds 8 none 3 [.ref 0, .int (nI a), .int (nI b), .int (nI c), .long mu, .int (nI dg)] (mm (gM μ p.1 p.2) V nm sk st sn) (QV fun m => m = mm (gM μ (goF (V 9) a 2 c mu dg (2 ^ a + 2 ^ b + 2 ^ c) p).1 (goF (V 9) a 2 c mu dg (2 ^ a + 2 ^ b + 2 ^ c) p).2) V nm sk st sn) := by
  refine CT.of rfl (Nat.le_of_ble_eq_true rfl) ?_
  show PW l SM RX8 cX8_thirds 8 none 3 _ 0 [(0, .ref 0), (1, .int (nI a)), (2, .int (nI b)), (3, .int (nI c)), (4, .long mu), (6, .int (nI dg))] [] (mm (gM μ p.1 p.2) V nm sk st sn)
  refine pw_iconst (v := 0) dX8_thirds_0 rfl ?_
  refine pw_istore (ls2 := [(7, _), (0, _), (1, _), (2, _), (3, _), (4, _), (6, _)]) dX8_thirds_1 (by decide) rfl ?_
  have L_3 : ∀ (fu_3 : Nat) (t : Nat) (q : Int64 × Int32), (t ≤ 4) → (goS (V 9) a (goF (V 9) a 1) c mu dg (2 ^ a + 2 ^ b + 2 ^ c) t (4 - t) q = goF (V 9) a 2 c mu dg (2 ^ a + 2 ^ b + 2 ^ c) p) → 4 - t < fu_3 → PW l SM RX8 cX8_thirds 8 none 3 (QV fun m => m = mm (gM μ (goF (V 9) a 2 c mu dg (2 ^ a + 2 ^ b + 2 ^ c) p).1 (goF (V 9) a 2 c mu dg (2 ^ a + 2 ^ b + 2 ^ c) p).2) V nm sk st sn) 3 [(0, .ref 0), (1, .int (nI a)), (2, .int (nI b)), (3, .int (nI c)), (4, .long mu), (6, .int (nI dg)), (7, .int (nI t))] [] (mm (gM μ q.1 q.2) V nm sk st sn) := by
    intro fu_3
    induction fu_3 with
    | zero =>
      intro t q hi hx hm_3
      exact absurd hm_3 (Nat.not_lt_zero _)
    | succ fu_3 ih_3 =>
      intro t q hi hx hm_3
      refine pw_iload dX8_thirds_3 rfl ?_
      refine pw_iconst (v := 4) dX8_thirds_5 rfl ?_
      refine pw_icmp_ge (tgt := 72) dX8_thirds_6 (by decide) (fun c_6 => ?_) (fun c_6 => ?_)
      · skip
        have hge := nI_geD (n := 4) (by decide) c_6
        refine pw_vret dX8_thirds_72 rfl ?_
        rw [show 4 - t = 0 by omega] at hx
        change q = _ at hx
        rw [hx]
        all_goals rfl
      · skip
        have hlt : t < 4 := nI_ltD (n := 4) (by omega) c_6
        have hx2 := hx
        rw [show 4 - t = (4 - (t + 1)) + 1 by omega] at hx2
        change goS (V 9) a (goF (V 9) a 1) c mu dg (2 ^ a + 2 ^ b + 2 ^ c) (t + 1) _ (if t = a then cmpF (chF (V 9) c t mu) (nI dg) q else if bitF (nI (2 ^ a + 2 ^ b + 2 ^ c)) t then q else goF (V 9) a 1 t (chF (V 9) c t mu) (dg * 10 + t + 1) (2 ^ a + 2 ^ b + 2 ^ c + 2 ^ t) q) = _ at hx2
        have hbit := bit3 a ha b hb c hc hab hac hbc t hlt
        refine pw_iload dX8_thirds_9 rfl ?_
        refine pw_iload_n dX8_thirds_11 rfl rfl ?_
        refine pw_icmp_ne (tgt := 28) dX8_thirds_12 (by decide) (fun c_12 => ?_) (fun c_12 => ?_)
        · skip
          have hta : ¬ t = a := fun e => c_12 (by rw [e])
          rw [if_neg hta] at hx2
          refine pw_iload dX8_thirds_28 rfl ?_
          refine pw_iload_n dX8_thirds_30 rfl rfl ?_
          refine pw_icmp_eq (tgt := 66) dX8_thirds_31 (by decide) (fun c_31 => ?_) (fun c_31 => ?_)
          · skip
            have htb : t = b := (nI_eq (by omega) (by omega)).mp c_31
            refine pw_iinc (ls2 := [(7, _), (0, _), (1, _), (2, _), (3, _), (4, _), (6, _)]) (v := nI (t + 1)) dX8_thirds_66 rfl (inc1 t) (by decide) rfl ?_
            refine pw_goto (tgt := 3) dX8_thirds_69 (by decide) ?_
            refine pw_sub [1, 2, 3, 4, 5, 6, 0] rfl ?_
            have hbt : bitF (nI (2 ^ a + 2 ^ b + 2 ^ c)) t = true := by
              rcases hbit with q1 | q1
              · exact q1.1
              · exact absurd htb q1.2.2.1
            rw [hbt, if_pos rfl] at hx2
            exact ih_3 (t + 1) q hlt hx2 (by omega)
          · skip
            have htb : ¬ t = b := fun e => c_31 (by rw [e])
            refine pw_iload dX8_thirds_34 rfl ?_
            refine pw_iload_n dX8_thirds_36 rfl rfl ?_
            refine pw_icmp_eq (tgt := 66) dX8_thirds_37 (by decide) (fun c_37 => ?_) (fun c_37 => ?_)
            · skip
              have htc : t = c := (nI_eq (by omega) (by omega)).mp c_37
              refine pw_iinc (ls2 := [(7, _), (0, _), (1, _), (2, _), (3, _), (4, _), (6, _)]) (v := nI (t + 1)) dX8_thirds_66 rfl (inc1 t) (by decide) rfl ?_
              refine pw_goto (tgt := 3) dX8_thirds_69 (by decide) ?_
              refine pw_sub [1, 2, 3, 4, 5, 6, 0] rfl ?_
              have hbt : bitF (nI (2 ^ a + 2 ^ b + 2 ^ c)) t = true := by
                rcases hbit with q1 | q1
                · exact q1.1
                · exact absurd htc q1.2.2.2.1
              rw [hbt, if_pos rfl] at hx2
              exact ih_3 (t + 1) q hlt hx2 (by omega)
            · skip
              have htc : ¬ t = c := fun e => c_37 (by rw [e])
              refine pw_aload_n dX8_thirds_40 rfl rfl ?_
              refine pw_iload_n dX8_thirds_41 rfl rfl ?_
              refine pw_iload dX8_thirds_42 rfl ?_
              refine pw_aload_n dX8_thirds_44 rfl rfl ?_
              refine pw_iload_n dX8_thirds_45 rfl rfl ?_
              refine pw_iload dX8_thirds_46 rfl ?_
              refine pw_lload dX8_thirds_48 rfl ?_
              refine pw_cVl dX8_thirds_50 mv_X8_249 ckModel (T_X8_changes hc hlt) rfl rfl (Nat.le_of_ble_eq_true rfl) (by decide) (fun x_50 m_50 h_50 => ?_)
              obtain ⟨rfl, rfl⟩ := h_50
              refine pw_bipush (v := 10) dX8_thirds_53 rfl ?_
              refine pw_iload dX8_thirds_55 rfl ?_
              refine pw_imul dX8_thirds_57 ?_
              refine pw_iload dX8_thirds_58 rfl ?_
              refine pw_iadd dX8_thirds_60 ?_
              refine pw_iconst (v := 1) dX8_thirds_61 rfl ?_
              refine pw_iadd dX8_thirds_62 ?_
              refine pw_top (y := nI (dg * 10 + t + 1)) (by show nI 10 * nI dg + nI t + nI 1 = _; rw [pk_mul, nI_add, nI_add, Nat.mul_comm 10 dg]) ?_
              refine pw_cVv dX8_thirds_63 mv_X8_262 ckModel (T_X8_closes (g := q.1) (d := q.2) ha hlt (by omega) (by omega)) rfl rfl (Nat.le_of_ble_eq_true rfl) (by decide) (fun m_63 h_63 => ?_)
              obtain rfl := h_63
              refine pw_iinc (ls2 := [(7, _), (0, _), (1, _), (2, _), (3, _), (4, _), (6, _)]) (v := nI (t + 1)) dX8_thirds_66 rfl (inc1 t) (by decide) rfl ?_
              refine pw_goto (tgt := 3) dX8_thirds_69 (by decide) ?_
              refine pw_sub [1, 2, 3, 4, 5, 6, 0] rfl ?_
              obtain ⟨hbt, -, -, -, h15⟩ : bitF (nI (2 ^ a + 2 ^ b + 2 ^ c)) t = false ∧ t ≠ a ∧ t ≠ b ∧ t ≠ c ∧ 2 ^ a + 2 ^ b + 2 ^ c + 2 ^ t = 15 := by
                rcases hbit with q1 | q1
                · rcases q1.2 with e | e | e
                  · exact absurd e hta
                  · exact absurd e htb
                  · exact absurd e htc
                · exact q1
              rw [hbt, if_neg Bool.false_ne_true, h15, go_last ha] at hx2
              exact ih_3 (t + 1) _ hlt hx2 (by omega)
        · skip
          have hta : t = a := (nI_eq (by omega) (by omega)).mp c_12
          rw [if_pos hta, hta] at hx2
          refine pw_aload_n dX8_thirds_15 rfl rfl ?_
          refine pw_iload_n dX8_thirds_16 rfl rfl ?_
          refine pw_iload_n dX8_thirds_17 rfl rfl ?_
          refine pw_lload dX8_thirds_18 rfl ?_
          refine pw_iload dX8_thirds_20 rfl ?_
          refine pw_cVv dX8_thirds_22 mv_X8_262 ckModel (T_X8_closes (g := q.1) (d := q.2) ha hc hd (by omega)) rfl rfl (Nat.le_of_ble_eq_true rfl) (by decide) (fun m_22 h_22 => ?_)
          obtain rfl := h_22
          refine pw_goto (tgt := 66) dX8_thirds_25 (by decide) ?_
          refine pw_iinc (ls2 := [(7, _), (0, _), (1, _), (2, _), (3, _), (4, _), (6, _)]) (v := nI (t + 1)) dX8_thirds_66 rfl (inc1 t) (by decide) rfl ?_
          refine pw_goto (tgt := 3) dX8_thirds_69 (by decide) ?_
          refine pw_sub [1, 2, 3, 4, 5, 6, 0] rfl ?_
          exact ih_3 (t + 1) _ hlt (by rw [hta]; exact hx2) (by omega)
  refine pw_sub [1, 2, 3, 4, 5, 6, 0] rfl ?_
  exact L_3 5 0 p (Nat.zero_le _) rfl (by omega)

set_option maxHeartbeats 4000000 in
set_option maxRecDepth 100000 in
theorem T_X8_seconds {l : Launch} {μ : PM} {V : VW} {nm sk st : Nat → Int32} {sn : Int32} {a b dg : Nat} {mu : Int64} {p : Int64 × Int32} (ha : a < 4) (hb : b < 4) (hab : a ≠ b) (hd : 0 < dg) (hd2 : dg ≤ 99) : CT l SM yX8_seconds cX8_seconds 7 none 4 [.ref 0, .int (nI a), .int (nI b), .long mu, .int (nI dg)] (mm (gM μ p.1 p.2) V nm sk st sn) (QV fun m => m = mm (gM μ (goF (V 9) a 3 b mu dg (2 ^ a + 2 ^ b) p).1 (goF (V 9) a 3 b mu dg (2 ^ a + 2 ^ b) p).2) V nm sk st sn) := by
  refine CT.of rfl (Nat.le_of_ble_eq_true rfl) ?_
  show PW l SM RX8 cX8_seconds 7 none 4 _ 0 [(0, .ref 0), (1, .int (nI a)), (2, .int (nI b)), (3, .long mu), (5, .int (nI dg))] [] (mm (gM μ p.1 p.2) V nm sk st sn)
  refine pw_iconst (v := 0) dX8_seconds_0 rfl ?_
  refine pw_istore (ls2 := [(6, _), (0, _), (1, _), (2, _), (3, _), (5, _)]) dX8_seconds_1 (by decide) rfl ?_
  have L_3 : ∀ (fu_3 : Nat) (t : Nat) (q : Int64 × Int32), (t ≤ 4) → (goS (V 9) a (goF (V 9) a 2) b mu dg (2 ^ a + 2 ^ b) t (4 - t) q = goF (V 9) a 3 b mu dg (2 ^ a + 2 ^ b) p) → 4 - t < fu_3 → PW l SM RX8 cX8_seconds 7 none 4 (QV fun m => m = mm (gM μ (goF (V 9) a 3 b mu dg (2 ^ a + 2 ^ b) p).1 (goF (V 9) a 3 b mu dg (2 ^ a + 2 ^ b) p).2) V nm sk st sn) 3 [(0, .ref 0), (1, .int (nI a)), (2, .int (nI b)), (3, .long mu), (5, .int (nI dg)), (6, .int (nI t))] [] (mm (gM μ q.1 q.2) V nm sk st sn) := by
    intro fu_3
    induction fu_3 with
    | zero =>
      intro t q hi hx hm_3
      exact absurd hm_3 (Nat.not_lt_zero _)
    | succ fu_3 ih_3 =>
      intro t q hi hx hm_3
      refine pw_iload dX8_seconds_3 rfl ?_
      refine pw_iconst (v := 4) dX8_seconds_5 rfl ?_
      refine pw_icmp_ge (tgt := 65) dX8_seconds_6 (by decide) (fun c_6 => ?_) (fun c_6 => ?_)
      · skip
        have hge := nI_geD (n := 4) (by decide) c_6
        refine pw_vret dX8_seconds_65 rfl ?_
        rw [show 4 - t = 0 by omega] at hx
        change q = _ at hx
        rw [hx]
        all_goals rfl
      · skip
        have hlt : t < 4 := nI_ltD (n := 4) (by omega) c_6
        have hx2 := hx
        rw [show 4 - t = (4 - (t + 1)) + 1 by omega] at hx2
        change goS (V 9) a (goF (V 9) a 2) b mu dg (2 ^ a + 2 ^ b) (t + 1) _ (if t = a then cmpF (chF (V 9) b t mu) (nI dg) q else if bitF (nI (2 ^ a + 2 ^ b)) t then q else goF (V 9) a 2 t (chF (V 9) b t mu) (dg * 10 + t + 1) (2 ^ a + 2 ^ b + 2 ^ t) q) = _ at hx2
        have hbit := bit2 a ha b hb hab t hlt
        refine pw_iload dX8_seconds_9 rfl ?_
        refine pw_iload_n dX8_seconds_11 rfl rfl ?_
        refine pw_icmp_ne (tgt := 27) dX8_seconds_12 (by decide) (fun c_12 => ?_) (fun c_12 => ?_)
        · skip
          have hta : ¬ t = a := fun e => c_12 (by rw [e])
          rw [if_neg hta] at hx2
          refine pw_iload dX8_seconds_27 rfl ?_
          refine pw_iload_n dX8_seconds_29 rfl rfl ?_
          refine pw_icmp_eq (tgt := 59) dX8_seconds_30 (by decide) (fun c_30 => ?_) (fun c_30 => ?_)
          · skip
            have htb : t = b := (nI_eq (by omega) (by omega)).mp c_30
            refine pw_iinc (ls2 := [(6, _), (0, _), (1, _), (2, _), (3, _), (5, _)]) (v := nI (t + 1)) dX8_seconds_59 rfl (inc1 t) (by decide) rfl ?_
            refine pw_goto (tgt := 3) dX8_seconds_62 (by decide) ?_
            refine pw_sub [1, 2, 3, 4, 5, 0] rfl ?_
            have hbt : bitF (nI (2 ^ a + 2 ^ b)) t = true := by
              rcases hbit with q1 | q1
              · exact q1.1
              · exact absurd htb q1.2.2
            rw [hbt, if_pos rfl] at hx2
            exact ih_3 (t + 1) q hlt hx2 (by omega)
          · skip
            have htb : ¬ t = b := fun e => c_30 (by rw [e])
            refine pw_aload_n dX8_seconds_33 rfl rfl ?_
            refine pw_iload_n dX8_seconds_34 rfl rfl ?_
            refine pw_iload_n dX8_seconds_35 rfl rfl ?_
            refine pw_iload dX8_seconds_36 rfl ?_
            refine pw_aload_n dX8_seconds_38 rfl rfl ?_
            refine pw_iload_n dX8_seconds_39 rfl rfl ?_
            refine pw_iload dX8_seconds_40 rfl ?_
            refine pw_lload_n dX8_seconds_42 rfl rfl ?_
            refine pw_cVl dX8_seconds_43 mv_X8_249 ckModel (T_X8_changes hb hlt) rfl rfl (Nat.le_of_ble_eq_true rfl) (by decide) (fun x_43 m_43 h_43 => ?_)
            obtain ⟨rfl, rfl⟩ := h_43
            refine pw_bipush (v := 10) dX8_seconds_46 rfl ?_
            refine pw_iload dX8_seconds_48 rfl ?_
            refine pw_imul dX8_seconds_50 ?_
            refine pw_iload dX8_seconds_51 rfl ?_
            refine pw_iadd dX8_seconds_53 ?_
            refine pw_iconst (v := 1) dX8_seconds_54 rfl ?_
            refine pw_iadd dX8_seconds_55 ?_
            refine pw_top (y := nI (dg * 10 + t + 1)) (by show nI 10 * nI dg + nI t + nI 1 = _; rw [pk_mul, nI_add, nI_add, Nat.mul_comm 10 dg]) ?_
            refine pw_cVv dX8_seconds_56 mv_X8_266 ckModel (T_X8_thirds (p := q) ha hb hlt hab (Ne.symm hta) (Ne.symm htb) (by omega) (by omega)) rfl rfl (Nat.le_of_ble_eq_true rfl) (by decide) (fun m_56 h_56 => ?_)
            obtain rfl := h_56
            refine pw_iinc (ls2 := [(6, _), (0, _), (1, _), (2, _), (3, _), (5, _)]) (v := nI (t + 1)) dX8_seconds_59 rfl (inc1 t) (by decide) rfl ?_
            refine pw_goto (tgt := 3) dX8_seconds_62 (by decide) ?_
            refine pw_sub [1, 2, 3, 4, 5, 0] rfl ?_
            have hbt : bitF (nI (2 ^ a + 2 ^ b)) t = false := by
              rcases hbit with q1 | q1
              · rcases q1.2 with e | e
                · exact absurd e hta
                · exact absurd e htb
              · exact q1.1
            rw [hbt, if_neg Bool.false_ne_true] at hx2
            exact ih_3 (t + 1) _ hlt hx2 (by omega)
        · skip
          have hta : t = a := (nI_eq (by omega) (by omega)).mp c_12
          rw [if_pos hta, hta] at hx2
          refine pw_aload_n dX8_seconds_15 rfl rfl ?_
          refine pw_iload_n dX8_seconds_16 rfl rfl ?_
          refine pw_iload_n dX8_seconds_17 rfl rfl ?_
          refine pw_lload_n dX8_seconds_18 rfl rfl ?_
          refine pw_iload dX8_seconds_19 rfl ?_
          refine pw_cVv dX8_seconds_21 mv_X8_262 ckModel (T_X8_closes (g := q.1) (d := q.2) ha hb hd (by omega)) rfl rfl (Nat.le_of_ble_eq_true rfl) (by decide) (fun m_21 h_21 => ?_)
          obtain rfl := h_21
          refine pw_goto (tgt := 59) dX8_seconds_24 (by decide) ?_
          refine pw_iinc (ls2 := [(6, _), (0, _), (1, _), (2, _), (3, _), (5, _)]) (v := nI (t + 1)) dX8_seconds_59 rfl (inc1 t) (by decide) rfl ?_
          refine pw_goto (tgt := 3) dX8_seconds_62 (by decide) ?_
          refine pw_sub [1, 2, 3, 4, 5, 0] rfl ?_
          exact ih_3 (t + 1) _ hlt (by rw [hta]; exact hx2) (by omega)
  refine pw_sub [1, 2, 3, 4, 5, 0] rfl ?_
  exact L_3 5 0 p (Nat.zero_le _) rfl (by omega)

set_option maxHeartbeats 4000000 in
set_option maxRecDepth 100000 in
theorem T_X8_gain {l : Launch} {μ : PM} {V : VW} {nm sk st : Nat → Int32} {sn : Int32} {a mu wh : Int32} : CT l SM yX8_gain cX8_gain 5 (some .long) 5 [.ref 0, .int a, .int mu, .int wh] (mm μ V nm sk st sn) (QL fun x m => x = gainF V a mu wh ∧ ∃ g d, m = mm (gM μ g d) V nm sk st sn) := by
  refine CT.of rfl (Nat.le_of_ble_eq_true rfl) ?_
  show PW l SM RX8 cX8_gain 5 (some .long) 5 _ 0 [(0, .ref 0), (1, .int a), (2, .int mu), (3, .int wh)] [] (mm μ V nm sk st sn)
  refine pw_iload_n dX8_gain_0 rfl rfl ?_
  refine pw_cSi dX8_gain_1 ms_X8_244 T_X8_isTown rfl rfl (Nat.le_of_ble_eq_true rfl) (by decide) (fun x_1 m_1 h_1 => ?_)
  obtain ⟨rfl, rfl⟩ := h_1
  refine pw_if_eq (tgt := 27) dX8_gain_4 (by decide) (fun c_4 => ?_) (fun c_4 => ?_)
  · skip
    have hb_4 := b2_0 c_4
    refine pw_ldc2 dX8_gain_27 k_X8_253 ?_
    refine pw_lret dX8_gain_30 rfl ?_
    exact ⟨by unfold gainF; rw [hb_4]; rfl, _, _, by rw [gM_self]⟩
  · skip
    have hb_4 := b2_n c_4
    refine pw_iload_n dX8_gain_7 rfl rfl ?_
    refine pw_iconst (v := 0) dX8_gain_8 rfl ?_
    refine pw_sipush (v := 9999) dX8_gain_9 rfl ?_
    refine pw_cSi dX8_gain_12 ms_X8_78 T_X8_in rfl rfl (Nat.le_of_ble_eq_true rfl) (by decide) (fun x_12 m_12 h_12 => ?_)
    obtain ⟨rfl, rfl⟩ := h_12
    refine pw_if_eq (tgt := 27) dX8_gain_15 (by decide) (fun c_15 => ?_) (fun c_15 => ?_)
    · skip
      have hb_15 := b2_0 c_15
      refine pw_ldc2 dX8_gain_27 k_X8_253 ?_
      refine pw_lret dX8_gain_30 rfl ?_
      exact ⟨by unfold gainF; rw [hb_4, hb_15]; rfl, _, _, by rw [gM_self]⟩
    · skip
      have hb_15 := b2_n c_15
      refine pw_iload_n dX8_gain_18 rfl rfl ?_
      refine pw_iconst (v := 0) dX8_gain_19 rfl ?_
      refine pw_iconst (v := 1) dX8_gain_20 rfl ?_
      refine pw_cSi dX8_gain_21 ms_X8_78 T_X8_in rfl rfl (Nat.le_of_ble_eq_true rfl) (by decide) (fun x_21 m_21 h_21 => ?_)
      obtain ⟨rfl, rfl⟩ := h_21
      refine pw_if_ne (tgt := 31) dX8_gain_24 (by decide) (fun c_24 => ?_) (fun c_24 => ?_)
      · skip
        have hb_24 := b2_n c_24
        obtain ⟨a, ha3, rfl⟩ := in_trueL (n := 3) hb_4 (by decide)
        have ha : a < 4 := by omega
        refine pw_aload_n dX8_gain_31 rfl rfl ?_
        refine pw_iload_n dX8_gain_32 rfl rfl ?_
        refine pw_i2l dX8_gain_33 ?_
        refine pw_putL dX8_gain_34 fa_X8_255 rfl rfl ?_
        skip
        refine pw_aload_n dX8_gain_37 rfl rfl ?_
        refine pw_iconst (v := 0) dX8_gain_38 rfl ?_
        refine pw_putI dX8_gain_39 fa_X8_259 rfl ?_
        refine pw_mem gM_of ?_
        refine pw_iconst (v := 0) dX8_gain_42 rfl ?_
        refine pw_istore (ls2 := [(4, _), (0, _), (1, _), (2, _), (3, _)]) dX8_gain_43 (by decide) rfl ?_
        have L_45 : ∀ (fu_45 : Nat) (t : Nat) (q : Int64 × Int32), (t ≤ 4) → (goS (V 9) a (goF (V 9) a 3) a mu.toInt64 0 (2 ^ a) t (4 - t) q = goF (V 9) a 4 a mu.toInt64 0 (2 ^ a) (mu.toInt64, 0)) → 4 - t < fu_45 → PW l SM RX8 cX8_gain 5 (some .long) 5 (QL fun x m => x = gainF V (nI a) mu wh ∧ ∃ g d, m = mm (gM μ g d) V nm sk st sn) 45 [(0, .ref 0), (1, .int (nI a)), (2, .int mu), (3, .int wh), (4, .int (nI t))] [] (mm (gM μ q.1 q.2) V nm sk st sn) := by
          intro fu_45
          induction fu_45 with
          | zero =>
            intro t q hi hx hm_45
            exact absurd hm_45 (Nat.not_lt_zero _)
          | succ fu_45 ih_45 =>
            intro t q hi hx hm_45
            refine pw_iload dX8_gain_45 rfl ?_
            refine pw_iconst (v := 4) dX8_gain_47 rfl ?_
            refine pw_icmp_ge (tgt := 83) dX8_gain_48 (by decide) (fun c_48 => ?_) (fun c_48 => ?_)
            · skip
              have hge := nI_geD (n := 4) (by decide) c_48
              refine pw_iload_n dX8_gain_83 rfl rfl ?_
              refine pw_if_ne (tgt := 95) dX8_gain_84 (by decide) (fun c_84 => ?_) (fun c_84 => ?_)
              · skip
                refine pw_aload_n dX8_gain_95 rfl rfl ?_
                refine pw_getL dX8_gain_96 fa_X8_255 rfl ?_
                refine pw_topl (y := q.1) rfl ?_
                refine pw_lret dX8_gain_99 rfl ?_
                rw [show 4 - t = 0 by omega] at hx
                change q = _ at hx
                exact ⟨by unfold gainF; rw [show inF (nI a) 0 3 = true from hb_4, hb_15, hb_24, if_pos (by rfl), cl_nI (show a < 2 ^ 31 by omega), ← hx, if_neg c_84], _, _, rfl⟩
              · skip
                refine pw_aload_n dX8_gain_87 rfl rfl ?_
                refine pw_getI dX8_gain_88 fa_X8_259 rfl ?_
                refine pw_top (y := q.2) (by show (gM μ q.1 q.2).1 0 40 = q.2; unfold gM; show (si μ 0 40 q.2).1 0 40 = q.2; rw [si_same, upd_s]) ?_
                refine pw_i2l dX8_gain_91 ?_
                refine pw_goto (tgt := 99) dX8_gain_92 (by decide) ?_
                skip
                refine pw_lret dX8_gain_99 rfl ?_
                rw [show 4 - t = 0 by omega] at hx
                change q = _ at hx
                exact ⟨by unfold gainF; rw [show inF (nI a) 0 3 = true from hb_4, hb_15, hb_24, if_pos (by rfl), cl_nI (show a < 2 ^ 31 by omega), ← hx, if_pos c_84], _, _, rfl⟩
            · skip
              have hlt : t < 4 := nI_ltD (n := 4) (by omega) c_48
              have hx2 := hx
              rw [show 4 - t = (4 - (t + 1)) + 1 by omega] at hx2
              change goS (V 9) a (goF (V 9) a 3) a mu.toInt64 0 (2 ^ a) (t + 1) _ (if t = a then cmpF (chF (V 9) a t mu.toInt64) (nI 0) q else if bitF (nI (2 ^ a)) t then q else goF (V 9) a 3 t (chF (V 9) a t mu.toInt64) (0 * 10 + t + 1) (2 ^ a + 2 ^ t) q) = _ at hx2
              rw [cmp_0, Nat.zero_mul, Nat.zero_add] at hx2
              have hbit := bit1 a ha t hlt
              refine pw_iload dX8_gain_51 rfl ?_
              refine pw_iload_n dX8_gain_53 rfl rfl ?_
              refine pw_icmp_eq (tgt := 77) dX8_gain_54 (by decide) (fun c_54 => ?_) (fun c_54 => ?_)
              · skip
                have hta : t = a := (nI_eq (by omega) (by omega)).mp c_54
                rw [if_pos hta] at hx2
                refine pw_iinc (ls2 := [(4, _), (0, _), (1, _), (2, _), (3, _)]) (v := nI (t + 1)) dX8_gain_77 rfl (inc1 t) (by decide) rfl ?_
                refine pw_goto (tgt := 45) dX8_gain_80 (by decide) ?_
                refine pw_sub [1, 2, 3, 4, 0] rfl ?_
                exact ih_45 (t + 1) q hlt hx2 (by omega)
              · skip
                have hta : ¬ t = a := fun e => c_54 (by rw [e])
                rw [if_neg hta] at hx2
                refine pw_aload_n dX8_gain_57 rfl rfl ?_
                refine pw_iload_n dX8_gain_58 rfl rfl ?_
                refine pw_iload dX8_gain_59 rfl ?_
                refine pw_aload_n dX8_gain_61 rfl rfl ?_
                refine pw_iload_n dX8_gain_62 rfl rfl ?_
                refine pw_iload dX8_gain_63 rfl ?_
                refine pw_iload_n dX8_gain_65 rfl rfl ?_
                refine pw_i2l dX8_gain_66 ?_
                refine pw_cVl dX8_gain_67 mv_X8_249 ckModel (T_X8_changes ha hlt) rfl rfl (Nat.le_of_ble_eq_true rfl) (by decide) (fun x_67 m_67 h_67 => ?_)
                obtain ⟨rfl, rfl⟩ := h_67
                refine pw_iload dX8_gain_70 rfl ?_
                refine pw_iconst (v := 1) dX8_gain_72 rfl ?_
                refine pw_iadd dX8_gain_73 ?_
                refine pw_top (y := nI (t + 1)) (nI_1 t) ?_
                refine pw_cVv dX8_gain_74 mv_X8_270 ckModel (T_X8_seconds (p := q) ha hlt (Ne.symm hta) (by omega) (by omega)) rfl rfl (Nat.le_of_ble_eq_true rfl) (by decide) (fun m_74 h_74 => ?_)
                obtain rfl := h_74
                refine pw_iinc (ls2 := [(4, _), (0, _), (1, _), (2, _), (3, _)]) (v := nI (t + 1)) dX8_gain_77 rfl (inc1 t) (by decide) rfl ?_
                refine pw_goto (tgt := 45) dX8_gain_80 (by decide) ?_
                refine pw_sub [1, 2, 3, 4, 0] rfl ?_
                have hbt : bitF (nI (2 ^ a)) t = false := by
                  rcases hbit with q1 | q1
                  · exact absurd q1.2 hta
                  · exact q1.1
                rw [hbt, if_neg Bool.false_ne_true] at hx2
                exact ih_45 (t + 1) _ hlt hx2 (by omega)
        refine pw_sub [1, 2, 3, 4, 0] rfl ?_
        exact L_45 5 0 (mu.toInt64, 0) (Nat.zero_le _) rfl (by omega)
      · skip
        have hb_24 := b2_0 c_24
        refine pw_ldc2 dX8_gain_27 k_X8_253 ?_
        refine pw_lret dX8_gain_30 rfl ?_
        exact ⟨by unfold gainF; rw [hb_4, hb_15, hb_24]; rfl, _, _, by rw [gM_self]⟩

