def ush (x : Int32) (y : Int32) : Int32 := (x.toUInt32 >>> (y.toUInt32 &&& Int32.toUInt32 31)).toInt32
def bcF (x0 : Int32) : Int32 :=
  let x1 := x0 - (ush x0 1 &&& 1431655765)
  let x2 := (x1 &&& 858993459) + (ush x1 2 &&& 858993459)
  let x3 := (x2 + ush x2 4) &&& 252645135
  let x4 := x3 + ush x3 8
  let x5 := x4 + ush x4 16
  x5 &&& 63
/-- the bits of the first n places -/
def cntF (x : Int32) : Nat → Nat
  | 0 => 0
  | n + 1 => cntF x n + (if bitF x n then 1 else 0)
theorem bcF_small : ∀ x, x < 64 → bcF (nI x) = nI (cntF (nI x) 6) := by decide +kernel
/-- going on, catching -/
def minuteF (fr : Nat → Int32) (ca : Nat → Int32) (laughing there : Int32) : Nat → Int32
  | 0 => laughing
  | h + 1 => if bitF there h && decide (ca h ≤ bcF ((fr h &&& there) &&& laughing)) then minuteF fr ca laughing there h ||| ((1 : Int32) <<< (nI h &&& 31)) else minuteF fr ca laughing there h
def atLastF (fr ca : Nat → Int32) (n : Nat) (first there : Int32) : Nat → Int32
  | 0 => first
  | k + 1 => minuteF fr ca (atLastF fr ca n first there k) there n
/-- told on by one: the hearers from o on that are left -/
def toldOnF (fh : Int32) : Nat → Nat → Int32 → Int32 → Int32
  | _, 0, have0, _ => have0
  | o, m + 1, have0, left => if 0 < left then (if bitF (fh &&& (have0 ^^^ (-1))) o then toldOnF fh (o + 1) m (have0 ||| ((1 : Int32) <<< (nI o &&& 31))) (left + Int32.ofInt (-1)) else toldOnF fh (o + 1) m have0 left) else have0
def dayF (fr : Nat → Int32) (n : Nat) (on had : Int32) : Nat → Int32 → Int32
  | 0, have0 => have0
  | h + 1, have0 => let q := dayF fr n on had h have0; if bitF had h then toldOnF (fr h) 0 n q on else q
def daysF (fr : Nat → Int32) (n : Nat) (on first : Int32) : Nat → Int32
  | 0 => first
  | k + 1 => let q := daysF fr n on first k; dayF fr n on q n q
set_option maxHeartbeats 4000000 in
set_option maxRecDepth 100000 in
theorem T_J6_bitCount_0f7a4 {l : Launch} {Ω : SH} {x : Int32} {μ : PM} : CT l Ω yJ6_bitCount_0f7a4 cJ6_bitCount_0f7a4 1 (some .int) 1 [.int x] μ (QI fun y m => y = bcF x ∧ m = μ) := by
  refine CT.of rfl (Nat.le_of_ble_eq_true rfl) ?_
  show PW l Ω RJ6 cJ6_bitCount_0f7a4 1 (some .int) 1 _ 0 [(0, .int x)] [] μ
  refine pw_iload_n dJ6_bitCount_0f7a4_0 rfl rfl ?_
  refine pw_iload_n dJ6_bitCount_0f7a4_1 rfl rfl ?_
  refine pw_iconst (v := 1) dJ6_bitCount_0f7a4_2 rfl ?_
  refine pw_iushr dJ6_bitCount_0f7a4_3 ?_
  refine pw_ldcw dJ6_bitCount_0f7a4_4 k_J6_265 ?_
  refine pw_iand dJ6_bitCount_0f7a4_7 ?_
  refine pw_isub dJ6_bitCount_0f7a4_8 ?_
  refine pw_istore_n (ls2 := [(0, _)]) dJ6_bitCount_0f7a4_9 rfl (by decide) rfl ?_
  refine pw_iload_n dJ6_bitCount_0f7a4_10 rfl rfl ?_
  refine pw_ldcw dJ6_bitCount_0f7a4_11 k_J6_266 ?_
  refine pw_iand dJ6_bitCount_0f7a4_14 ?_
  refine pw_iload_n dJ6_bitCount_0f7a4_15 rfl rfl ?_
  refine pw_iconst (v := 2) dJ6_bitCount_0f7a4_16 rfl ?_
  refine pw_iushr dJ6_bitCount_0f7a4_17 ?_
  refine pw_ldcw dJ6_bitCount_0f7a4_18 k_J6_266 ?_
  refine pw_iand dJ6_bitCount_0f7a4_21 ?_
  refine pw_iadd dJ6_bitCount_0f7a4_22 ?_
  refine pw_istore_n (ls2 := [(0, _)]) dJ6_bitCount_0f7a4_23 rfl (by decide) rfl ?_
  refine pw_iload_n dJ6_bitCount_0f7a4_24 rfl rfl ?_
  refine pw_iload_n dJ6_bitCount_0f7a4_25 rfl rfl ?_
  refine pw_iconst (v := 4) dJ6_bitCount_0f7a4_26 rfl ?_
  refine pw_iushr dJ6_bitCount_0f7a4_27 ?_
  refine pw_iadd dJ6_bitCount_0f7a4_28 ?_
  refine pw_ldcw dJ6_bitCount_0f7a4_29 k_J6_267 ?_
  refine pw_iand dJ6_bitCount_0f7a4_32 ?_
  refine pw_istore_n (ls2 := [(0, _)]) dJ6_bitCount_0f7a4_33 rfl (by decide) rfl ?_
  refine pw_iload_n dJ6_bitCount_0f7a4_34 rfl rfl ?_
  refine pw_iload_n dJ6_bitCount_0f7a4_35 rfl rfl ?_
  refine pw_bipush (v := 8) dJ6_bitCount_0f7a4_36 rfl ?_
  refine pw_iushr dJ6_bitCount_0f7a4_38 ?_
  refine pw_iadd dJ6_bitCount_0f7a4_39 ?_
  refine pw_istore_n (ls2 := [(0, _)]) dJ6_bitCount_0f7a4_40 rfl (by decide) rfl ?_
  refine pw_iload_n dJ6_bitCount_0f7a4_41 rfl rfl ?_
  refine pw_iload_n dJ6_bitCount_0f7a4_42 rfl rfl ?_
  refine pw_bipush (v := 16) dJ6_bitCount_0f7a4_43 rfl ?_
  refine pw_iushr dJ6_bitCount_0f7a4_45 ?_
  refine pw_iadd dJ6_bitCount_0f7a4_46 ?_
  refine pw_istore_n (ls2 := [(0, _)]) dJ6_bitCount_0f7a4_47 rfl (by decide) rfl ?_
  refine pw_iload_n dJ6_bitCount_0f7a4_48 rfl rfl ?_
  refine pw_bipush (v := 63) dJ6_bitCount_0f7a4_49 rfl ?_
  refine pw_iand dJ6_bitCount_0f7a4_51 ?_
  refine pw_iret dJ6_bitCount_0f7a4_52 rfl ?_
  exact ⟨rfl, rfl⟩

set_option maxHeartbeats 4000000 in
set_option maxRecDepth 100000 in
theorem T_X6_minute {l : Launch} {μ : PM} {w : Nat} {V : VW} {nm sk : Nat → Int32} {n : Nat} {la th : Int32} (hw : isW w) (hn : V 0 5 = nI n) (hn6 : n ≤ 6) : CT l SC yX6_minute cX6_minute 6 (some .int) 2 [.ref w, .int la, .int th] (sc (wr μ w V) nm sk) (QI fun x m => x = minuteF (V 6) (V 8) la th n ∧ m = sc (wr μ w V) nm sk) := by
  refine CT.of rfl (Nat.le_of_ble_eq_true rfl) ?_
  show PW l SC RX6 cX6_minute 6 (some .int) 2 _ 0 [(0, .ref w), (1, .int la), (2, .int th)] [] (sc (wr μ w V) nm sk)
  refine pw_iload_n dX6_minute_0 rfl rfl ?_
  refine pw_istore_n (ls2 := [(3, _), (0, _), (1, _), (2, _)]) dX6_minute_1 rfl (by decide) rfl ?_
  refine pw_iconst (v := 0) dX6_minute_2 rfl ?_
  refine pw_istore (ls2 := [(4, _), (3, _), (0, _), (1, _), (2, _)]) dX6_minute_3 (by decide) rfl ?_
  have L_5 : ∀ (fu_5 : Nat) (i : Nat) (x : Int32), (i ≤ n) → (x = minuteF (V 6) (V 8) la th i) → n - i < fu_5 → PW l SC RX6 cX6_minute 6 (some .int) 2 (QI fun x m => x = minuteF (V 6) (V 8) la th n ∧ m = sc (wr μ w V) nm sk) 5 [(0, .ref w), (1, .int la), (2, .int th), (3, .int x), (4, .int (nI i))] [] (sc (wr μ w V) nm sk) := by
    intro fu_5
    induction fu_5 with
    | zero =>
      intro i x hi hx hm_5
      exact absurd hm_5 (Nat.not_lt_zero _)
    | succ fu_5 ih_5 =>
      intro i x hi hx hm_5
      refine pw_iload dX6_minute_5 rfl ?_
      refine pw_aload_n dX6_minute_7 rfl rfl ?_
      refine pw_getI dX6_minute_8 fa_X6_25 (gkW hw rfl) ?_
      refine pw_top (y := nI n) (by rw [rdw0 hw]; exact hn) ?_
      refine pw_icmp_ge (tgt := 64) dX6_minute_11 (by decide) (fun c_11 => ?_) (fun c_11 => ?_)
      · skip
        have hge : n ≤ i := by
          rcases Nat.lt_or_ge i n with h | h
          · exact absurd c_11 (nI_ge h (by omega))
          · exact h
        refine pw_iload_n dX6_minute_64 rfl rfl ?_
        refine pw_iret dX6_minute_65 rfl ?_
        exact ⟨by rw [hx, show i = n by omega], rfl⟩
      · skip
        have hlt : i < n := by
          rcases Nat.lt_or_ge i n with h | h
          · exact h
          · exact absurd (nI_le h (by omega)) c_11
        refine pw_aload_n dX6_minute_14 rfl rfl ?_
        refine pw_getR dX6_minute_15 fa_X6_34 (gkW hw rfl) ?_
        refine pw_iload dX6_minute_18 rfl ?_
        refine pw_iald (j := i) dX6_minute_20 (akW hw rfl) rfl (by omega) ?_
        refine pw_top (y := V 6 i) (by rw [rdw hw (by decide)] <;> rfl) ?_
        refine pw_iload_n dX6_minute_21 rfl rfl ?_
        refine pw_iand dX6_minute_22 ?_
        refine pw_iload_n dX6_minute_23 rfl rfl ?_
        refine pw_iand dX6_minute_24 ?_
        refine pw_cSi dX6_minute_25 ms_X6_105 T_J6_bitCount_0f7a4 rfl rfl (Nat.le_of_ble_eq_true rfl) (by decide) (fun x_25 m_25 h_25 => ?_)
        obtain ⟨rfl, rfl⟩ := h_25
        refine pw_istore (ls2 := [(5, _), (0, _), (1, _), (2, _), (3, _), (4, _)]) dX6_minute_28 (by decide) rfl ?_
        refine pw_iload_n dX6_minute_30 rfl rfl ?_
        refine pw_iload dX6_minute_31 rfl ?_
        refine pw_cSi dX6_minute_33 ms_X6_80 T_X7_hasBit rfl rfl (Nat.le_of_ble_eq_true rfl) (by decide) (fun x_33 m_33 h_33 => ?_)
        obtain ⟨rfl, rfl⟩ := h_33
        refine pw_if_eq (tgt := 58) dX6_minute_36 (by decide) (fun c_36 => ?_) (fun c_36 => ?_)
        · skip
          have hb := b2_0 c_36
          refine pw_iinc (ls2 := [(4, _), (5, _), (0, _), (1, _), (2, _), (3, _)]) (v := nI (i + 1)) dX6_minute_58 rfl (inc1 i) (by decide) rfl ?_
          refine pw_goto (tgt := 5) dX6_minute_61 (by decide) ?_
          refine pw_sub [2, 3, 4, 5, 0] rfl ?_
          exact ih_5 (i + 1) x hlt (by rw [hx]; show _ = if _ then _ else _; rw [hb]; rfl) (by omega)
        · skip
          have hb := b2_n c_36
          refine pw_iload dX6_minute_39 rfl ?_
          refine pw_aload_n dX6_minute_41 rfl rfl ?_
          refine pw_getR dX6_minute_42 fa_X6_40 (gkW hw rfl) ?_
          refine pw_iload dX6_minute_45 rfl ?_
          refine pw_iald (j := i) dX6_minute_47 (akW hw rfl) rfl (by omega) ?_
          refine pw_top (y := V 8 i) (by rw [rdw hw (by decide)] <;> rfl) ?_
          refine pw_icmp_lt (tgt := 58) dX6_minute_48 (by decide) (fun c_48 => ?_) (fun c_48 => ?_)
          · skip
            refine pw_iinc (ls2 := [(4, _), (5, _), (0, _), (1, _), (2, _), (3, _)]) (v := nI (i + 1)) dX6_minute_58 rfl (inc1 i) (by decide) rfl ?_
            refine pw_goto (tgt := 5) dX6_minute_61 (by decide) ?_
            refine pw_sub [2, 3, 4, 5, 0] rfl ?_
            exact ih_5 (i + 1) x hlt (by rw [hx]; show _ = if _ then _ else _; rw [hb, decide_eq_false (fun q => absurd c_48 (Int32.not_lt.mpr q))]; rfl) (by omega)
          · skip
            refine pw_iload_n dX6_minute_51 rfl rfl ?_
            refine pw_iconst (v := 1) dX6_minute_52 rfl ?_
            refine pw_iload dX6_minute_53 rfl ?_
            refine pw_ishl dX6_minute_55 ?_
            refine pw_ior dX6_minute_56 ?_
            refine pw_istore_n (ls2 := [(3, _), (5, _), (0, _), (1, _), (2, _), (4, _)]) dX6_minute_57 rfl (by decide) rfl ?_
            refine pw_iinc (ls2 := [(4, _), (3, _), (5, _), (0, _), (1, _), (2, _)]) (v := nI (i + 1)) dX6_minute_58 rfl (inc1 i) (by decide) rfl ?_
            refine pw_goto (tgt := 5) dX6_minute_61 (by decide) ?_
            refine pw_sub [3, 4, 5, 1, 0] rfl ?_
            exact ih_5 (i + 1) _ hlt (by rw [hx]; show _ = if _ then _ else _; rw [hb, decide_eq_true (Int32.not_lt.mp c_48)]; rfl) (by omega)
  refine pw_sub [2, 3, 4, 1, 0] rfl ?_
  exact L_5 (n + 1) 0 la (Nat.zero_le _) rfl (by omega)

set_option maxHeartbeats 4000000 in
set_option maxRecDepth 100000 in
theorem T_X6_atLast {l : Launch} {μ : PM} {w : Nat} {V : VW} {nm sk : Nat → Int32} {n : Nat} {fi th : Int32} (hw : isW w) (hn : V 0 5 = nI n) (hn6 : n ≤ 6) : CT l SC yX6_atLast cX6_atLast 5 (some .int) 3 [.ref w, .int fi, .int th] (sc (wr μ w V) nm sk) (QI fun x m => x = atLastF (V 6) (V 8) n fi th 6 ∧ m = sc (wr μ w V) nm sk) := by
  refine CT.of rfl (Nat.le_of_ble_eq_true rfl) ?_
  show PW l SC RX6 cX6_atLast 5 (some .int) 3 _ 0 [(0, .ref w), (1, .int fi), (2, .int th)] [] (sc (wr μ w V) nm sk)
  refine pw_iload_n dX6_atLast_0 rfl rfl ?_
  refine pw_istore_n (ls2 := [(3, _), (0, _), (1, _), (2, _)]) dX6_atLast_1 rfl (by decide) rfl ?_
  refine pw_iconst (v := 0) dX6_atLast_2 rfl ?_
  refine pw_istore (ls2 := [(4, _), (3, _), (0, _), (1, _), (2, _)]) dX6_atLast_3 (by decide) rfl ?_
  have L_5 : ∀ (fu_5 : Nat) (i : Nat) (x : Int32), (i ≤ 6) → (x = atLastF (V 6) (V 8) n fi th i) → 6 - i < fu_5 → PW l SC RX6 cX6_atLast 5 (some .int) 3 (QI fun x m => x = atLastF (V 6) (V 8) n fi th 6 ∧ m = sc (wr μ w V) nm sk) 5 [(0, .ref w), (2, .int th), (3, .int x), (4, .int (nI i))] [] (sc (wr μ w V) nm sk) := by
    intro fu_5
    induction fu_5 with
    | zero =>
      intro i x hi hx hm_5
      exact absurd hm_5 (Nat.not_lt_zero _)
    | succ fu_5 ih_5 =>
      intro i x hi hx hm_5
      refine pw_iload dX6_atLast_5 rfl ?_
      refine pw_bipush (v := 6) dX6_atLast_7 rfl ?_
      refine pw_icmp_ge (tgt := 25) dX6_atLast_9 (by decide) (fun c_9 => ?_) (fun c_9 => ?_)
      · skip
        have hge : 6 ≤ i := by
          rcases Nat.lt_or_ge i 6 with h | h
          · exact absurd c_9 (nI_ge h (by decide))
          · exact h
        refine pw_iload_n dX6_atLast_25 rfl rfl ?_
        refine pw_iret dX6_atLast_26 rfl ?_
        exact ⟨by rw [hx, show i = 6 by omega], rfl⟩
      · skip
        have hlt : i < 6 := by
          rcases Nat.lt_or_ge i 6 with h | h
          · exact h
          · exact absurd (nI_le h (by omega)) c_9
        refine pw_aload_n dX6_atLast_12 rfl rfl ?_
        refine pw_iload_n dX6_atLast_13 rfl rfl ?_
        refine pw_iload_n dX6_atLast_14 rfl rfl ?_
        refine pw_cVi dX6_atLast_15 mv_X6_110 (ckW hw) (T_X6_minute hw hn hn6) rfl rfl (Nat.le_of_ble_eq_true rfl) (by decide) (fun x_15 m_15 h_15 => ?_)
        obtain ⟨rfl, rfl⟩ := h_15
        refine pw_istore_n (ls2 := [(3, _), (0, _), (2, _), (4, _)]) dX6_atLast_18 rfl (by decide) rfl ?_
        refine pw_iinc (ls2 := [(4, _), (3, _), (0, _), (2, _)]) (v := nI (i + 1)) dX6_atLast_19 rfl (inc1 i) (by decide) rfl ?_
        refine pw_goto (tgt := 5) dX6_atLast_22 (by decide) ?_
        refine pw_sub [2, 3, 1, 0] rfl ?_
        exact ih_5 (i + 1) _ hlt (by rw [hx]; rfl) (by omega)
  refine pw_sub [2, 4, 1, 0] rfl ?_
  exact L_5 7 0 fi (Nat.zero_le _) rfl (by omega)

