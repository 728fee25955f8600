def sM (μ : PM) (lv be : Int32) (r br ws : Nat → Int32) : PM := (fun c => if c = 13 then upd (upd (μ.1 13) 1 lv) 2 be else if c = 14 then r else if c = 15 then br else if c = 16 then ws else μ.1 c, μ.2)
theorem sM_be {μ : PM} {lv be v : Int32} {r br ws : Nat → Int32} : si (sM μ lv be r br ws) 13 2 v = sM μ lv v r br ws := by
  refine PM_ext (fun x => ?_) rfl
  by_cases e : x = 13
  · subst e
    show upd (upd (upd (μ.1 13) 1 lv) 2 be) 2 v = upd (upd (μ.1 13) 1 lv) 2 v
    funext j
    by_cases h : j = 2
    · subst h; rw [upd_s, upd_s]
    · rw [upd_o _ _ h, upd_o _ _ h, upd_o _ _ h]
  · rw [si_other _ _ _ _ e]
    show (if x = 13 then _ else _) = if x = 13 then _ else _
    rw [if_neg e, if_neg e]
theorem sM_r {μ : PM} {lv be : Int32} {r br ws : Nat → Int32} {j : Nat} {v : Int32} : si (sM μ lv be r br ws) 14 j v = sM μ lv be (upd r j v) br ws := by
  refine PM_ext (fun x => ?_) rfl
  by_cases e : x = 14
  · subst e; rfl
  · rw [si_other _ _ _ _ e]
    show (if x = 13 then _ else if x = 14 then r else _) = if x = 13 then _ else if x = 14 then _ else _
    rw [if_neg e, if_neg e]
theorem sM_br {μ : PM} {lv be : Int32} {r br ws : Nat → Int32} {j : Nat} {v : Int32} : si (sM μ lv be r br ws) 15 j v = sM μ lv be r (upd br j v) ws := by
  refine PM_ext (fun x => ?_) rfl
  by_cases e : x = 15
  · subst e; rfl
  · rw [si_other _ _ _ _ e]
    show (if x = 13 then _ else if x = 14 then r else if x = 15 then br else _) = if x = 13 then _ else if x = 14 then _ else if x = 15 then _ else _
    rw [if_neg e, if_neg e]
theorem sM_ws {μ : PM} {lv be : Int32} {r br ws : Nat → Int32} {j : Nat} {v : Int32} : si (sM μ lv be r br ws) 16 j v = sM μ lv be r br (upd ws j v) := by
  refine PM_ext (fun x => ?_) rfl
  by_cases e : x = 16
  · subst e; rfl
  · rw [si_other _ _ _ _ e]
    show (if x = 13 then _ else if x = 14 then r else if x = 15 then br else if x = 16 then ws else μ.1 x) = if x = 13 then _ else if x = 14 then _ else if x = 15 then _ else if x = 16 then _ else μ.1 x
    rw [if_neg e, if_neg e]
theorem sM_wsr {μ : PM} {lv be : Int32} {r br ws f : Nat → Int32} : sr (sM μ lv be r br ws) 16 f = sM μ lv be r br f := by
  refine PM_ext (fun x => ?_) rfl
  by_cases e : x = 16
  · subst e; rfl
  · rw [sr_other _ _ _ e]
    show (if x = 13 then _ else if x = 14 then r else if x = 15 then br else if x = 16 then ws else μ.1 x) = if x = 13 then _ else if x = 14 then _ else if x = 15 then _ else if x = 16 then _ else μ.1 x
    rw [if_neg e, if_neg e]
theorem sM_of {μ : PM} {lv be : Int32} : si (si μ 13 1 lv) 13 2 be = sM μ lv be (μ.1 14) (μ.1 15) (μ.1 16) := by
  refine PM_ext (fun x => ?_) rfl
  by_cases e : x = 13
  · subst e; rfl
  · rw [si_other _ _ _ _ e, si_other _ _ _ _ e]
    show μ.1 x = if x = 13 then _ else if x = 14 then _ else if x = 15 then _ else if x = 16 then _ else μ.1 x
    rw [if_neg e]
    by_cases e1 : x = 14
    · rw [if_pos e1, e1]
    · rw [if_neg e1]
      by_cases e2 : x = 15
      · rw [if_pos e2, e2]
      · rw [if_neg e2]
        by_cases e3 : x = 16
        · rw [if_pos e3, e3]
        · rw [if_neg e3]
theorem okC_sM {μ : PM} {lv be : Int32} {r br ws : Nat → Int32} {V : VW} (h : okC μ V) : okC (sM μ lv be r br ws) V := h
theorem bk_sM {μ : PM} {lv be : Int32} {r br ws : Nat → Int32} : bk (sM μ lv be r br ws) = bk μ := rfl
theorem i32 : isW 32 := Or.inr (Or.inl rfl)
theorem i22 : isW 22 := Or.inl rfl
theorem i42 : isW 42 := Or.inr (Or.inr rfl)
def fillS (f : Nat → Int32) (a st : Nat) (g : Nat → Int32) : Nat → Nat → Int32
  | 0 => f
  | i + 1 => upd (fillS f a st g i) (a + st * i) (g i)
theorem fillS_out {f g : Nat → Int32} {a st x : Nat} : ∀ {n : Nat}, (∀ i, i < n → x ≠ a + st * i) → fillS f a st g n x = f x
  | 0, _ => rfl
  | n + 1, h => by
    show upd (fillS f a st g n) (a + st * n) (g n) x = f x
    rw [upd_o _ _ (h n (Nat.lt_succ_self n)), fillS_out (fun i hi => h i (by omega))]
theorem fillS_in {f g : Nat → Int32} {a st i : Nat} (hs : 0 < st) : ∀ {n : Nat}, i < n → fillS f a st g n (a + st * i) = g i
  | 0, h => absurd h (Nat.not_lt_zero i)
  | n + 1, h => by
    show upd (fillS f a st g n) (a + st * n) (g n) (a + st * i) = g i
    by_cases e : i = n
    · subst e; rw [upd_s]
    · have hne : a + st * i ≠ a + st * n := fun q => e (Nat.eq_of_mul_eq_mul_left hs (by omega))
      rw [upd_o _ _ hne, fillS_in hs (by omega)]
abbrev AC : Type := Int32 × List Nat
def dsS (B : BK) (nh : Nat) (rec0 : VW → List Nat → Int32 → AC → AC) (T : VW) (p : List Nat) (sum : Int32) : Nat → Nat → AC → AC
  | _, 0, a => a
  | c, m + 1, a => dsS B nh rec0 T p sum (c + 1) m (rec0 (tellV B T (c / nh) (c % nh)) (p ++ [cdF nh c]) (sum + yAt B T nh c) a)
def dsc (B : BK) (nj nh : Nat) : Nat → VW → List Nat → Int32 → AC → AC
  | 0, _, p, sum, a => if a.1 < sum then (sum, p) else a
  | rem + 1, T, p, sum, a => dsS B nh (dsc B nj nh rem) T p sum 0 (nj * nh) a
def relA (be : Int32) (br : Nat → Int32) (q : AC) : Prop := be = q.1 ∧ ∀ k c, q.2[k]? = some c → br k = nI c
def relP (r : Nat → Int32) (p : List Nat) : Prop := ∀ k c, p[k]? = some c → r k = nI c
def wsOK (B : BK) (T : VW) (nj nh lv : Nat) (ws : Nat → Int32) : Prop := ∀ j h, j < nj → h < nh → ws (30 * lv + 6 * j + h) = yF B T j h
theorem relP_push {r : Nat → Int32} {p : List Nat} {c : Nat} (h : relP r p) : relP (upd r p.length (nI c)) (p ++ [c]) := by
  intro k d hk
  by_cases e : k < p.length
  · rw [List.getElem?_append_left e] at hk
    rw [upd_o _ _ (by omega)]
    exact h k d hk
  · have e2 : k = p.length := by
      have := (List.getElem?_eq_some_iff.mp hk).1
      simp only [List.length_append, List.length_cons, List.length_nil] at this
      omega
    subst e2
    rw [List.getElem?_append_right (Nat.le_refl _), Nat.sub_self] at hk
    cases hk
    rw [upd_s]
theorem relP_keep {r r' : Nat → Int32} {p : List Nat} (h : relP r p) (hk : ∀ k, k < p.length → r' k = r k) : relP r' p := by
  intro k d hd
  rw [hk k (List.getElem?_eq_some_iff.mp hd).1]
  exact h k d hd
theorem relA_cmp {be : Int32} {br r : Nat → Int32} {q : AC} {p : List Nat} {sum : Int32} (h : relA be br q) (hp : relP r p) (hl : p.length ≤ 3) :
    relA (if be < sum then sum else be) (if be < sum then cpR r br 3 else br) (if q.1 < sum then (sum, p) else q) := by
  obtain ⟨rfl, h2⟩ := h
  by_cases e : q.1 < sum
  · rw [if_pos e, if_pos e, if_pos e]
    refine ⟨rfl, fun k c hk => ?_⟩
    have hl2 := (List.getElem?_eq_some_iff.mp hk).1
    show (if k < 3 then r k else br k) = nI c
    rw [if_pos (Nat.lt_of_lt_of_le hl2 hl)]
    exact hp k c hk
  · rw [if_neg e, if_neg e, if_neg e]
    exact ⟨rfl, h2⟩
theorem laugh_back (T : VW) (j h : Nat) (y : Int32) : vu (vu (vu (laughV T j h y) 3 j (T 3 j)) 5 h (T 5 h)) 7 h (T 7 h) = T := by
  have uu : ∀ (f : Nat → Int32) (i : Nat) (v : Int32), upd (upd f i v) i (f i) = f := by
    intro f i v
    funext x
    by_cases e : x = i
    · subst e; rw [upd_s]
    · rw [upd_o _ _ e, upd_o _ _ e]
  exact VW_ext rfl rfl rfl (uu (T 3) j _) rfl (uu (T 5) h _) rfl (uu (T 7) h _) rfl rfl (fun _ => rfl)
theorem shl_bit : ∀ j, j < 5 → ∀ j2, j2 < 5 → j2 ≠ j → (((1 : Int32) <<< (nI j &&& 31)) >>> (nI j2 &&& 31)) &&& 1 = 0 := by decide +kernel
/-- a telling changes nothing of another joke's yield to another hearer -/
theorem yF_tell {B : BK} {T : VW} {j h j2 h2 : Nat} (y : Int32) (hj : j2 ≠ j) (hh : h2 ≠ h) : yF B (laughV T j h y) j2 h2 = yF B T j2 h2 := by
  have e3 : (laughV T j h y) 3 j2 = T 3 j2 := upd_o _ _ hj
  have e5 : (laughV T j h y) 5 h2 = T 5 h2 := upd_o _ _ hh
  have e7 : (laughV T j h y) 7 h2 = T 7 h2 := upd_o _ _ hh
  have e1 : (laughV T j h y) 1 = T 1 := rfl
  have e2 : (laughV T j h y) 2 = T 2 := rfl
  have e4 : (laughV T j h y) 4 = T 4 := rfl
  have e0 : (laughV T j h y) 0 = T 0 := rfl
  unfold yF saysF nmF
  rw [e0, e1, e2, e3, e4, e5, e7]
theorem min3 {n : Nat} (h : n ≤ 3) : (if (3 : Int32) < nI n then 3 else nI n) = nI n := if_neg (fun e => absurd (show nI 3 < nI n from e) (nI_nlt (by omega) (by decide)))
theorem CT_up {l : Launch} {Ω : SH} {y : MethodName} {cc : ByteArray} {maxL : Nat} {ret : Option FieldType} {k k2 : Nat} {as : List Value} {μ : PM} {Q : Option Value → PM → Prop} (hk : k = k2) (h : CT l Ω y cc maxL ret k as μ Q) : CT l Ω y cc maxL ret k2 as μ Q := hk ▸ h

set_option maxHeartbeats 4000000 in
set_option maxRecDepth 100000 in
theorem T_X4_place {l : Launch} {Ω : SH} {lv j h : Nat} {μ : PM} : CT l Ω yX4_place cX4_place 3 (some .int) 1 [.int (nI lv), .int (nI j), .int (nI h)] μ (QI fun x m => x = nI (30 * lv + 6 * j + h) ∧ m = μ) := by
  refine CT.of rfl (Nat.le_of_ble_eq_true rfl) ?_
  show PW l Ω RX4 cX4_place 3 (some .int) 1 _ 0 [(0, .int (nI lv)), (1, .int (nI j)), (2, .int (nI h))] [] μ
  refine pw_iload_n dX4_place_0 rfl rfl ?_
  refine pw_bipush (v := 30) dX4_place_1 rfl ?_
  refine pw_imul dX4_place_3 ?_
  refine pw_iload_n dX4_place_4 rfl rfl ?_
  refine pw_bipush (v := 6) dX4_place_5 rfl ?_
  refine pw_imul dX4_place_7 ?_
  refine pw_iadd dX4_place_8 ?_
  refine pw_iload_n dX4_place_9 rfl rfl ?_
  refine pw_iadd dX4_place_10 ?_
  refine pw_iret dX4_place_11 rfl ?_
  exact ⟨by show nI lv * nI 30 + nI j * nI 6 + nI h = _; rw [pk_mul, pk_mul, nI_add, nI_add, Nat.mul_comm lv, Nat.mul_comm j], rfl⟩

set_option maxHeartbeats 4000000 in
set_option maxRecDepth 100000 in
theorem T_X4_compare {l : Launch} {μ : PM} {T : VW} {nm sk r br ws : Nat → Int32} {lv be : Int32} {sum : Int32} : CT l SC yX4_compare cX4_compare 3 none 1 [.ref 13, .int sum] (sc (wr (sM μ lv be r br ws) 32 T) nm sk) (QV fun m => m = (sc (wr (sM μ lv (if be < sum then sum else be) r (if be < sum then cpR r br 3 else br) ws) 32 T) nm sk)) := by
  refine CT.of rfl (Nat.le_of_ble_eq_true rfl) ?_
  show PW l SC RX4 cX4_compare 3 none 1 _ 0 [(0, .ref 13), (1, .int sum)] [] (sc (wr (sM μ lv be r br ws) 32 T) nm sk)
  refine pw_iload_n dX4_compare_0 rfl rfl ?_
  refine pw_aload_n dX4_compare_1 rfl rfl ?_
  refine pw_getI dX4_compare_2 fa_X4_15 rfl ?_
  refine pw_top (y := be) rfl ?_
  refine pw_icmp_le (tgt := 38) dX4_compare_5 (by decide) (fun c_5 => ?_) (fun c_5 => ?_)
  · skip
    have e1 := Int32.not_lt.mpr c_5
    refine pw_vret dX4_compare_38 rfl ?_
    rw [if_neg e1, if_neg e1]
  · skip
    have e1 := Int32.not_le.mp c_5
    refine pw_aload_n dX4_compare_8 rfl rfl ?_
    refine pw_iload_n dX4_compare_9 rfl rfl ?_
    refine pw_putI dX4_compare_10 fa_X4_15 rfl ?_
    refine pw_mem (by rw [si_sc (by decide) (by decide), si_wrO (by decide), sM_be]) ?_
    refine pw_iconst (v := 0) dX4_compare_13 rfl ?_
    refine pw_istore_n (ls2 := [(2, _), (0, _), (1, _)]) dX4_compare_14 rfl (by decide) rfl ?_
    have L_15 : ∀ (fu_15 : Nat) (i : Nat), (i ≤ 3) → 3 - i < fu_15 → PW l SC RX4 cX4_compare 3 none 1 (QV fun m => m = (sc (wr (sM μ lv (if be < sum then sum else be) r (if be < sum then cpR r br 3 else br) ws) 32 T) nm sk)) 15 [(0, .ref 13), (2, .int (nI i))] [] (sc (wr (sM μ lv sum r (cpR r br i) ws) 32 T) nm sk) := by
      intro fu_15
      induction fu_15 with
      | zero =>
        intro i hi hm_15
        exact absurd hm_15 (Nat.not_lt_zero _)
      | succ fu_15 ih_15 =>
        intro i hi hm_15
        refine pw_iload_n dX4_compare_15 rfl rfl ?_
        refine pw_iconst (v := 3) dX4_compare_16 rfl ?_
        refine pw_icmp_ge (tgt := 38) dX4_compare_17 (by decide) (fun c_17 => ?_) (fun c_17 => ?_)
        · skip
          have hge := nI_geD (n := 3) (by decide) c_17
          refine pw_vret dX4_compare_38 rfl ?_
          have e : i = 3 := by omega
          subst e
          rw [if_pos e1, if_pos e1]
        · skip
          have hlt := nI_ltD (n := 3) (by omega) c_17
          refine pw_aload_n dX4_compare_20 rfl rfl ?_
          refine pw_getR dX4_compare_21 fa_X4_22 rfl ?_
          refine pw_iload_n dX4_compare_24 rfl rfl ?_
          refine pw_aload_n dX4_compare_25 rfl rfl ?_
          refine pw_getR dX4_compare_26 fa_X4_18 rfl ?_
          refine pw_iload_n dX4_compare_29 rfl rfl ?_
          refine pw_iald (j := i) dX4_compare_30 rfl rfl (by omega) ?_
          refine pw_top (y := r i) rfl ?_
          refine pw_iast (j := i) dX4_compare_31 rfl rfl (by omega) ?_
          refine pw_mem (by rw [si_sc (by decide) (by decide), si_wrO (by decide), sM_br, cpR_s]) ?_
          refine pw_iinc (ls2 := [(2, _), (0, _)]) (v := nI (i + 1)) dX4_compare_32 rfl (inc1 i) (by decide) rfl ?_
          refine pw_goto (tgt := 15) dX4_compare_35 (by decide) ?_
          refine pw_sub [1, 0] rfl ?_
          exact ih_15 (i + 1) hlt (by omega)
    refine pw_sub [1, 0] rfl ?_
    refine pw_mem (μ' := (sc (wr (sM μ lv sum r (cpR r br 0) ws) 32 T) nm sk)) (by rw [cpR_0]) ?_
    exact L_15 4 0 (Nat.zero_le _) (by omega)

set_option maxHeartbeats 4000000 in
set_option maxRecDepth 100000 in
theorem T_X4_bestAt {l : Launch} {μ : PM} {T : VW} {nm sk r br ws : Nat → Int32} {lv be : Int32} {k0 : Nat} (hk : k0 < 3) : CT l SC yX4_bestAt cX4_bestAt 2 (some .int) 2 [.ref 13, .int (nI k0)] (sc (wr (sM μ lv be r br ws) 32 T) nm sk) (QI fun x m => x = br k0 ∧ m = (sc (wr (sM μ lv be r br ws) 32 T) nm sk)) := by
  refine CT.of rfl (Nat.le_of_ble_eq_true rfl) ?_
  show PW l SC RX4 cX4_bestAt 2 (some .int) 2 _ 0 [(0, .ref 13), (1, .int (nI k0))] [] (sc (wr (sM μ lv be r br ws) 32 T) nm sk)
  refine pw_iload_n dX4_bestAt_0 rfl rfl ?_
  refine pw_iconst (v := 0) dX4_bestAt_1 rfl ?_
  refine pw_iconst (v := 2) dX4_bestAt_2 rfl ?_
  refine pw_cSi dX4_bestAt_3 ms_X4_57 T_X7_within rfl rfl (Nat.le_of_ble_eq_true rfl) (by decide) (fun x_3 m_3 h_3 => ?_)
  obtain ⟨rfl, rfl⟩ := h_3
  rw [show inF (nI k0) 0 2 = true from in_le (n := 2) (by omega) (by decide)]
  refine pw_if_eq (tgt := 18) dX4_bestAt_6 (by decide) (fun c_6 => ?_) (fun c_6 => ?_)
  · skip
    exact absurd c_6 (by decide)
  · skip
    refine pw_aload_n dX4_bestAt_9 rfl rfl ?_
    refine pw_getR dX4_bestAt_10 fa_X4_22 rfl ?_
    refine pw_iload_n dX4_bestAt_13 rfl rfl ?_
    refine pw_iald (j := k0) dX4_bestAt_14 rfl rfl hk ?_
    refine pw_goto (tgt := 19) dX4_bestAt_15 (by decide) ?_
    refine pw_iret dX4_bestAt_19 rfl ?_
    exact ⟨rfl, rfl⟩

set_option maxHeartbeats 4000000 in
set_option maxRecDepth 100000 in
theorem T_X4_refresh {l : Launch} {μ : PM} {T : VW} {nm sk r br ws : Nat → Int32} {lv be : Int32} {nj nh L j h : Nat} (hc : okC μ T) (h1 : T 0 1 = nI nj) (h5 : T 0 5 = nI nh) (hj5 : nj ≤ 5) (hh6 : nh ≤ 6) (hL : 1 ≤ L) (hL3 : L < 3) (hj : j < nj) (hh : h < nh) : CT l SC yX4_refresh cX4_refresh 5 none 6 [.ref 13, .int (nI L), .int (nI j), .int (nI h)] (sc (wr (sM μ lv be r br ws) 32 T) nm sk) (QV fun m => ∃ nm2 sk2, m = (sc (wr (sM μ lv be r br (fillS (fillS (va_cpy ws ws (30 * (L - 1)) (30 * L) 30) (30 * L + 6 * j) 1 (fun o => yF (bk μ) T j o) nh) (30 * L + h) 6 (fun o => yF (bk μ) T o h) nj)) 32 T) nm2 sk2)) := by
  refine CT.of rfl (Nat.le_of_ble_eq_true rfl) ?_
  show PW l SC RX4 cX4_refresh 5 none 6 _ 0 [(0, .ref 13), (1, .int (nI L)), (2, .int (nI j)), (3, .int (nI h))] [] (sc (wr (sM μ lv be r br ws) 32 T) nm sk)
  refine pw_aload_n dX4_refresh_0 rfl rfl ?_
  refine pw_getR dX4_refresh_1 fa_X4_25 rfl ?_
  refine pw_iload_n dX4_refresh_4 rfl rfl ?_
  refine pw_iconst (v := 1) dX4_refresh_5 rfl ?_
  refine pw_isub dX4_refresh_6 ?_
  refine pw_iconst (v := 0) dX4_refresh_7 rfl ?_
  refine pw_iconst (v := 0) dX4_refresh_8 rfl ?_
  refine pw_eq (st' := [.int (nI 0), .int (nI 0), .int (nI (L - 1)), .ref 16]) rfl rfl (by rw [show nI (L - 1) = nI L - 1 from by obtain ⟨q, rfl⟩ : ∃ q, L = q + 1 := ⟨L - 1, by omega⟩; exact nI_sub1.symm]; rfl) rfl ?_
  refine pw_cSi dX4_refresh_9 ms_X4_46 T_X4_place rfl rfl (Nat.le_of_ble_eq_true rfl) (by decide) (fun x_9 m_9 h_9 => ?_)
  obtain ⟨rfl, rfl⟩ := h_9
  refine pw_aload_n dX4_refresh_12 rfl rfl ?_
  refine pw_getR dX4_refresh_13 fa_X4_25 rfl ?_
  refine pw_iload_n dX4_refresh_16 rfl rfl ?_
  refine pw_iconst (v := 0) dX4_refresh_17 rfl ?_
  refine pw_iconst (v := 0) dX4_refresh_18 rfl ?_
  refine pw_eq (st' := [.int (nI 0), .int (nI 0), .int (nI L), .ref 16, .int (nI (30 * (L - 1))), .ref 16]) rfl rfl rfl rfl ?_
  refine pw_cSi dX4_refresh_19 ms_X4_46 T_X4_place rfl rfl (Nat.le_of_ble_eq_true rfl) (by decide) (fun x_19 m_19 h_19 => ?_)
  obtain ⟨rfl, rfl⟩ := h_19
  refine pw_bipush (v := 30) dX4_refresh_22 rfl ?_
  refine pw_copy dX4_refresh_24 lnk_X4_81 (by decide) (Nat.le_of_ble_eq_true rfl) rfl rfl (a := 30 * (L - 1)) (b := 30 * L) (z := 30) rfl rfl rfl (by omega) (by omega) ?_
  refine pw_mem (by rw [sr_sc (by decide) (by decide), sr_wrO (by decide), sM_wsr]) ?_
  refine pw_iconst (v := 0) dX4_refresh_27 rfl ?_
  refine pw_istore (ls2 := [(4, _), (0, _), (1, _), (2, _), (3, _)]) dX4_refresh_28 (by decide) rfl ?_
  have L_30 : ∀ (fu_30 : Nat) (i : Nat) (nm sk : Nat → Int32), (i ≤ nh) → nh - i < fu_30 → PW l SC RX4 cX4_refresh 5 none 6 (QV fun m => ∃ nm2 sk2, m = (sc (wr (sM μ lv be r br (fillS (fillS (va_cpy ws ws (30 * (L - 1)) (30 * L) 30) (30 * L + 6 * j) 1 (fun o => yF (bk μ) T j o) nh) (30 * L + h) 6 (fun o => yF (bk μ) T o h) nj)) 32 T) nm2 sk2)) 30 [(0, .ref 13), (1, .int (nI L)), (2, .int (nI j)), (3, .int (nI h)), (4, .int (nI i))] [] (sc (wr (sM μ lv be r br (fillS (va_cpy ws ws (30 * (L - 1)) (30 * L) 30) (30 * L + 6 * j) 1 (fun o => yF (bk μ) T j o) i)) 32 T) nm sk) := by
    intro fu_30
    induction fu_30 with
    | zero =>
      intro i nm sk hi hm_30
      exact absurd hm_30 (Nat.not_lt_zero _)
    | succ fu_30 ih_30 =>
      intro i nm sk hi hm_30
      refine pw_iload dX4_refresh_30 rfl ?_
      refine pw_aload_n dX4_refresh_32 rfl rfl ?_
      refine pw_getR dX4_refresh_33 fa_X4_28 rfl ?_
      refine pw_getI dX4_refresh_36 fa_X4_43 rfl ?_
      refine pw_top (y := nI nh) h5 ?_
      refine pw_icmp_ge (tgt := 70) dX4_refresh_39 (by decide) (fun c_39 => ?_) (fun c_39 => ?_)
      · skip
        have hge := nI_geD (by omega) c_39
        refine pw_iconst (v := 0) dX4_refresh_70 rfl ?_
        refine pw_istore (ls2 := [(4, _), (0, _), (1, _), (2, _), (3, _)]) dX4_refresh_71 (by decide) rfl ?_
        have L_73 : ∀ (fu_73 : Nat) (o : Nat) (nm sk : Nat → Int32), (o ≤ nj) → nj - o < fu_73 → PW l SC RX4 cX4_refresh 5 none 6 (QV fun m => ∃ nm2 sk2, m = (sc (wr (sM μ lv be r br (fillS (fillS (va_cpy ws ws (30 * (L - 1)) (30 * L) 30) (30 * L + 6 * j) 1 (fun o => yF (bk μ) T j o) nh) (30 * L + h) 6 (fun o => yF (bk μ) T o h) nj)) 32 T) nm2 sk2)) 73 [(0, .ref 13), (1, .int (nI L)), (3, .int (nI h)), (4, .int (nI o))] [] (sc (wr (sM μ lv be r br (fillS (fillS (va_cpy ws ws (30 * (L - 1)) (30 * L) 30) (30 * L + 6 * j) 1 (fun o => yF (bk μ) T j o) nh) (30 * L + h) 6 (fun o => yF (bk μ) T o h) o)) 32 T) nm sk) := by
          intro fu_73
          induction fu_73 with
          | zero =>
            intro o nm sk ho hm_73
            exact absurd hm_73 (Nat.not_lt_zero _)
          | succ fu_73 ih_73 =>
            intro o nm sk ho hm_73
            refine pw_iload dX4_refresh_73 rfl ?_
            refine pw_aload_n dX4_refresh_75 rfl rfl ?_
            refine pw_getR dX4_refresh_76 fa_X4_28 rfl ?_
            refine pw_getI dX4_refresh_79 fa_X4_38 rfl ?_
            refine pw_top (y := nI nj) h1 ?_
            refine pw_icmp_ge (tgt := 113) dX4_refresh_82 (by decide) (fun c_82 => ?_) (fun c_82 => ?_)
            · skip
              have hgj := nI_geD (by omega) c_82
              refine pw_vret dX4_refresh_113 rfl ?_
              have e : o = nj := by omega
              subst e
              exact ⟨_, _, rfl⟩
            · skip
              have hlj := nI_ltD (by omega) c_82
              refine pw_aload_n dX4_refresh_85 rfl rfl ?_
              refine pw_getR dX4_refresh_86 fa_X4_25 rfl ?_
              refine pw_iload_n dX4_refresh_89 rfl rfl ?_
              refine pw_iload dX4_refresh_90 rfl ?_
              refine pw_iload_n dX4_refresh_92 rfl rfl ?_
              refine pw_cSi dX4_refresh_93 ms_X4_46 T_X4_place rfl rfl (Nat.le_of_ble_eq_true rfl) (by decide) (fun x_93 m_93 h_93 => ?_)
              obtain ⟨rfl, rfl⟩ := h_93
              refine pw_aload_n dX4_refresh_96 rfl rfl ?_
              refine pw_getR dX4_refresh_97 fa_X4_28 rfl ?_
              refine pw_iload dX4_refresh_100 rfl ?_
              refine pw_iload_n dX4_refresh_102 rfl rfl ?_
              refine pw_cVi dX4_refresh_103 mv_X4_50 ckThought (T_X6_worth (μ := sM μ lv be r br _) (w := 32) i32 (okC_sM hc) (by omega) (by omega)) rfl rfl (Nat.le_of_ble_eq_true rfl) (by decide) (fun x_103 m_103 h_103 => ?_)
              obtain ⟨rfl, nm3, sk3, rfl⟩ := h_103
              refine pw_iast (j := 30 * L + h + 6 * o) dX4_refresh_106 rfl (congrArg nI (by omega)) (by omega) ?_
              refine pw_mem (by rw [si_sc (by decide) (by decide), si_wrO (by decide), sM_ws]) ?_
              refine pw_iinc (ls2 := [(4, _), (0, _), (1, _), (3, _)]) (v := nI (o + 1)) dX4_refresh_107 rfl (inc1 o) (by decide) rfl ?_
              refine pw_goto (tgt := 73) dX4_refresh_110 (by decide) ?_
              refine pw_sub [1, 2, 3, 0] rfl ?_
              exact ih_73 (o + 1) nm3 sk3 hlj (by omega)
        refine pw_sub [1, 2, 4, 0] rfl ?_
        have e : i = nh := by omega
        subst e
        exact L_73 (nj + 1) 0 nm sk (Nat.zero_le _) (by omega)
      · skip
        have hlt := nI_ltD (by omega) c_39
        refine pw_aload_n dX4_refresh_42 rfl rfl ?_
        refine pw_getR dX4_refresh_43 fa_X4_25 rfl ?_
        refine pw_iload_n dX4_refresh_46 rfl rfl ?_
        refine pw_iload_n dX4_refresh_47 rfl rfl ?_
        refine pw_iload dX4_refresh_48 rfl ?_
        refine pw_cSi dX4_refresh_50 ms_X4_46 T_X4_place rfl rfl (Nat.le_of_ble_eq_true rfl) (by decide) (fun x_50 m_50 h_50 => ?_)
        obtain ⟨rfl, rfl⟩ := h_50
        refine pw_aload_n dX4_refresh_53 rfl rfl ?_
        refine pw_getR dX4_refresh_54 fa_X4_28 rfl ?_
        refine pw_iload_n dX4_refresh_57 rfl rfl ?_
        refine pw_iload dX4_refresh_58 rfl ?_
        refine pw_cVi dX4_refresh_60 mv_X4_50 ckThought (T_X6_worth (μ := sM μ lv be r br _) (w := 32) i32 (okC_sM hc) (by omega) (by omega)) rfl rfl (Nat.le_of_ble_eq_true rfl) (by decide) (fun x_60 m_60 h_60 => ?_)
        obtain ⟨rfl, nm1, sk1, rfl⟩ := h_60
        refine pw_iast (j := 30 * L + 6 * j + i) dX4_refresh_63 rfl rfl (by omega) ?_
        refine pw_mem (by rw [si_sc (by decide) (by decide), si_wrO (by decide), sM_ws]) ?_
        refine pw_iinc (ls2 := [(4, _), (0, _), (1, _), (2, _), (3, _)]) (v := nI (i + 1)) dX4_refresh_64 rfl (inc1 i) (by decide) rfl ?_
        refine pw_goto (tgt := 30) dX4_refresh_67 (by decide) ?_
        refine pw_sub [1, 2, 3, 4, 0] rfl ?_
        refine pw_mem (by rw [show 30 * L + 6 * j + i = 30 * L + 6 * j + 1 * i by omega]; rfl) (ih_30 (i + 1) nm1 sk1 hlt (by omega))
  refine pw_sub [1, 2, 3, 4, 0] rfl ?_
  exact L_30 (nh + 1) 0 nm sk (Nat.zero_le _) (by omega)

