def letB (c : Int32) : Bool := inF c 97 122
def digB (c : Int32) : Bool := inF c 48 57
def scanF (p : Int32 → Bool) (f : Nat → Int32) : Nat → Nat → Nat
  | 0, a => a
  | m + 1, a => if p (f a) then scanF p f m (a + 1) else a
def endF (f : Nat → Int32) (n a : Nat) : Nat := if letB (f a) then scanF letB f (n - (a + 1)) (a + 1) else if digB (f a) then scanF digB f (n - (a + 1)) (a + 1) else a + 1
def sameG (f : Nat → Int32) (st a : Nat) : Nat → Nat → Bool
  | 0, _ => true
  | m + 1, i => if sch 2 (st + i) = f (a + i) then sameG f st a m (i + 1) else false
def wordG (f : Nat → Int32) (a b : Nat) : Nat → Nat → Nat → Nat → Nat
  | 0, _, _, _ => 0
  | m + 1, i, st, w => if sch 2 i = 32 then (if i - st = b - a ∧ sameG f st a (i - st) 0 = true then w else wordG f a b m (i + 1) (i + 1) (w + 1)) else wordG f a b m (i + 1) st w
def kindN (f : Nat → Int32) (a b : Nat) : Int32 := if letB (f a) then nI (wordG f a b 64 0 0 1) else if digB (f a) then (if 4 < b - a then 0 else 13) else if 0 ≤ ixS ((f a).toUInt32 % 65536).toInt32 then f a else 0
def numG (f : Nat → Int32) : Nat → Nat → Int32 → Int32
  | 0, _, v => v
  | m + 1, i, v => numG f m (i + 1) (v * 10 + f i - 48)
abbrev TK : Type := Int32 × Nat × Int32
def tokN (f : Nat → Int32) (kd : Int32) (a b : Nat) : TK := (kd, a, if kd = 13 then numG f (b - a) a 0 else 0)
def toksF (f : Nat → Int32) (n : Nat) : Nat → Nat → List TK
  | 0, _ => []
  | m + 1, a => if a < n then (if f a = 32 ∨ f a = 10 then toksF f n m (endF f n a) else tokN f (kindN f a (endF f n a)) a (endF f n a) :: toksF f n m (endF f n a)) else []
def tM (μ : PM) (nt : Int32) (ki pl nu : Nat → Int32) : PM := (fun c => if c = 6 then upd (μ.1 6) 2 nt else if c = 8 then ki else if c = 9 then pl else if c = 10 then nu else μ.1 c, μ.2)
def rowT (ki pl nu : Nat → Int32) (tl : List TK) : Prop := ∀ k q, tl[k]? = some q → ki k = q.1 ∧ pl k = nI q.2.1 ∧ nu k = q.2.2
theorem tM_6 {μ : PM} {nt v : Int32} {ki pl nu : Nat → Int32} : si (tM μ nt ki pl nu) 6 2 v = tM μ v ki pl nu := by
  refine PM_ext (fun x => ?_) rfl
  by_cases e : x = 6
  · subst e
    show upd (upd (μ.1 6) 2 nt) 2 v = upd (μ.1 6) 2 v
    funext j
    by_cases h : j = 2
    · subst h; rfl
    · rw [upd_o _ _ h, upd_o _ _ h, upd_o _ _ h]
  · rw [si_other _ _ _ _ e]
    show (if x = 6 then _ else if x = 8 then ki else if x = 9 then pl else if x = 10 then nu else μ.1 x) = if x = 6 then _ else if x = 8 then ki else if x = 9 then pl else if x = 10 then nu else μ.1 x
    rw [if_neg e, if_neg e]
theorem tM_8 {μ : PM} {nt v : Int32} {ki pl nu : Nat → Int32} {j : Nat} : si (tM μ nt ki pl nu) 8 j v = tM μ nt (upd ki j v) pl nu := by
  refine PM_ext (fun x => ?_) rfl
  by_cases e : x = 8
  · subst e; rfl
  · rw [si_other _ _ _ _ e]
    show (if x = 6 then _ else if x = 8 then ki else if x = 9 then pl else if x = 10 then nu else μ.1 x) = if x = 6 then _ else if x = 8 then _ else if x = 9 then pl else if x = 10 then nu else μ.1 x
    rw [if_neg e, if_neg e]
theorem tM_9 {μ : PM} {nt v : Int32} {ki pl nu : Nat → Int32} {j : Nat} : si (tM μ nt ki pl nu) 9 j v = tM μ nt ki (upd pl j v) nu := by
  refine PM_ext (fun x => ?_) rfl
  by_cases e : x = 9
  · subst e; rfl
  · rw [si_other _ _ _ _ e]
    show (if x = 6 then _ else if x = 8 then ki else if x = 9 then pl else if x = 10 then nu else μ.1 x) = if x = 6 then _ else if x = 8 then _ else if x = 9 then _ else if x = 10 then nu else μ.1 x
    rw [if_neg e, if_neg e]
theorem tM_10 {μ : PM} {nt v : Int32} {ki pl nu : Nat → Int32} {j : Nat} : si (tM μ nt ki pl nu) 10 j v = tM μ nt ki pl (upd nu j v) := by
  refine PM_ext (fun x => ?_) rfl
  by_cases e : x = 10
  · subst e; rfl
  · rw [si_other _ _ _ _ e]
    show (if x = 6 then _ else if x = 8 then ki else if x = 9 then pl else if x = 10 then nu else μ.1 x) = if x = 6 then _ else if x = 8 then _ else if x = 9 then _ else if x = 10 then _ else μ.1 x
    rw [if_neg e, if_neg e]
theorem tM_of {μ : PM} {nt : Int32} : si μ 6 2 nt = tM μ nt (μ.1 8) (μ.1 9) (μ.1 10) := by
  refine PM_ext (fun x => ?_) rfl
  by_cases e : x = 6
  · subst e; rfl
  · rw [si_other _ _ _ _ e]
    show μ.1 x = if x = 6 then _ else if x = 8 then μ.1 8 else if x = 9 then μ.1 9 else if x = 10 then μ.1 10 else μ.1 x
    rw [if_neg e]
    by_cases e8 : x = 8
    · rw [if_pos e8, e8]
    · rw [if_neg e8]
      by_cases e9 : x = 9
      · rw [if_pos e9, e9]
      · rw [if_neg e9]
        by_cases e10 : x = 10
        · rw [if_pos e10, e10]
        · rw [if_neg e10]
theorem rowT_push {ki pl nu : Nat → Int32} {tl : List TK} {q : TK} (h : rowT ki pl nu tl) : rowT (upd ki tl.length q.1) (upd pl tl.length (nI q.2.1)) (upd nu tl.length q.2.2) (tl ++ [q]) := by
  intro k d hk
  by_cases e : k < tl.length
  · rw [List.getElem?_append_left e] at hk
    rw [upd_o _ _ (by omega), upd_o _ _ (by omega), upd_o _ _ (by omega)]
    exact h k d hk
  · have e2 : k = tl.length := by
      have := (List.getElem?_eq_some_iff.mp hk).1
      simp only [List.length_append, List.length_cons, List.length_nil] at this
      omega
    subst e2
    rw [List.getElem?_append_right (Nat.le_refl _), Nat.sub_self] at hk
    cases hk
    rw [upd_s, upd_s, upd_s]
    exact ⟨rfl, rfl, rfl⟩
theorem upd_upd (f : Nat → Int32) (j : Nat) (v w : Int32) : upd (upd f j v) j w = upd f j w := by
  funext x
  by_cases h : x = j
  · subst h; rw [upd_s, upd_s]
  · rw [upd_o _ _ h, upd_o _ _ h, upd_o _ _ h]
theorem scanF_le {p : Int32 → Bool} {f : Nat → Int32} : ∀ (m a : Nat), a ≤ scanF p f m a ∧ scanF p f m a ≤ a + m
  | 0, a => ⟨Nat.le_refl _, Nat.le_refl _⟩
  | m + 1, a => by
    unfold scanF
    split
    · have h := scanF_le (p := p) (f := f) m (a + 1)
      omega
    · omega
theorem endF_le {f : Nat → Int32} {n a : Nat} (h : a < n) : a + 1 ≤ endF f n a ∧ endF f n a ≤ n := by
  unfold endF
  split
  · have h := scanF_le (p := letB) (f := f) (n - (a + 1)) (a + 1)
    omega
  · split
    · have h := scanF_le (p := digB) (f := f) (n - (a + 1)) (a + 1)
      omega
    · omega
theorem sub_nI {a b : Nat} (h : a ≤ b) : nI b - nI a = nI (b - a) := pk_sub h
set_option maxHeartbeats 4000000 in
set_option maxRecDepth 100000 in
theorem T_X2_isLetter {l : Launch} {Ω : SH} {c : Int32} {μ : PM} : CT l Ω yX2_isLetter cX2_isLetter 1 (some .boolean) 2 [.int c] μ (QI fun x m => x = b2 (letB c) ∧ m = μ) := by
  refine CT.of rfl (Nat.le_of_ble_eq_true rfl) ?_
  show PW l Ω RX2 cX2_isLetter 1 (some .boolean) 2 _ 0 [(0, .int c)] [] μ
  refine pw_iload_n dX2_isLetter_0 rfl rfl ?_
  refine pw_bipush (v := 97) dX2_isLetter_1 rfl ?_
  refine pw_bipush (v := 122) dX2_isLetter_3 rfl ?_
  refine pw_cSi dX2_isLetter_5 ms_X2_43 T_X7_within rfl rfl (Nat.le_of_ble_eq_true rfl) (by decide) (fun x_5 m_5 h_5 => ?_)
  obtain ⟨rfl, hm_5⟩ := h_5
  rw [hm_5]
  refine pw_zret dX2_isLetter_8 rfl (b2_01 _) ?_
  exact ⟨rfl, rfl⟩

set_option maxHeartbeats 4000000 in
set_option maxRecDepth 100000 in
theorem T_X2_isDigit {l : Launch} {Ω : SH} {c : Int32} {μ : PM} : CT l Ω yX2_isDigit cX2_isDigit 1 (some .boolean) 2 [.int c] μ (QI fun x m => x = b2 (digB c) ∧ m = μ) := by
  refine CT.of rfl (Nat.le_of_ble_eq_true rfl) ?_
  show PW l Ω RX2 cX2_isDigit 1 (some .boolean) 2 _ 0 [(0, .int c)] [] μ
  refine pw_iload_n dX2_isDigit_0 rfl rfl ?_
  refine pw_bipush (v := 48) dX2_isDigit_1 rfl ?_
  refine pw_bipush (v := 57) dX2_isDigit_3 rfl ?_
  refine pw_cSi dX2_isDigit_5 ms_X2_43 T_X7_within rfl rfl (Nat.le_of_ble_eq_true rfl) (by decide) (fun x_5 m_5 h_5 => ?_)
  obtain ⟨rfl, hm_5⟩ := h_5
  rw [hm_5]
  refine pw_zret dX2_isDigit_8 rfl (b2_01 _) ?_
  exact ⟨rfl, rfl⟩

set_option maxHeartbeats 4000000 in
set_option maxRecDepth 100000 in
theorem T_X2_endOf {l : Launch} {μ : PM} {n : Nat} {a : Nat} (hz : μ.1 6 0 = nI n) (hn : n ≤ 160) (ha : a < n) : CT l SC yX2_endOf cX2_endOf 3 (some .int) 3 [.ref 6, .int (nI a)] μ (QI fun x m => x = nI (endF (μ.1 7) n a) ∧ m = μ) := by
  refine CT.of rfl (Nat.le_of_ble_eq_true rfl) ?_
  show PW l SC RX2 cX2_endOf 3 (some .int) 3 _ 0 [(0, .ref 6), (1, .int (nI a))] [] μ
  refine pw_iload_n dX2_endOf_0 rfl rfl ?_
  refine pw_iconst (v := 1) dX2_endOf_1 rfl ?_
  refine pw_iadd dX2_endOf_2 ?_
  refine pw_top (y := nI (a + 1)) (nI_1 a) ?_
  refine pw_istore_n (ls2 := [(2, _), (0, _), (1, _)]) dX2_endOf_3 rfl (by decide) rfl ?_
  refine pw_aload_n dX2_endOf_4 rfl rfl ?_
  refine pw_getR dX2_endOf_5 fa_X2_15 rfl ?_
  refine pw_iload_n dX2_endOf_8 rfl rfl ?_
  refine pw_iald (j := a) dX2_endOf_9 rfl rfl (by omega) ?_
  refine pw_cSi dX2_endOf_10 ms_X2_72 T_X2_isLetter rfl rfl (Nat.le_of_ble_eq_true rfl) (by decide) (fun x_10 m_10 h_10 => ?_)
  obtain ⟨rfl, hm_10⟩ := h_10
  rw [hm_10]
  refine pw_if_eq (tgt := 42) dX2_endOf_13 (by decide) (fun c_13 => ?_) (fun c_13 => ?_)
  · skip
    have hL := b2_0 c_13
    refine pw_aload_n dX2_endOf_42 rfl rfl ?_
    refine pw_getR dX2_endOf_43 fa_X2_15 rfl ?_
    refine pw_iload_n dX2_endOf_46 rfl rfl ?_
    refine pw_iald (j := a) dX2_endOf_47 rfl rfl (by omega) ?_
    refine pw_cSi dX2_endOf_48 ms_X2_75 T_X2_isDigit rfl rfl (Nat.le_of_ble_eq_true rfl) (by decide) (fun x_48 m_48 h_48 => ?_)
    obtain ⟨rfl, hm_48⟩ := h_48
    rw [hm_48]
    refine pw_if_eq (tgt := 80) dX2_endOf_51 (by decide) (fun c_51 => ?_) (fun c_51 => ?_)
    · skip
      have hD := b2_0 c_51
      refine pw_iload_n dX2_endOf_80 rfl rfl ?_
      refine pw_iret dX2_endOf_81 rfl ?_
      exact ⟨by unfold endF; rw [hL, if_neg (by decide), hD, if_neg (by decide)], rfl⟩
    · skip
      have hD := b2_n c_51
      have L_54 : ∀ (fu_54 : Nat) (b : Nat), (b ≤ n) → (scanF digB (μ.1 7) (n - b) b = scanF digB (μ.1 7) (n - (a + 1)) (a + 1)) → n - b < fu_54 → PW l SC RX2 cX2_endOf 3 (some .int) 3 (QI fun x m => x = nI (endF (μ.1 7) n a) ∧ m = μ) 54 [(0, .ref 6), (2, .int (nI b))] [] (μ) := by
        intro fu_54
        induction fu_54 with
        | zero =>
          intro b hb1 hx hm_54
          exact absurd hm_54 (Nat.not_lt_zero _)
        | succ fu_54 ih_54 =>
          intro b hb1 hx hm_54
          refine pw_iload_n dX2_endOf_54 rfl rfl ?_
          refine pw_aload_n dX2_endOf_55 rfl rfl ?_
          refine pw_getI dX2_endOf_56 fa_X2_9 rfl ?_
          refine pw_top (y := nI n) hz ?_
          refine pw_icmp_ge (tgt := 80) dX2_endOf_59 (by decide) (fun c_59 => ?_) (fun c_59 => ?_)
          · skip
            have hge := nI_geD (by omega) c_59
            refine pw_iload_n dX2_endOf_80 rfl rfl ?_
            refine pw_iret dX2_endOf_81 rfl ?_
            exact ⟨by unfold endF; rw [hL, if_neg (by decide), hD, if_pos rfl, ← hx, show n - b = 0 by omega]; rfl, rfl⟩
          · skip
            have hlt := nI_ltD (by omega) c_59
            refine pw_aload_n dX2_endOf_62 rfl rfl ?_
            refine pw_getR dX2_endOf_63 fa_X2_15 rfl ?_
            refine pw_iload_n dX2_endOf_66 rfl rfl ?_
            refine pw_iald (j := b) dX2_endOf_67 rfl rfl (by omega) ?_
            refine pw_cSi dX2_endOf_68 ms_X2_75 T_X2_isDigit rfl rfl (Nat.le_of_ble_eq_true rfl) (by decide) (fun x_68 m_68 h_68 => ?_)
            obtain ⟨rfl, hm_68⟩ := h_68
            rw [hm_68]
            refine pw_if_eq (tgt := 80) dX2_endOf_71 (by decide) (fun c_71 => ?_) (fun c_71 => ?_)
            · skip
              have hb := b2_0 c_71
              refine pw_iload_n dX2_endOf_80 rfl rfl ?_
              refine pw_iret dX2_endOf_81 rfl ?_
              exact ⟨by unfold endF; rw [hL, if_neg (by decide), hD, if_pos rfl, ← hx, show n - b = (n - (b + 1)) + 1 by omega]; show _ = nI (if _ then _ else _); rw [hb, if_neg (by decide)], rfl⟩
            · skip
              have hb := b2_n c_71
              refine pw_iinc (ls2 := [(2, _), (0, _)]) (v := nI (b + 1)) dX2_endOf_74 rfl (inc1 b) (by decide) rfl ?_
              refine pw_goto (tgt := 54) dX2_endOf_77 (by decide) ?_
              refine pw_sub [1, 0] rfl ?_
              exact ih_54 (b + 1) hlt (by rw [← hx, show n - b = (n - (b + 1)) + 1 by omega]; show _ = if _ then _ else _; rw [hb, if_pos rfl]) (by omega)
      refine pw_sub [1, 0] rfl ?_
      exact L_54 (n + 1) (a + 1) (by omega) rfl (by omega)
  · skip
    have hL := b2_n c_13
    have L_16 : ∀ (fu_16 : Nat) (b : Nat), (b ≤ n) → (scanF letB (μ.1 7) (n - b) b = scanF letB (μ.1 7) (n - (a + 1)) (a + 1)) → n - b < fu_16 → PW l SC RX2 cX2_endOf 3 (some .int) 3 (QI fun x m => x = nI (endF (μ.1 7) n a) ∧ m = μ) 16 [(0, .ref 6), (2, .int (nI b))] [] (μ) := by
      intro fu_16
      induction fu_16 with
      | zero =>
        intro b hb1 hx hm_16
        exact absurd hm_16 (Nat.not_lt_zero _)
      | succ fu_16 ih_16 =>
        intro b hb1 hx hm_16
        refine pw_iload_n dX2_endOf_16 rfl rfl ?_
        refine pw_aload_n dX2_endOf_17 rfl rfl ?_
        refine pw_getI dX2_endOf_18 fa_X2_9 rfl ?_
        refine pw_top (y := nI n) hz ?_
        refine pw_icmp_ge (tgt := 80) dX2_endOf_21 (by decide) (fun c_21 => ?_) (fun c_21 => ?_)
        · skip
          have hge := nI_geD (by omega) c_21
          refine pw_iload_n dX2_endOf_80 rfl rfl ?_
          refine pw_iret dX2_endOf_81 rfl ?_
          exact ⟨by unfold endF; rw [hL, if_pos rfl, ← hx, show n - b = 0 by omega]; rfl, rfl⟩
        · skip
          have hlt := nI_ltD (by omega) c_21
          refine pw_aload_n dX2_endOf_24 rfl rfl ?_
          refine pw_getR dX2_endOf_25 fa_X2_15 rfl ?_
          refine pw_iload_n dX2_endOf_28 rfl rfl ?_
          refine pw_iald (j := b) dX2_endOf_29 rfl rfl (by omega) ?_
          refine pw_cSi dX2_endOf_30 ms_X2_72 T_X2_isLetter rfl rfl (Nat.le_of_ble_eq_true rfl) (by decide) (fun x_30 m_30 h_30 => ?_)
          obtain ⟨rfl, hm_30⟩ := h_30
          rw [hm_30]
          refine pw_if_eq (tgt := 80) dX2_endOf_33 (by decide) (fun c_33 => ?_) (fun c_33 => ?_)
          · skip
            have hb := b2_0 c_33
            refine pw_iload_n dX2_endOf_80 rfl rfl ?_
            refine pw_iret dX2_endOf_81 rfl ?_
            exact ⟨by unfold endF; rw [hL, if_pos rfl, ← hx, show n - b = (n - (b + 1)) + 1 by omega]; show _ = nI (if _ then _ else _); rw [hb, if_neg (by decide)], rfl⟩
          · skip
            have hb := b2_n c_33
            refine pw_iinc (ls2 := [(2, _), (0, _)]) (v := nI (b + 1)) dX2_endOf_36 rfl (inc1 b) (by decide) rfl ?_
            refine pw_goto (tgt := 16) dX2_endOf_39 (by decide) ?_
            refine pw_sub [1, 0] rfl ?_
            exact ih_16 (b + 1) hlt (by rw [← hx, show n - b = (n - (b + 1)) + 1 by omega]; show _ = if _ then _ else _; rw [hb, if_pos rfl]) (by omega)
    refine pw_sub [1, 0] rfl ?_
    exact L_16 (n + 1) (a + 1) (by omega) rfl (by omega)

set_option maxHeartbeats 4000000 in
set_option maxRecDepth 100000 in
theorem T_X2_isSame {l : Launch} {μ : PM} {st e a : Nat} (h1 : st ≤ e) (h2 : e ≤ 63) (h3 : a + (e - st) ≤ 160) : CT l SC yX2_isSame cX2_isSame 5 (some .boolean) 5 [.ref 6, .int (nI st), .int (nI e), .int (nI a)] μ (QI fun x m => x = b2 (sameG (μ.1 7) st a (e - st) 0) ∧ m = μ) := by
  refine CT.of rfl (Nat.le_of_ble_eq_true rfl) ?_
  show PW l SC RX2 cX2_isSame 5 (some .boolean) 5 _ 0 [(0, .ref 6), (1, .int (nI st)), (2, .int (nI e)), (3, .int (nI a))] [] μ
  refine pw_iload_n dX2_isSame_0 rfl rfl ?_
  refine pw_istore (ls2 := [(4, _), (0, _), (1, _), (2, _), (3, _)]) dX2_isSame_1 (by decide) rfl ?_
  have L_3 : ∀ (fu_3 : Nat) (i : Nat), (i ≤ e - st) → (sameG (μ.1 7) st a (e - st - i) i = sameG (μ.1 7) st a (e - st) 0) → e - st - i < fu_3 → PW l SC RX2 cX2_isSame 5 (some .boolean) 5 (QI fun x m => x = b2 (sameG (μ.1 7) st a (e - st) 0) ∧ m = μ) 3 [(0, .ref 6), (1, .int (nI st)), (2, .int (nI e)), (3, .int (nI a)), (4, .int (nI (st + i)))] [] (μ) := by
    intro fu_3
    induction fu_3 with
    | zero =>
      intro i hi hx hm_3
      exact absurd hm_3 (Nat.not_lt_zero _)
    | succ fu_3 ih_3 =>
      intro i hi hx hm_3
      refine pw_iload dX2_isSame_3 rfl ?_
      refine pw_iload_n dX2_isSame_5 rfl rfl ?_
      refine pw_icmp_ge (tgt := 38) dX2_isSame_6 (by decide) (fun c_6 => ?_) (fun c_6 => ?_)
      · skip
        have hge := nI_geD (by omega) c_6
        refine pw_iconst (v := 1) dX2_isSame_38 rfl ?_
        refine pw_zret dX2_isSame_39 rfl (by simp) ?_
        exact ⟨by rw [← hx, show e - st - i = 0 by omega]; rfl, rfl⟩
      · skip
        have hlt := nI_ltD (by omega) c_6
        refine pw_ldcS (i := 2) dX2_isSame_9 (by decide) rfl rfl ?_
        refine pw_iload dX2_isSame_11 rfl ?_
        refine pw_cVi dX2_isSame_13 mv_X2_94 (ckS (i := 2) (by decide)) (T_J0_charAt_5068e (i := 2) (k0 := st + i) (by decide) (show st + i < 64 by omega)) rfl rfl (Nat.le_of_ble_eq_true rfl) (by decide) (fun x_13 m_13 h_13 => ?_)
        obtain ⟨rfl, hm_13⟩ := h_13
        rw [hm_13]
        refine pw_aload_n dX2_isSame_16 rfl rfl ?_
        refine pw_getR dX2_isSame_17 fa_X2_15 rfl ?_
        refine pw_iload_n dX2_isSame_20 rfl rfl ?_
        refine pw_iload dX2_isSame_21 rfl ?_
        refine pw_iadd dX2_isSame_23 ?_
        refine pw_iload_n dX2_isSame_24 rfl rfl ?_
        refine pw_isub dX2_isSame_25 ?_
        refine pw_iald (j := a + i) dX2_isSame_26 rfl (by rw [nI_add, sub_nI (by omega)]; congr 1; omega) (by omega) ?_
        refine pw_top (y := μ.1 7 (a + i)) rfl ?_
        refine pw_icmp_eq (tgt := 32) dX2_isSame_27 (by decide) (fun c_27 => ?_) (fun c_27 => ?_)
        · skip
          refine pw_iinc (ls2 := [(4, _), (0, _), (1, _), (2, _), (3, _)]) (v := nI ((st + i) + 1)) dX2_isSame_32 rfl (inc1 (st + i)) (by decide) rfl ?_
          refine pw_goto (tgt := 3) dX2_isSame_35 (by decide) ?_
          refine pw_sub [1, 2, 3, 4, 0] rfl ?_
          exact ih_3 (i + 1) (by omega) (by rw [← hx, show e - st - i = (e - st - (i + 1)) + 1 by omega]; show _ = if _ then _ else _; rw [if_pos c_27]) (by omega)
        · skip
          refine pw_iconst (v := 0) dX2_isSame_30 rfl ?_
          refine pw_zret dX2_isSame_31 rfl (by simp) ?_
          exact ⟨by rw [← hx, show e - st - i = (e - st - (i + 1)) + 1 by omega]; show _ = b2 (if _ then _ else _); rw [if_neg c_27]; rfl, rfl⟩
  refine pw_sub [1, 2, 3, 4, 0] rfl ?_
  exact L_3 (e - st + 1) 0 (Nat.zero_le _) rfl (by omega)

set_option maxHeartbeats 4000000 in
set_option maxRecDepth 100000 in
theorem T_X2_wordOf {l : Launch} {μ : PM} {a b : Nat} (h1 : a ≤ b) (h2 : b ≤ 160) : CT l SC yX2_wordOf cX2_wordOf 6 (some .int) 6 [.ref 6, .int (nI a), .int (nI b)] μ (QI fun x m => x = nI (wordG (μ.1 7) a b 64 0 0 1) ∧ m = μ) := by
  refine CT.of rfl (Nat.le_of_ble_eq_true rfl) ?_
  show PW l SC RX2 cX2_wordOf 6 (some .int) 6 _ 0 [(0, .ref 6), (1, .int (nI a)), (2, .int (nI b))] [] μ
  refine pw_iconst (v := 1) dX2_wordOf_0 rfl ?_
  refine pw_istore_n (ls2 := [(3, _), (0, _), (1, _), (2, _)]) dX2_wordOf_1 rfl (by decide) rfl ?_
  refine pw_iconst (v := 0) dX2_wordOf_2 rfl ?_
  refine pw_istore (ls2 := [(4, _), (3, _), (0, _), (1, _), (2, _)]) dX2_wordOf_3 (by decide) rfl ?_
  refine pw_iconst (v := 0) dX2_wordOf_5 rfl ?_
  refine pw_istore (ls2 := [(5, _), (4, _), (3, _), (0, _), (1, _), (2, _)]) dX2_wordOf_6 (by decide) rfl ?_
  have L_8 : ∀ (fu_8 : Nat) (i st w : Nat), (i ≤ 64) → (st ≤ i) → (wordG (μ.1 7) a b (64 - i) i st w = wordG (μ.1 7) a b 64 0 0 1) → 64 - i < fu_8 → PW l SC RX2 cX2_wordOf 6 (some .int) 6 (QI fun x m => x = nI (wordG (μ.1 7) a b 64 0 0 1) ∧ m = μ) 8 [(0, .ref 6), (1, .int (nI a)), (2, .int (nI b)), (3, .int (nI w)), (4, .int (nI st)), (5, .int (nI i))] [] (μ) := by
    intro fu_8
    induction fu_8 with
    | zero =>
      intro i st w hi hst hx hm_8
      exact absurd hm_8 (Nat.not_lt_zero _)
    | succ fu_8 ih_8 =>
      intro i st w hi hst hx hm_8
      refine pw_iload dX2_wordOf_8 rfl ?_
      refine pw_ldcS (i := 2) dX2_wordOf_10 (by decide) rfl rfl ?_
      refine pw_cVi dX2_wordOf_12 mv_X2_90 (ckS (i := 2) (by decide)) (T_J0_length_8abf5 (i := 2) (by decide)) rfl rfl (Nat.le_of_ble_eq_true rfl) (by decide) (fun x_12 m_12 h_12 => ?_)
      obtain ⟨rfl, hm_12⟩ := h_12
      rw [hm_12]
      refine pw_icmp_ge (tgt := 70) dX2_wordOf_15 (by decide) (fun c_15 => ?_) (fun c_15 => ?_)
      · skip
        have hge := nI_geD (n := 64) (by decide) c_15
        refine pw_iconst (v := 0) dX2_wordOf_70 rfl ?_
        refine pw_iret dX2_wordOf_71 rfl ?_
        exact ⟨by rw [← hx, show 64 - i = 0 by omega]; rfl, rfl⟩
      · skip
        have hlt := nI_ltD (n := 64) (by omega) c_15
        refine pw_ldcS (i := 2) dX2_wordOf_18 (by decide) rfl rfl ?_
        refine pw_iload dX2_wordOf_20 rfl ?_
        refine pw_cVi dX2_wordOf_22 mv_X2_94 (ckS (i := 2) (by decide)) (T_J0_charAt_5068e (i := 2) (k0 := i) (by decide) (show i < 64 by omega)) rfl rfl (Nat.le_of_ble_eq_true rfl) (by decide) (fun x_22 m_22 h_22 => ?_)
        obtain ⟨rfl, hm_22⟩ := h_22
        rw [hm_22]
        refine pw_bipush (v := 32) dX2_wordOf_25 rfl ?_
        refine pw_icmp_ne (tgt := 64) dX2_wordOf_27 (by decide) (fun c_27 => ?_) (fun c_27 => ?_)
        · skip
          refine pw_iinc (ls2 := [(5, _), (0, _), (1, _), (2, _), (3, _), (4, _)]) (v := nI (i + 1)) dX2_wordOf_64 rfl (inc1 i) (by decide) rfl ?_
          refine pw_goto (tgt := 8) dX2_wordOf_67 (by decide) ?_
          refine pw_sub [1, 2, 3, 4, 5, 0] rfl ?_
          exact ih_8 (i + 1) st w hlt (by omega) (by rw [← hx, show 64 - i = (64 - (i + 1)) + 1 by omega]; show _ = if _ then _ else _; rw [if_neg c_27]) (by omega)
        · skip
          refine pw_iload dX2_wordOf_30 rfl ?_
          refine pw_iload dX2_wordOf_32 rfl ?_
          refine pw_isub dX2_wordOf_34 ?_
          refine pw_top (y := nI (i - st)) (sub_nI hst) ?_
          refine pw_iload_n dX2_wordOf_35 rfl rfl ?_
          refine pw_iload_n dX2_wordOf_36 rfl rfl ?_
          refine pw_isub dX2_wordOf_37 ?_
          refine pw_top (y := nI (b - a)) (sub_nI h1) ?_
          refine pw_icmp_ne (tgt := 55) dX2_wordOf_38 (by decide) (fun c_38 => ?_) (fun c_38 => ?_)
          · skip
            have hne : ¬ i - st = b - a := fun h => c_38 (by rw [h])
            refine pw_iinc (ls2 := [(3, _), (0, _), (1, _), (2, _), (4, _), (5, _)]) (v := nI (w + 1)) dX2_wordOf_55 rfl (inc1 w) (by decide) rfl ?_
            refine pw_iload dX2_wordOf_58 rfl ?_
            refine pw_iconst (v := 1) dX2_wordOf_60 rfl ?_
            refine pw_iadd dX2_wordOf_61 ?_
            refine pw_top (y := nI (i + 1)) (nI_1 i) ?_
            refine pw_istore (ls2 := [(4, _), (3, _), (0, _), (1, _), (2, _), (5, _)]) dX2_wordOf_62 (by decide) rfl ?_
            refine pw_iinc (ls2 := [(5, _), (4, _), (3, _), (0, _), (1, _), (2, _)]) (v := nI (i + 1)) dX2_wordOf_64 rfl (inc1 i) (by decide) rfl ?_
            refine pw_goto (tgt := 8) dX2_wordOf_67 (by decide) ?_
            refine pw_sub [3, 4, 5, 2, 1, 0] rfl ?_
            exact ih_8 (i + 1) (i + 1) (w + 1) hlt (Nat.le_refl _) (by rw [← hx, show 64 - i = (64 - (i + 1)) + 1 by omega]; show _ = if _ then (if _ then _ else _) else _; rw [if_pos c_27, if_neg (fun h => hne h.1)]) (by omega)
          · skip
            have heq : i - st = b - a := (nI_eq (by omega) (by omega)).mp c_38
            refine pw_aload_n dX2_wordOf_41 rfl rfl ?_
            refine pw_iload dX2_wordOf_42 rfl ?_
            refine pw_iload dX2_wordOf_44 rfl ?_
            refine pw_iload_n dX2_wordOf_46 rfl rfl ?_
            refine pw_cVi dX2_wordOf_47 mv_X2_98 ckReader (T_X2_isSame (st := st) (e := i) (a := a) hst (by omega) (by omega)) rfl rfl (Nat.le_of_ble_eq_true rfl) (by decide) (fun x_47 m_47 h_47 => ?_)
            obtain ⟨rfl, hm_47⟩ := h_47
            rw [hm_47]
            refine pw_if_eq (tgt := 55) dX2_wordOf_50 (by decide) (fun c_50 => ?_) (fun c_50 => ?_)
            · skip
              have hb := b2_0 c_50
              refine pw_iinc (ls2 := [(3, _), (0, _), (1, _), (2, _), (4, _), (5, _)]) (v := nI (w + 1)) dX2_wordOf_55 rfl (inc1 w) (by decide) rfl ?_
              refine pw_iload dX2_wordOf_58 rfl ?_
              refine pw_iconst (v := 1) dX2_wordOf_60 rfl ?_
              refine pw_iadd dX2_wordOf_61 ?_
              refine pw_top (y := nI (i + 1)) (nI_1 i) ?_
              refine pw_istore (ls2 := [(4, _), (3, _), (0, _), (1, _), (2, _), (5, _)]) dX2_wordOf_62 (by decide) rfl ?_
              refine pw_iinc (ls2 := [(5, _), (4, _), (3, _), (0, _), (1, _), (2, _)]) (v := nI (i + 1)) dX2_wordOf_64 rfl (inc1 i) (by decide) rfl ?_
              refine pw_goto (tgt := 8) dX2_wordOf_67 (by decide) ?_
              refine pw_sub [3, 4, 5, 2, 1, 0] rfl ?_
              exact ih_8 (i + 1) (i + 1) (w + 1) hlt (Nat.le_refl _) (by rw [← hx, show 64 - i = (64 - (i + 1)) + 1 by omega]; show _ = if _ then (if _ then _ else _) else _; rw [if_pos c_27, if_neg (fun h => by rw [hb] at h; exact absurd h.2 (by decide))]) (by omega)
            · skip
              have hb := b2_n c_50
              refine pw_iload_n dX2_wordOf_53 rfl rfl ?_
              refine pw_iret dX2_wordOf_54 rfl ?_
              exact ⟨by rw [← hx, show 64 - i = (64 - (i + 1)) + 1 by omega]; show _ = nI (if _ then (if _ then _ else _) else _); rw [if_pos c_27, if_pos ⟨heq, hb⟩], rfl⟩
  refine pw_sub [3, 4, 5, 2, 1, 0] rfl ?_
  exact L_8 65 0 0 1 (Nat.zero_le _) (Nat.le_refl _) rfl (by omega)

set_option maxHeartbeats 4000000 in
set_option maxRecDepth 100000 in
theorem T_X2_kindOf {l : Launch} {μ : PM} {a b : Nat} (h1 : a < b) (h2 : b ≤ 160) : CT l SC yX2_kindOf cX2_kindOf 3 (some .int) 7 [.ref 6, .int (nI a), .int (nI b)] μ (QI fun x m => x = kindN (μ.1 7) a b ∧ m = μ) := by
  refine CT.of rfl (Nat.le_of_ble_eq_true rfl) ?_
  show PW l SC RX2 cX2_kindOf 3 (some .int) 7 _ 0 [(0, .ref 6), (1, .int (nI a)), (2, .int (nI b))] [] μ
  refine pw_aload_n dX2_kindOf_0 rfl rfl ?_
  refine pw_getR dX2_kindOf_1 fa_X2_15 rfl ?_
  refine pw_iload_n dX2_kindOf_4 rfl rfl ?_
  refine pw_iald (j := a) dX2_kindOf_5 rfl rfl (by omega) ?_
  refine pw_cSi dX2_kindOf_6 ms_X2_72 T_X2_isLetter rfl rfl (Nat.le_of_ble_eq_true rfl) (by decide) (fun x_6 m_6 h_6 => ?_)
  obtain ⟨rfl, hm_6⟩ := h_6
  rw [hm_6]
  refine pw_if_eq (tgt := 19) dX2_kindOf_9 (by decide) (fun c_9 => ?_) (fun c_9 => ?_)
  · skip
    have hL := b2_0 c_9
    refine pw_aload_n dX2_kindOf_19 rfl rfl ?_
    refine pw_getR dX2_kindOf_20 fa_X2_15 rfl ?_
    refine pw_iload_n dX2_kindOf_23 rfl rfl ?_
    refine pw_iald (j := a) dX2_kindOf_24 rfl rfl (by omega) ?_
    refine pw_cSi dX2_kindOf_25 ms_X2_75 T_X2_isDigit rfl rfl (Nat.le_of_ble_eq_true rfl) (by decide) (fun x_25 m_25 h_25 => ?_)
    obtain ⟨rfl, hm_25⟩ := h_25
    rw [hm_25]
    refine pw_if_eq (tgt := 45) dX2_kindOf_28 (by decide) (fun c_28 => ?_) (fun c_28 => ?_)
    · skip
      have hD := b2_0 c_28
      refine pw_ldcS (i := 1) dX2_kindOf_45 (by decide) rfl rfl ?_
      refine pw_aload_n dX2_kindOf_47 rfl rfl ?_
      refine pw_getR dX2_kindOf_48 fa_X2_15 rfl ?_
      refine pw_iload_n dX2_kindOf_51 rfl rfl ?_
      refine pw_iald (j := a) dX2_kindOf_52 rfl rfl (by omega) ?_
      refine pw_top (y := μ.1 7 (a)) rfl ?_
      refine pw_i2c dX2_kindOf_53 ?_
      refine pw_cVi dX2_kindOf_54 mv_X2_83 (ckS (i := 1) (by decide)) T_J0_indexOf_0f7a4 rfl rfl (Nat.le_of_ble_eq_true rfl) (by decide) (fun x_54 m_54 h_54 => ?_)
      obtain ⟨rfl, hm_54⟩ := h_54
      rw [hm_54]
      refine pw_if_lt (tgt := 69) dX2_kindOf_57 (by decide) (fun c_57 => ?_) (fun c_57 => ?_)
      · skip
        refine pw_iconst (v := 0) dX2_kindOf_69 rfl ?_
        refine pw_iret dX2_kindOf_70 rfl ?_
        exact ⟨by unfold kindN; rw [hL, if_neg (by decide), hD, if_neg (by decide), if_neg (Int32.not_le.mpr c_57)], rfl⟩
      · skip
        refine pw_aload_n dX2_kindOf_60 rfl rfl ?_
        refine pw_getR dX2_kindOf_61 fa_X2_15 rfl ?_
        refine pw_iload_n dX2_kindOf_64 rfl rfl ?_
        refine pw_iald (j := a) dX2_kindOf_65 rfl rfl (by omega) ?_
        refine pw_top (y := μ.1 7 (a)) rfl ?_
        refine pw_goto (tgt := 70) dX2_kindOf_66 (by decide) ?_
        refine pw_iret dX2_kindOf_70 rfl ?_
        exact ⟨by unfold kindN; rw [hL, if_neg (by decide), hD, if_neg (by decide), if_pos (Int32.not_lt.mp c_57)], rfl⟩
    · skip
      have hD := b2_n c_28
      refine pw_iload_n dX2_kindOf_31 rfl rfl ?_
      refine pw_iload_n dX2_kindOf_32 rfl rfl ?_
      refine pw_isub dX2_kindOf_33 ?_
      refine pw_top (y := nI (b - a)) (sub_nI (by omega)) ?_
      refine pw_iconst (v := 4) dX2_kindOf_34 rfl ?_
      refine pw_icmp_le (tgt := 42) dX2_kindOf_35 (by decide) (fun c_35 => ?_) (fun c_35 => ?_)
      · skip
        have h4 : ¬ 4 < b - a := fun h => absurd c_35 (nI_ge h (by omega))
        refine pw_bipush (v := 13) dX2_kindOf_42 rfl ?_
        refine pw_iret dX2_kindOf_44 rfl ?_
        exact ⟨by unfold kindN; rw [hL, if_neg (by decide), hD, if_pos rfl, if_neg h4], rfl⟩
      · skip
        have h4 : 4 < b - a := by
          rcases Nat.lt_or_ge 4 (b - a) with h | h
          · exact h
          · exact absurd (nI_le (b := 4) h (by decide)) c_35
        refine pw_iconst (v := 0) dX2_kindOf_38 rfl ?_
        refine pw_goto (tgt := 44) dX2_kindOf_39 (by decide) ?_
        refine pw_iret dX2_kindOf_44 rfl ?_
        exact ⟨by unfold kindN; rw [hL, if_neg (by decide), hD, if_pos rfl, if_pos h4], rfl⟩
  · skip
    have hL := b2_n c_9
    refine pw_aload_n dX2_kindOf_12 rfl rfl ?_
    refine pw_iload_n dX2_kindOf_13 rfl rfl ?_
    refine pw_iload_n dX2_kindOf_14 rfl rfl ?_
    refine pw_cVi dX2_kindOf_15 mv_X2_78 ckReader (T_X2_wordOf (by omega) h2) rfl rfl (Nat.le_of_ble_eq_true rfl) (by decide) (fun x_15 m_15 h_15 => ?_)
    obtain ⟨rfl, hm_15⟩ := h_15
    rw [hm_15]
    refine pw_iret dX2_kindOf_18 rfl ?_
    exact ⟨by unfold kindN; rw [hL, if_pos rfl], rfl⟩

set_option maxHeartbeats 4000000 in
set_option maxRecDepth 100000 in
theorem T_X2_addToken {l : Launch} {μ : PM} {tl : List TK} {ki pl nu : Nat → Int32} {kd : Int32} {a b : Nat} (ht : rowT ki pl nu tl) (hl : tl.length ≤ 160) (h1 : a ≤ b) (h2 : b ≤ 160) : CT l SC yX2_addToken cX2_addToken 5 none 1 [.ref 6, .int kd, .int (nI a), .int (nI b)] (tM μ (nI tl.length) ki pl nu) (QV fun m => ∃ ki2 pl2 nu2, m = tM μ (nI (tl ++ [tokN (μ.1 7) kd a b]).length) ki2 pl2 nu2 ∧ rowT ki2 pl2 nu2 (tl ++ [tokN (μ.1 7) kd a b])) := by
  refine CT.of rfl (Nat.le_of_ble_eq_true rfl) ?_
  show PW l SC RX2 cX2_addToken 5 none 1 _ 0 [(0, .ref 6), (1, .int kd), (2, .int (nI a)), (3, .int (nI b))] [] (tM μ (nI tl.length) ki pl nu)
  refine pw_aload_n dX2_addToken_0 rfl rfl ?_
  refine pw_getI dX2_addToken_1 fa_X2_19 rfl ?_
  refine pw_top (y := nI tl.length) rfl ?_
  refine pw_sipush (v := 160) dX2_addToken_4 rfl ?_
  refine pw_icmp_le (tgt := 11) dX2_addToken_7 (by decide) (fun c_7 => ?_) (fun c_7 => ?_)
  · skip
    refine pw_aload_n dX2_addToken_11 rfl rfl ?_
    refine pw_getR dX2_addToken_12 fa_X2_22 rfl ?_
    refine pw_aload_n dX2_addToken_15 rfl rfl ?_
    refine pw_getI dX2_addToken_16 fa_X2_19 rfl ?_
    refine pw_iload_n dX2_addToken_19 rfl rfl ?_
    refine pw_iast (j := tl.length) dX2_addToken_20 rfl rfl (by omega) ?_
    refine pw_mem tM_8 ?_
    refine pw_aload_n dX2_addToken_21 rfl rfl ?_
    refine pw_getR dX2_addToken_22 fa_X2_25 rfl ?_
    refine pw_aload_n dX2_addToken_25 rfl rfl ?_
    refine pw_getI dX2_addToken_26 fa_X2_19 rfl ?_
    refine pw_iload_n dX2_addToken_29 rfl rfl ?_
    refine pw_iast (j := tl.length) dX2_addToken_30 rfl rfl (by omega) ?_
    refine pw_mem tM_9 ?_
    refine pw_aload_n dX2_addToken_31 rfl rfl ?_
    refine pw_getR dX2_addToken_32 fa_X2_28 rfl ?_
    refine pw_aload_n dX2_addToken_35 rfl rfl ?_
    refine pw_getI dX2_addToken_36 fa_X2_19 rfl ?_
    refine pw_iconst (v := 0) dX2_addToken_39 rfl ?_
    refine pw_iast (j := tl.length) dX2_addToken_40 rfl rfl (by omega) ?_
    refine pw_mem tM_10 ?_
    refine pw_iload_n dX2_addToken_41 rfl rfl ?_
    refine pw_bipush (v := 13) dX2_addToken_42 rfl ?_
    refine pw_icmp_ne (tgt := 94) dX2_addToken_44 (by decide) (fun c_44 => ?_) (fun c_44 => ?_)
    · skip
      refine pw_aload_n dX2_addToken_94 rfl rfl ?_
      refine pw_dup dX2_addToken_95 rfl ?_
      refine pw_getI dX2_addToken_96 fa_X2_19 rfl ?_
      refine pw_top (y := nI tl.length) rfl ?_
      refine pw_iconst (v := 1) dX2_addToken_99 rfl ?_
      refine pw_iadd dX2_addToken_100 ?_
      refine pw_top (y := nI (tl.length + 1)) (nI_1 _) ?_
      refine pw_putI dX2_addToken_101 fa_X2_19 rfl ?_
      refine pw_mem tM_6 ?_
      refine pw_vret dX2_addToken_104 rfl ?_
      refine ⟨_, _, _, by rw [List.length_append]; rfl, ?_⟩
      have h := rowT_push (q := tokN (μ.1 7) kd a b) ht
      unfold tokN at h ⊢
      rw [if_neg c_44] at h ⊢
      exact h
    · skip
      refine pw_iload_n dX2_addToken_47 rfl rfl ?_
      refine pw_istore (ls2 := [(4, _), (0, _), (1, _), (2, _), (3, _)]) dX2_addToken_48 (by decide) rfl ?_
      have L_50 : ∀ (fu_50 : Nat) (i : Nat) (v : Int32), (i ≤ b) → (numG (μ.1 7) (b - i) i v = numG (μ.1 7) (b - a) a 0) → b - i < fu_50 → PW l SC RX2 cX2_addToken 5 none 1 (QV fun m => ∃ ki2 pl2 nu2, m = tM μ (nI (tl ++ [tokN (μ.1 7) kd a b]).length) ki2 pl2 nu2 ∧ rowT ki2 pl2 nu2 (tl ++ [tokN (μ.1 7) kd a b])) 50 [(0, .ref 6), (3, .int (nI b)), (4, .int (nI i))] [] (tM μ (nI tl.length) (upd ki tl.length kd) (upd pl tl.length (nI a)) (upd nu tl.length v)) := by
        intro fu_50
        induction fu_50 with
        | zero =>
          intro i v hi hx hm_50
          exact absurd hm_50 (Nat.not_lt_zero _)
        | succ fu_50 ih_50 =>
          intro i v hi hx hm_50
          refine pw_iload dX2_addToken_50 rfl ?_
          refine pw_iload_n dX2_addToken_52 rfl rfl ?_
          refine pw_icmp_ge (tgt := 94) dX2_addToken_53 (by decide) (fun c_53 => ?_) (fun c_53 => ?_)
          · skip
            have hge := nI_geD (by omega) c_53
            refine pw_aload_n dX2_addToken_94 rfl rfl ?_
            refine pw_dup dX2_addToken_95 rfl ?_
            refine pw_getI dX2_addToken_96 fa_X2_19 rfl ?_
            refine pw_top (y := nI tl.length) rfl ?_
            refine pw_iconst (v := 1) dX2_addToken_99 rfl ?_
            refine pw_iadd dX2_addToken_100 ?_
            refine pw_top (y := nI (tl.length + 1)) (nI_1 _) ?_
            refine pw_putI dX2_addToken_101 fa_X2_19 rfl ?_
            refine pw_mem tM_6 ?_
            refine pw_vret dX2_addToken_104 rfl ?_
            refine ⟨_, _, _, by rw [List.length_append]; rfl, ?_⟩
            have h := rowT_push (q := tokN (μ.1 7) kd a b) ht
            unfold tokN at h ⊢
            rw [if_pos c_44, ← hx, show b - i = 0 by omega] at h
            rw [if_pos c_44, ← hx, show b - i = 0 by omega]
            exact h
          · skip
            have hlt := nI_ltD (by omega) c_53
            refine pw_aload_n dX2_addToken_56 rfl rfl ?_
            refine pw_getR dX2_addToken_57 fa_X2_28 rfl ?_
            refine pw_aload_n dX2_addToken_60 rfl rfl ?_
            refine pw_getI dX2_addToken_61 fa_X2_19 rfl ?_
            refine pw_aload_n dX2_addToken_64 rfl rfl ?_
            refine pw_getR dX2_addToken_65 fa_X2_28 rfl ?_
            refine pw_aload_n dX2_addToken_68 rfl rfl ?_
            refine pw_getI dX2_addToken_69 fa_X2_19 rfl ?_
            refine pw_iald (j := tl.length) dX2_addToken_72 rfl rfl (by omega) ?_
            refine pw_top (y := v) (upd_s _ _ _) ?_
            refine pw_bipush (v := 10) dX2_addToken_73 rfl ?_
            refine pw_imul dX2_addToken_75 ?_
            refine pw_aload_n dX2_addToken_76 rfl rfl ?_
            refine pw_getR dX2_addToken_77 fa_X2_15 rfl ?_
            refine pw_iload dX2_addToken_80 rfl ?_
            refine pw_iald (j := i) dX2_addToken_82 rfl rfl (by omega) ?_
            refine pw_top (y := μ.1 7 i) rfl ?_
            refine pw_iadd dX2_addToken_83 ?_
            refine pw_bipush (v := 48) dX2_addToken_84 rfl ?_
            refine pw_isub dX2_addToken_86 ?_
            refine pw_iast (j := tl.length) dX2_addToken_87 rfl rfl (by omega) ?_
            refine pw_mem (by rw [tM_10, upd_upd]) ?_
            refine pw_iinc (ls2 := [(4, _), (0, _), (3, _)]) (v := nI (i + 1)) dX2_addToken_88 rfl (inc1 i) (by decide) rfl ?_
            refine pw_goto (tgt := 50) dX2_addToken_91 (by decide) ?_
            refine pw_sub [1, 2, 0] rfl ?_
            exact ih_50 (i + 1) _ hlt (by rw [← hx, show b - i = (b - (i + 1)) + 1 by omega]; rfl) (by omega)
      refine pw_sub [1, 4, 0] rfl ?_
      exact L_50 (b + 1) a 0 h1 rfl (by omega)
  · skip
    exact absurd (nI_le hl (by decide)) c_7

set_option maxHeartbeats 4000000 in
set_option maxRecDepth 100000 in
theorem T_X2_cut {l : Launch} {μ : PM} {n : Nat}  (hz : μ.1 6 0 = nI n) (hn : n ≤ 160) : CT l SC yX2_cut cX2_cut 4 none 8 [.ref 6] μ (QV fun m => ∃ ki2 pl2 nu2, m = tM μ (nI (toksF (μ.1 7) n 160 0 ++ [(14, n, 0)]).length) ki2 pl2 nu2 ∧ rowT ki2 pl2 nu2 (toksF (μ.1 7) n 160 0 ++ [(14, n, 0)])) := by
  refine CT.of rfl (Nat.le_of_ble_eq_true rfl) ?_
  show PW l SC RX2 cX2_cut 4 none 8 _ 0 [(0, .ref 6)] [] μ
  refine pw_aload_n dX2_cut_0 rfl rfl ?_
  refine pw_iconst (v := 0) dX2_cut_1 rfl ?_
  refine pw_putI dX2_cut_2 fa_X2_19 rfl ?_
  refine pw_mem (μ' := tM μ (nI ([] : List TK).length) (μ.1 8) (μ.1 9) (μ.1 10)) tM_of ?_
  refine pw_iconst (v := 0) dX2_cut_5 rfl ?_
  refine pw_istore_n (ls2 := [(1, _), (0, _)]) dX2_cut_6 rfl (by decide) rfl ?_
  refine pw_iconst (v := 0) dX2_cut_7 rfl ?_
  refine pw_istore_n (ls2 := [(2, _), (1, _), (0, _)]) dX2_cut_8 rfl (by decide) rfl ?_
  have L_9 : ∀ (fu_9 : Nat) (k0 a : Nat) (tl : List TK) (ki pl nu : Nat → Int32), (k0 ≤ 160) → (k0 ≤ a) → (a ≤ n) → (tl.length ≤ a) → (rowT ki pl nu tl) → (tl ++ toksF (μ.1 7) n (160 - k0) a = toksF (μ.1 7) n 160 0) → 160 - k0 < fu_9 → PW l SC RX2 cX2_cut 4 none 8 (QV fun m => ∃ ki2 pl2 nu2, m = tM μ (nI (toksF (μ.1 7) n 160 0 ++ [(14, n, 0)]).length) ki2 pl2 nu2 ∧ rowT ki2 pl2 nu2 (toksF (μ.1 7) n 160 0 ++ [(14, n, 0)])) 9 [(0, .ref 6), (1, .int (nI a)), (2, .int (nI k0))] [] (tM μ (nI tl.length) ki pl nu) := by
    intro fu_9
    induction fu_9 with
    | zero =>
      intro k0 a tl ki pl nu hk hka ha hta ht hx hm_9
      exact absurd hm_9 (Nat.not_lt_zero _)
    | succ fu_9 ih_9 =>
      intro k0 a tl ki pl nu hk hka ha hta ht hx hm_9
      refine pw_iload_n dX2_cut_9 rfl rfl ?_
      refine pw_sipush (v := 160) dX2_cut_10 rfl ?_
      refine pw_icmp_ge (tgt := 72) dX2_cut_13 (by decide) (fun c_13 => ?_) (fun c_13 => ?_)
      · skip
        have hgk := nI_geD (n := 160) (by decide) c_13
        refine pw_aload_n dX2_cut_72 rfl rfl ?_
        refine pw_bipush (v := 14) dX2_cut_73 rfl ?_
        refine pw_aload_n dX2_cut_75 rfl rfl ?_
        refine pw_getI dX2_cut_76 fa_X2_9 rfl ?_
        refine pw_top (y := nI n) hz ?_
        refine pw_aload_n dX2_cut_79 rfl rfl ?_
        refine pw_getI dX2_cut_80 fa_X2_9 rfl ?_
        refine pw_top (y := nI n) hz ?_
        refine pw_cVv dX2_cut_83 mv_X2_68 ckReader (T_X2_addToken (tl := tl) (a := n) (b := n) ht (by omega) (Nat.le_refl _) (by omega)) rfl rfl (Nat.le_of_ble_eq_true rfl) (by decide) (fun m_83 h_83 => ?_)
        obtain ⟨ki2, pl2, nu2, rfl, ht2⟩ := h_83
        refine pw_vret dX2_cut_86 rfl ?_
        have e0 : toksF (μ.1 7) n (160 - k0) a = [] := by rw [show 160 - k0 = 0 by omega]; rfl
        have e1 : toksF (μ.1 7) n 160 0 = tl := by rw [← hx, e0, List.append_nil]
        rw [e1]
        exact ⟨ki2, pl2, nu2, rfl, ht2⟩
      · skip
        have hlk := nI_ltD (n := 160) (by omega) c_13
        refine pw_iload_n dX2_cut_16 rfl rfl ?_
        refine pw_aload_n dX2_cut_17 rfl rfl ?_
        refine pw_getI dX2_cut_18 fa_X2_9 rfl ?_
        refine pw_top (y := nI n) hz ?_
        refine pw_icmp_ge (tgt := 72) dX2_cut_21 (by decide) (fun c_21 => ?_) (fun c_21 => ?_)
        · skip
          have hge := nI_geD (by omega) c_21
          refine pw_aload_n dX2_cut_72 rfl rfl ?_
          refine pw_bipush (v := 14) dX2_cut_73 rfl ?_
          refine pw_aload_n dX2_cut_75 rfl rfl ?_
          refine pw_getI dX2_cut_76 fa_X2_9 rfl ?_
          refine pw_top (y := nI n) hz ?_
          refine pw_aload_n dX2_cut_79 rfl rfl ?_
          refine pw_getI dX2_cut_80 fa_X2_9 rfl ?_
          refine pw_top (y := nI n) hz ?_
          refine pw_cVv dX2_cut_83 mv_X2_68 ckReader (T_X2_addToken (tl := tl) (a := n) (b := n) ht (by omega) (Nat.le_refl _) (by omega)) rfl rfl (Nat.le_of_ble_eq_true rfl) (by decide) (fun m_83 h_83 => ?_)
          obtain ⟨ki2, pl2, nu2, rfl, ht2⟩ := h_83
          refine pw_vret dX2_cut_86 rfl ?_
          have e0 : toksF (μ.1 7) n (160 - k0) a = [] := by rw [show 160 - k0 = (160 - (k0 + 1)) + 1 by omega]; show (if _ then _ else _) = _; rw [if_neg (by omega)]
          have e1 : toksF (μ.1 7) n 160 0 = tl := by rw [← hx, e0, List.append_nil]
          rw [e1]
          exact ⟨ki2, pl2, nu2, rfl, ht2⟩
        · skip
          have hlt := nI_ltD (by omega) c_21
          have he := endF_le (f := μ.1 7) hlt
          refine pw_aload_n dX2_cut_24 rfl rfl ?_
          refine pw_iload_n dX2_cut_25 rfl rfl ?_
          refine pw_cVi dX2_cut_26 mv_X2_60 ckReader (T_X2_endOf (n := n) (a := a) hz hn hlt) rfl rfl (Nat.le_of_ble_eq_true rfl) (by decide) (fun x_26 m_26 h_26 => ?_)
          obtain ⟨rfl, hm_26⟩ := h_26
          rw [hm_26]
          refine pw_top (y := nI (endF (μ.1 7) n a)) rfl ?_
          refine pw_istore_n (ls2 := [(3, _), (0, _), (1, _), (2, _)]) dX2_cut_29 rfl (by decide) rfl ?_
          refine pw_aload_n dX2_cut_30 rfl rfl ?_
          refine pw_getR dX2_cut_31 fa_X2_15 rfl ?_
          refine pw_iload_n dX2_cut_34 rfl rfl ?_
          refine pw_iald (j := a) dX2_cut_35 rfl rfl (by omega) ?_
          refine pw_top (y := μ.1 7 (a)) rfl ?_
          refine pw_bipush (v := 32) dX2_cut_36 rfl ?_
          refine pw_icmp_eq (tgt := 64) dX2_cut_38 (by decide) (fun c_38 => ?_) (fun c_38 => ?_)
          · skip
            refine pw_iload_n dX2_cut_64 rfl rfl ?_
            refine pw_istore_n (ls2 := [(1, _), (3, _), (0, _), (2, _)]) dX2_cut_65 rfl (by decide) rfl ?_
            refine pw_iinc (ls2 := [(2, _), (1, _), (3, _), (0, _)]) (v := nI (k0 + 1)) dX2_cut_66 rfl (inc1 k0) (by decide) rfl ?_
            refine pw_goto (tgt := 9) dX2_cut_69 (by decide) ?_
            refine pw_sub [3, 1, 0] rfl ?_
            exact ih_9 (k0 + 1) _ tl ki pl nu hlk (by omega) he.2 (by omega) ht (by rw [← hx, show 160 - k0 = (160 - (k0 + 1)) + 1 by omega]; congr 1; show _ = if _ then (if _ then _ else _) else _; rw [if_pos hlt, if_pos (Or.inl c_38)]) (by omega)
          · skip
            refine pw_aload_n dX2_cut_41 rfl rfl ?_
            refine pw_getR dX2_cut_42 fa_X2_15 rfl ?_
            refine pw_iload_n dX2_cut_45 rfl rfl ?_
            refine pw_iald (j := a) dX2_cut_46 rfl rfl (by omega) ?_
            refine pw_top (y := μ.1 7 (a)) rfl ?_
            refine pw_bipush (v := 10) dX2_cut_47 rfl ?_
            refine pw_icmp_eq (tgt := 64) dX2_cut_49 (by decide) (fun c_49 => ?_) (fun c_49 => ?_)
            · skip
              refine pw_iload_n dX2_cut_64 rfl rfl ?_
              refine pw_istore_n (ls2 := [(1, _), (3, _), (0, _), (2, _)]) dX2_cut_65 rfl (by decide) rfl ?_
              refine pw_iinc (ls2 := [(2, _), (1, _), (3, _), (0, _)]) (v := nI (k0 + 1)) dX2_cut_66 rfl (inc1 k0) (by decide) rfl ?_
              refine pw_goto (tgt := 9) dX2_cut_69 (by decide) ?_
              refine pw_sub [3, 1, 0] rfl ?_
              exact ih_9 (k0 + 1) _ tl ki pl nu hlk (by omega) he.2 (by omega) ht (by rw [← hx, show 160 - k0 = (160 - (k0 + 1)) + 1 by omega]; congr 1; show _ = if _ then (if _ then _ else _) else _; rw [if_pos hlt, if_pos (Or.inr c_49)]) (by omega)
            · skip
              refine pw_aload_n dX2_cut_52 rfl rfl ?_
              refine pw_aload_n dX2_cut_53 rfl rfl ?_
              refine pw_iload_n dX2_cut_54 rfl rfl ?_
              refine pw_iload_n dX2_cut_55 rfl rfl ?_
              refine pw_cVi dX2_cut_56 mv_X2_64 ckReader (T_X2_kindOf (a := a) (b := endF (μ.1 7) n a) (by omega) (by omega)) rfl rfl (Nat.le_of_ble_eq_true rfl) (by decide) (fun x_56 m_56 h_56 => ?_)
              obtain ⟨rfl, hm_56⟩ := h_56
              rw [hm_56]
              refine pw_top (y := kindN (μ.1 7) a (endF (μ.1 7) n a)) rfl ?_
              refine pw_iload_n dX2_cut_59 rfl rfl ?_
              refine pw_iload_n dX2_cut_60 rfl rfl ?_
              refine pw_cVv dX2_cut_61 mv_X2_68 ckReader (T_X2_addToken (tl := tl) (a := a) (b := endF (μ.1 7) n a) ht (by omega) (by omega) (by omega)) rfl rfl (Nat.le_of_ble_eq_true rfl) (by decide) (fun m_61 h_61 => ?_)
              obtain ⟨ki2, pl2, nu2, rfl, ht2⟩ := h_61
              refine pw_iload_n dX2_cut_64 rfl rfl ?_
              refine pw_istore_n (ls2 := [(1, _), (3, _), (0, _), (2, _)]) dX2_cut_65 rfl (by decide) rfl ?_
              refine pw_iinc (ls2 := [(2, _), (1, _), (3, _), (0, _)]) (v := nI (k0 + 1)) dX2_cut_66 rfl (inc1 k0) (by decide) rfl ?_
              refine pw_goto (tgt := 9) dX2_cut_69 (by decide) ?_
              refine pw_sub [3, 1, 0] rfl ?_
              exact ih_9 (k0 + 1) _ _ ki2 pl2 nu2 hlk (by omega) he.2 (by rw [List.length_append]; show tl.length + 1 ≤ _; omega) ht2 (by rw [← hx, show 160 - k0 = (160 - (k0 + 1)) + 1 by omega, List.append_assoc]; congr 1; show _ = if _ then (if _ then _ else _) else _; rw [if_pos hlt, if_neg (fun h => h.elim c_38 c_49)]; rfl) (by omega)
  refine pw_sub [2, 1, 0] rfl ?_
  exact L_9 161 0 0 [] (μ.1 8) (μ.1 9) (μ.1 10) (Nat.zero_le _) (Nat.le_refl _) (Nat.zero_le _) (Nat.le_refl _) (fun k q h => by cases h) rfl (by omega)

