def eM (μ : PM) (en : Nat → Int32) : PM := (fun c => if c = 12 then en else μ.1 c, μ.2)
theorem eM_of {μ : PM} : μ = eM μ (μ.1 12) := by
  refine PM_ext (fun x => ?_) rfl
  show μ.1 x = if x = 12 then μ.1 12 else μ.1 x
  by_cases e : x = 12
  · rw [if_pos e, e]
  · rw [if_neg e]
theorem eM_st {μ : PM} {a cs v : Int32} {co en : Nat → Int32} {j : Nat} : si (pM (eM μ en) a cs co) 12 j v = pM (eM μ (upd en j v)) a cs co := by
  refine PM_ext (fun x => ?_) rfl
  by_cases e : x = 12
  · subst e; rfl
  · rw [si_other _ _ _ _ e]
    show (if x = 6 then _ else if x = 11 then co else if x = 12 then en else μ.1 x) = if x = 6 then _ else if x = 11 then co else if x = 12 then _ else μ.1 x
    rw [if_neg e, if_neg e]
    rfl
def tkL (f : Nat → Int32) (n : Nat) : List TK := toksF f n 160 0 ++ [(14, n, 0)]
theorem toksF_len {f : Nat → Int32} {n : Nat} : ∀ (m a : Nat), (toksF f n m a).length ≤ m
  | 0, _ => Nat.le_refl _
  | m + 1, a => by
    unfold toksF
    split
    · split
      · exact Nat.le_succ_of_le (toksF_len m _)
      · exact Nat.succ_le_succ (toksF_len m _)
    · exact Nat.zero_le _
theorem tkL_len {f : Nat → Int32} {n : Nat} : (tkL f n).length = (toksF f n 160 0).length + 1 := by
  unfold tkL
  rw [List.length_append]
  rfl
theorem tok_cut {μ : PM} {n : Nat} {ki pl nu en : Nat → Int32} (h : rowT ki pl nu (tkL (μ.1 7) n)) : tokOK (eM (tM μ (nI (tkL (μ.1 7) n).length) ki pl nu) en) (tkL (μ.1 7) n).length := by
  refine ⟨rfl, by rw [tkL_len]; omega, by rw [tkL_len]; exact Nat.succ_le_succ (toksF_len _ _), ?_⟩
  show ki ((tkL (μ.1 7) n).length - 1) = 14
  refine (h _ (14, n, 0) ?_).1
  rw [tkL_len]
  unfold tkL
  show (_ ++ [(14, n, 0)])[(toksF (μ.1 7) n 160 0).length]? = some ((14, n, 0) : TK)
  rw [List.getElem?_append_right (Nat.le_refl _), Nat.sub_self]
  rfl
def rdS (ki : Nat → Int32) (E : RS → Bool × RS) (p : Nat) (s : RS) : Bool × RS :=
  if nxt ki s (1 + nI p) then (if (E (tkS s)).1 then (if nxt ki (E (tkS s)).2 59 then (true, tkS (E (tkS s)).2) else (false, (E (tkS s)).2)) else (false, (E (tkS s)).2)) else (false, s)
def rdL (ki : Nat → Int32) (E : RS → Bool × RS) : Nat → Nat → RS → List Nat → Bool × RS × List Nat
  | 0, _, s, es => (nxt ki s 14, s, es)
  | m + 1, p, s, es => if (rdS ki E p s).1 then rdL ki E m (p + 1) (rdS ki E p s).2 (es ++ [(rdS ki E p s).2.2.length]) else (false, (rdS ki E p s).2, es)
def rdF (ki nu : Nat → Int32) : Bool × RS × List Nat := rdL ki (PT ki nu 5).1 3 0 (0, []) []
def rowE (en : Nat → Int32) (es : List Nat) : Prop := ∀ k v, es[k]? = some v → en k = nI v
theorem rowE_push {en : Nat → Int32} {es : List Nat} {v : Nat} (h : rowE en es) : rowE (upd en es.length (nI v)) (es ++ [v]) := by
  intro k d hk
  by_cases e : k < es.length
  · rw [List.getElem?_append_left e] at hk
    rw [upd_o _ _ (by omega)]
    exact h k d hk
  · have e2 : k = es.length := by
      have := (List.getElem?_eq_some_iff.mp hk).1
      simp only [List.length_append, List.length_cons, List.length_nil] at this
      omega
    subst e2
    rw [List.getElem?_append_right (Nat.le_refl _), Nat.sub_self] at hk
    cases hk
    rw [upd_s]
theorem take_ki {l : Launch} {μ : PM} {nt : Nat} {s : RS} {co ki : Nat → Int32} {kd : Int32} (h8 : μ.1 8 = ki) (ht : tokOK μ nt) (hs : RI nt s) (hc : rowL co s.2) : CT l SC yX2_take cX2_take 3 (some .boolean) 2 [.ref 6, .int kd] (pM μ (nI s.1) (nI s.2.length) co) (QI fun x m => x = b2 (nxt ki s kd) ∧ m = pM μ (nI (if nxt ki s kd then s.1 + 1 else s.1)) (nI s.2.length) co) := by
  subst h8
  exact T_X2_take ht hs hc
theorem next_ki {l : Launch} {μ : PM} {nt : Nat} {s : RS} {co ki : Nat → Int32} {kd : Int32} (h8 : μ.1 8 = ki) (ht : tokOK μ nt) (hs : RI nt s) (hc : rowL co s.2) : CT l SC yX2_isNext cX2_isNext 2 (some .boolean) 1 [.ref 6, .int kd] (pM μ (nI s.1) (nI s.2.length) co) (QI fun x m => x = b2 (nxt ki s kd) ∧ m = pM μ (nI s.1) (nI s.2.length) co) := by
  subst h8
  exact T_X2_isNext ht hs hc
theorem PT_ki {l : Launch} {μ : PM} {nt : Nat} {ki nu : Nat → Int32} (h8 : μ.1 8 = ki) (h10 : μ.1 10 = nu) (ht : tokOK μ nt) : RC l μ nt yX2_either cX2_either 3 50 0 (PT ki nu 5).1 := by
  subst h8
  subst h10
  exact PT_of ht 5 (by decide)
set_option maxHeartbeats 4000000 in
set_option maxRecDepth 100000 in
theorem T_X2_empty {l : Launch} {μ : PM} : CT l SC yX2_empty cX2_empty 1 none 1 [.ref 6] μ (QV fun m => m = si μ 6 0 0) := by
  refine CT.of rfl (Nat.le_of_ble_eq_true rfl) ?_
  show PW l SC RX2 cX2_empty 1 none 1 _ 0 [(0, .ref 6)] [] μ
  refine pw_aload_n dX2_empty_0 rfl rfl ?_
  refine pw_iconst (v := 0) dX2_empty_1 rfl ?_
  refine pw_putI dX2_empty_2 fa_X2_9 rfl ?_
  refine pw_vret dX2_empty_5 rfl ?_
  exact rfl

set_option maxHeartbeats 4000000 in
set_option maxRecDepth 100000 in
theorem T_X2_put {l : Launch} {μ : PM} {n : Nat} {b : Int32} (hz : μ.1 6 0 = nI n) (hn : n ≤ 160) : CT l SC yX2_put cX2_put 2 none 1 [.ref 6, .int b] μ (QV fun m => m = if n < 160 then si (si μ 7 n b) 6 0 (nI (n + 1)) else μ) := by
  refine CT.of rfl (Nat.le_of_ble_eq_true rfl) ?_
  show PW l SC RX2 cX2_put 2 none 1 _ 0 [(0, .ref 6), (1, .int b)] [] μ
  refine pw_aload_n dX2_put_0 rfl rfl ?_
  refine pw_getI dX2_put_1 fa_X2_9 rfl ?_
  refine pw_top (y := nI n) hz ?_
  refine pw_sipush (v := 160) dX2_put_4 rfl ?_
  refine pw_icmp_ge (tgt := 30) dX2_put_7 (by decide) (fun c_7 => ?_) (fun c_7 => ?_)
  · skip
    have hge := nI_geD (n := 160) (by decide) c_7
    refine pw_vret dX2_put_30 rfl ?_
    exact (if_neg (by omega)).symm
  · skip
    have hlt := nI_ltD (n := 160) (by omega) c_7
    refine pw_aload_n dX2_put_10 rfl rfl ?_
    refine pw_getR dX2_put_11 fa_X2_15 rfl ?_
    refine pw_aload_n dX2_put_14 rfl rfl ?_
    refine pw_getI dX2_put_15 fa_X2_9 rfl ?_
    refine pw_top (y := nI n) hz ?_
    refine pw_iload_n dX2_put_18 rfl rfl ?_
    refine pw_iast (j := n) dX2_put_19 rfl rfl (by omega) ?_
    refine pw_aload_n dX2_put_20 rfl rfl ?_
    refine pw_dup dX2_put_21 rfl ?_
    refine pw_getI dX2_put_22 fa_X2_9 rfl ?_
    refine pw_top (y := nI n) hz ?_
    refine pw_iconst (v := 1) dX2_put_25 rfl ?_
    refine pw_iadd dX2_put_26 ?_
    refine pw_top (y := nI (n + 1)) (nI_1 n) ?_
    refine pw_putI dX2_put_27 fa_X2_9 rfl ?_
    refine pw_vret dX2_put_30 rfl ?_
    exact (if_pos hlt).symm

set_option maxHeartbeats 4000000 in
set_option maxRecDepth 100000 in
theorem T_X2_read {l : Launch} {μ : PM} {n : Nat} (hz : μ.1 6 0 = nI n) (hn : n ≤ 160) : CT l SC yX2_read cX2_read 2 (some .boolean) 51 [.ref 6] μ (QI fun x m => ∃ ki pl nu co en, rowT ki pl nu (tkL (μ.1 7) n) ∧ (x = b2 (rdF ki nu).1 ∧ m = pM (eM (tM μ (nI (tkL (μ.1 7) n).length) ki pl nu) en) (nI (rdF ki nu).2.1.1) (nI (rdF ki nu).2.1.2.length) co ∧ rowL co (rdF ki nu).2.1.2 ∧ rowE en (rdF ki nu).2.2 ∧ RI (tkL (μ.1 7) n).length (rdF ki nu).2.1 ∧ (rdF ki nu).2.2.length ≤ 3)) := by
  refine CT.of rfl (Nat.le_of_ble_eq_true rfl) ?_
  show PW l SC RX2 cX2_read 2 (some .boolean) 51 _ 0 [(0, .ref 6)] [] μ
  refine pw_aload_n dX2_read_0 rfl rfl ?_
  refine pw_cVv dX2_read_1 mv_X2_47 ckReader (T_X2_cut hz hn) rfl rfl (Nat.le_of_ble_eq_true rfl) (by decide) (fun m_1 h_1 => ?_)
  obtain ⟨ki, pl, nu, rfl, ht⟩ := h_1
  change rowT ki pl nu (tkL (μ.1 7) n) at ht
  refine pw_mem (μ' := (tM μ (nI (tkL (μ.1 7) n).length) ki pl nu)) rfl ?_
  refine pw_aload_n dX2_read_4 rfl rfl ?_
  refine pw_iconst (v := 0) dX2_read_5 rfl ?_
  refine pw_putI dX2_read_6 fa_X2_31 rfl ?_
  refine pw_aload_n dX2_read_9 rfl rfl ?_
  refine pw_iconst (v := 0) dX2_read_10 rfl ?_
  refine pw_putI dX2_read_11 fa_X2_34 rfl ?_
  refine pw_mem (μ' := pM (eM (tM μ (nI (tkL (μ.1 7) n).length) ki pl nu) (μ.1 12)) (nI ((0, []) : RS).1) (nI ((0, []) : RS).2.length) (μ.1 11)) (by rw [pM_of]; rw [show eM (tM μ (nI (tkL (μ.1 7) n).length) ki pl nu) (μ.1 12) = (tM μ (nI (tkL (μ.1 7) n).length) ki pl nu) from (eM_of (μ := (tM μ (nI (tkL (μ.1 7) n).length) ki pl nu))).symm]; rfl) ?_
  refine pw_iconst (v := 0) dX2_read_14 rfl ?_
  refine pw_istore_n (ls2 := [(1, _), (0, _)]) dX2_read_15 rfl (by decide) rfl ?_
  have L_16 : ∀ (fu_16 : Nat) (p : Nat) (s : RS) (co en : Nat → Int32) (es : List Nat), (p ≤ 3) → (es.length = p) → (RI (tkL (μ.1 7) n).length s) → (rowL co s.2) → (rowE en es) → (rdL ki (PT ki nu 5).1 (3 - p) p s es = rdF ki nu) → 3 - p < fu_16 → PW l SC RX2 cX2_read 2 (some .boolean) 51 (QI fun x m => ∃ ki pl nu co en, rowT ki pl nu (tkL (μ.1 7) n) ∧ (x = b2 (rdF ki nu).1 ∧ m = pM (eM (tM μ (nI (tkL (μ.1 7) n).length) ki pl nu) en) (nI (rdF ki nu).2.1.1) (nI (rdF ki nu).2.1.2.length) co ∧ rowL co (rdF ki nu).2.1.2 ∧ rowE en (rdF ki nu).2.2 ∧ RI (tkL (μ.1 7) n).length (rdF ki nu).2.1 ∧ (rdF ki nu).2.2.length ≤ 3)) 16 [(0, .ref 6), (1, .int (nI p))] [] (pM (eM (tM μ (nI (tkL (μ.1 7) n).length) ki pl nu) en) (nI s.1) (nI s.2.length) co) := by
    intro fu_16
    induction fu_16 with
    | zero =>
      intro p s co en es hp hes hI hc he hx hm_16
      exact absurd hm_16 (Nat.not_lt_zero _)
    | succ fu_16 ih_16 =>
      intro p s co en es hp hes hI hc he hx hm_16
      refine pw_iload_n dX2_read_16 rfl rfl ?_
      refine pw_iconst (v := 3) dX2_read_17 rfl ?_
      refine pw_icmp_ge (tgt := 66) dX2_read_18 (by decide) (fun c_18 => ?_) (fun c_18 => ?_)
      · skip
        have hge := nI_geD (n := 3) (by decide) c_18
        have htok := tok_cut (en := en) ht
        refine pw_aload_n dX2_read_66 rfl rfl ?_
        refine pw_bipush (v := 14) dX2_read_67 rfl ?_
        refine pw_cVi dX2_read_69 mv_X2_57 ckReader (next_ki (ki := ki) rfl htok hI hc) rfl rfl (Nat.le_of_ble_eq_true rfl) (by decide) (fun x_69 m_69 h_69 => ?_)
        obtain ⟨rfl, rfl⟩ := h_69
        refine pw_zret dX2_read_72 rfl (b2_01 _) ?_
        have e : rdL ki (PT ki nu 5).1 (3 - p) p s es = (nxt ki s 14, s, es) := by
          rw [show 3 - p = 0 by omega]
          rfl
        refine ⟨ki, pl, nu, co, en, ?_, ?_⟩
        · exact ht
        · rw [show rdF ki nu = _ from hx.symm, e]
          exact ⟨rfl, rfl, hc, he, hI, by show (es).length ≤ 3; omega⟩
      · skip
        have hlt := nI_ltD (n := 3) (by omega) c_18
        have htok := tok_cut (en := en) ht
        have hd : (1 + nI p) ≠ 14 := by
          have h3 : p = 0 ∨ p = 1 ∨ p = 2 := by omega
          rcases h3 with rfl | rfl | rfl <;> decide
        refine pw_aload_n dX2_read_21 rfl rfl ?_
        refine pw_iconst (v := 1) dX2_read_22 rfl ?_
        refine pw_iload_n dX2_read_23 rfl rfl ?_
        refine pw_iadd dX2_read_24 ?_
        refine pw_cVi dX2_read_25 mv_X2_50 ckReader (take_ki (ki := ki) (kd := 1 + nI p) rfl htok hI hc) rfl rfl (Nat.le_of_ble_eq_true rfl) (by decide) (fun x_25 m_25 h_25 => ?_)
        obtain ⟨rfl, rfl⟩ := h_25
        refine pw_if_eq (tgt := 48) dX2_read_28 (by decide) (fun c_28 => ?_) (fun c_28 => ?_)
        · skip
          have hb := b2_0 c_28
          rw [hb, if_neg (by decide)]
          refine pw_iconst (v := 0) dX2_read_48 rfl ?_
          refine pw_zret dX2_read_49 rfl (by simp) ?_
          have e : rdL ki (PT ki nu 5).1 (3 - p) p s es = (false, s, es) := by
            rw [show 3 - p = (3 - (p + 1)) + 1 by omega]
            show (if (rdS ki (PT ki nu 5).1 p s).1 then _ else _) = _
            have e2 : rdS ki (PT ki nu 5).1 p s = (false, s) := by
              unfold rdS
              rw [hb, if_neg (by decide)]
            rw [e2, if_neg Bool.false_ne_true]
          refine ⟨ki, pl, nu, co, en, ?_, ?_⟩
          · exact ht
          · rw [show rdF ki nu = _ from hx.symm, e]
            exact ⟨rfl, rfl, hc, he, hI, by show (es).length ≤ 3; omega⟩
        · skip
          have hb := b2_n c_28
          rw [hb, if_pos rfl]
          refine pw_aload_n dX2_read_31 rfl rfl ?_
          refine pw_iconst (v := 0) dX2_read_32 rfl ?_
          refine pw_top (y := nI 0) rfl ?_
          refine pw_cVi dX2_read_33 mv_X2_54 ckReader ((PT_ki (ki := ki) (nu := nu) rfl rfl htok) (s := tkS s) (RI_tk htok hI hb hd) hc) rfl rfl (Nat.le_of_ble_eq_true rfl) (by decide) (fun x_33 m_33 h_33 => ?_)
          obtain ⟨rfl, co1, rfl, hc1, hI1⟩ := h_33
          refine pw_if_eq (tgt := 48) dX2_read_36 (by decide) (fun c_36 => ?_) (fun c_36 => ?_)
          · skip
            have hb2 := b2_0 c_36
            refine pw_iconst (v := 0) dX2_read_48 rfl ?_
            refine pw_zret dX2_read_49 rfl (by simp) ?_
            have e : rdL ki (PT ki nu 5).1 (3 - p) p s es = (false, ((PT ki nu 5).1 (tkS s)).2, es) := by
              rw [show 3 - p = (3 - (p + 1)) + 1 by omega]
              show (if (rdS ki (PT ki nu 5).1 p s).1 then _ else _) = _
              have e2 : rdS ki (PT ki nu 5).1 p s = (false, ((PT ki nu 5).1 (tkS s)).2) := by
                unfold rdS
                rw [hb, if_pos rfl, hb2, if_neg (by decide)]
              rw [e2, if_neg Bool.false_ne_true]
            refine ⟨ki, pl, nu, co1, en, ?_, ?_⟩
            · exact ht
            · rw [show rdF ki nu = _ from hx.symm, e]
              exact ⟨rfl, rfl, hc1, he, hI1, by show (es).length ≤ 3; omega⟩
          · skip
            have hb2 := b2_n c_36
            refine pw_aload_n dX2_read_39 rfl rfl ?_
            refine pw_bipush (v := 59) dX2_read_40 rfl ?_
            refine pw_cVi dX2_read_42 mv_X2_50 ckReader (take_ki (ki := ki) (s := ((PT ki nu 5).1 (tkS s)).2) rfl htok hI1 hc1) rfl rfl (Nat.le_of_ble_eq_true rfl) (by decide) (fun x_42 m_42 h_42 => ?_)
            obtain ⟨rfl, rfl⟩ := h_42
            refine pw_if_ne (tgt := 50) dX2_read_45 (by decide) (fun c_45 => ?_) (fun c_45 => ?_)
            · skip
              have hb3 := b2_n c_45
              rw [hb3, if_pos rfl]
              have eS : rdS ki (PT ki nu 5).1 p s = (true, tkS ((PT ki nu 5).1 (tkS s)).2) := by unfold rdS; rw [hb, if_pos rfl, hb2, if_pos rfl, hb3, if_pos rfl]
              refine pw_aload_n dX2_read_50 rfl rfl ?_
              refine pw_getR dX2_read_51 fa_X2_40 rfl ?_
              refine pw_iload_n dX2_read_54 rfl rfl ?_
              refine pw_aload_n dX2_read_55 rfl rfl ?_
              refine pw_getI dX2_read_56 fa_X2_34 rfl ?_
              refine pw_top (y := nI ((PT ki nu 5).1 (tkS s)).2.2.length) rfl ?_
              refine pw_iast (j := p) dX2_read_59 rfl rfl (by omega) ?_
              refine pw_mem eM_st ?_
              refine pw_iinc (ls2 := [(1, _), (0, _)]) (v := nI (p + 1)) dX2_read_60 rfl (inc1 p) (by decide) rfl ?_
              refine pw_goto (tgt := 16) dX2_read_63 (by decide) ?_
              refine pw_sub [1, 0] rfl ?_
              have hupd := rowE_push (v := ((PT ki nu 5).1 (tkS s)).2.2.length) he
              rw [hes] at hupd
              exact ih_16 (p + 1) (tkS ((PT ki nu 5).1 (tkS s)).2) co1 _ _ hlt (by rw [List.length_append, hes]; rfl) (RI_tk htok hI1 hb3 (by decide)) hc1 hupd (by rw [← hx, show 3 - p = (3 - (p + 1)) + 1 by omega]; show _ = if (rdS ki (PT ki nu 5).1 p s).1 then _ else _; rw [eS, if_pos rfl]; rfl) (by omega)
            · skip
              have hb3 := b2_0 c_45
              rw [hb3, if_neg (by decide)]
              refine pw_iconst (v := 0) dX2_read_48 rfl ?_
              refine pw_zret dX2_read_49 rfl (by simp) ?_
              have e : rdL ki (PT ki nu 5).1 (3 - p) p s es = (false, ((PT ki nu 5).1 (tkS s)).2, es) := by
                rw [show 3 - p = (3 - (p + 1)) + 1 by omega]
                show (if (rdS ki (PT ki nu 5).1 p s).1 then _ else _) = _
                have e2 : rdS ki (PT ki nu 5).1 p s = (false, ((PT ki nu 5).1 (tkS s)).2) := by
                  unfold rdS
                  rw [hb, if_pos rfl, hb2, if_pos rfl, hb3, if_neg (by decide)]
                rw [e2, if_neg Bool.false_ne_true]
              refine ⟨ki, pl, nu, co1, en, ?_, ?_⟩
              · exact ht
              · rw [show rdF ki nu = _ from hx.symm, e]
                exact ⟨rfl, rfl, hc1, he, hI1, by show (es).length ≤ 3; omega⟩
  refine pw_sub [1, 0] rfl ?_
  exact L_16 4 0 (0, []) (μ.1 11) (μ.1 12) [] (Nat.zero_le _) rfl ⟨by rw [tkL_len]; exact Nat.succ_pos _, Nat.zero_le _⟩ (fun k v h => by cases h) (fun k v h => by cases h) rfl (by omega)

set_option maxHeartbeats 4000000 in
set_option maxRecDepth 100000 in
theorem T_X2_place {l : Launch} {μ : PM} {a : Nat} (ha : μ.1 6 6 = nI a) (hl : a ≤ 160) : CT l SC yX2_place cX2_place 1 (some .int) 2 [.ref 6] μ (QI fun x m => x = μ.1 9 a ∧ m = μ) := by
  refine CT.of rfl (Nat.le_of_ble_eq_true rfl) ?_
  show PW l SC RX2 cX2_place 1 (some .int) 2 _ 0 [(0, .ref 6)] [] μ
  refine pw_aload_n dX2_place_0 rfl rfl ?_
  refine pw_getI dX2_place_1 fa_X2_31 rfl ?_
  refine pw_top (y := nI a) ha ?_
  refine pw_iconst (v := 0) dX2_place_4 rfl ?_
  refine pw_sipush (v := 160) dX2_place_5 rfl ?_
  refine pw_cSi dX2_place_8 ms_X2_43 T_X7_within rfl rfl (Nat.le_of_ble_eq_true rfl) (by decide) (fun x_8 m_8 h_8 => ?_)
  obtain ⟨rfl, hm_8⟩ := h_8
  rw [hm_8]
  refine pw_if_eq (tgt := 26) dX2_place_11 (by decide) (fun c_11 => ?_) (fun c_11 => ?_)
  · skip
    exact absurd c_11 (by rw [show inF (nI a) 0 160 = true from in_t (n := 161) (by omega) (by decide)]; decide)
  · skip
    refine pw_aload_n dX2_place_14 rfl rfl ?_
    refine pw_getR dX2_place_15 fa_X2_25 rfl ?_
    refine pw_aload_n dX2_place_18 rfl rfl ?_
    refine pw_getI dX2_place_19 fa_X2_31 rfl ?_
    refine pw_top (y := nI a) ha ?_
    refine pw_iald (j := a) dX2_place_22 rfl rfl (by omega) ?_
    refine pw_goto (tgt := 30) dX2_place_23 (by decide) ?_
    refine pw_iret dX2_place_30 rfl ?_
    exact ⟨rfl, rfl⟩

