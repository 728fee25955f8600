def shOK (μ : PM) : Prop := ∀ s, s < 4 → ∃ z, z ≤ 40 ∧ μ.1 20 s = nI z
theorem is_sh {s : Int32} (h : inF s 0 3 = true) : ∃ k, k < 4 ∧ s = nI k := by
  obtain ⟨k, hk, e⟩ := in_trueL (n := 3) h (by decide)
  exact ⟨k, by omega, e⟩
def sheetX (s so n : Int32) : Int32 := if inF s 0 3 && inF so (-1) 2 then (if so = -1 then 1 else if n ≤ 40 then (if 0 ≤ n then 1 else -14) else -2) else -2
def sheetM (μ : PM) (s so n : Int32) : PM := if inF s 0 3 && inF so (-1) 2 then (if so = -1 then renM μ (cl s) so 0 else if n ≤ 40 then (if 0 ≤ n then renM μ (cl s) so n else μ) else μ) else μ
def cellX (so sz : Nat → Int32) (s i : Int32) : Int32 := if inF s 0 3 then (if so (cl s) = -1 then -11 else if inF i 0 (sz (cl s) - 1) then 1 else -12) else -2
def cellM (μ : PM) (s i v : Int32) : PM := if cellX (μ.1 19) (μ.1 20) s i = 1 then wrM μ (cl s) (cl (μ.1 20 (cl s))) i v else μ
def copyX (so sz : Nat → Int32) (s i o j n : Int32) : Int32 := if inF s 0 3 && inF o 0 3 then (if so (cl s) = -1 then -11 else if so (cl o) = -1 then -11 else if so (cl s) = so (cl o) then (if runF i n (sz (cl s)) && runF j n (sz (cl o)) then n else -12) else -13) else -2
def copyM (μ : PM) (s i o j n : Int32) : PM := if copyX (μ.1 19) (μ.1 20) s i o j n < 0 then μ else sr μ 21 (va_cpy (μ.1 21) (μ.1 21) (40 * cl s + cl i) (40 * cl o + cl j) (cl n))
theorem run_of {i n : Int32} {z : Nat} (hz : z ≤ 40) (h : runF i n (nI z) = true) : ∃ a c, i = nI a ∧ n = nI c ∧ a + c ≤ z := by
  unfold runF at h
  simp only [Bool.and_eq_true, decide_eq_true_eq] at h
  obtain ⟨⟨⟨h1, h2⟩, h3⟩, h4⟩ := h
  obtain ⟨a, ha, rfl⟩ := nI_of (Int32.not_lt.mpr h2)
  obtain ⟨c, hc, rfl⟩ := nI_of (Int32.not_lt.mpr h1)
  have e1 : a ≤ z := (nI_leI ha (by omega)).mp h3
  rw [sub_nI e1] at h4
  have e2 : c ≤ z - a := (nI_leI hc (by omega)).mp h4
  exact ⟨a, c, rfl, rfl, by omega⟩
def jnN (n : Nat) (a b : Int32) : Nat := if aJok a b then (if n < 5 then n + 1 else n) else n
theorem jnN_b {n : Nat} {a b : Int32} (h : n ≤ 5) : jnN n a b ≤ 5 := by
  unfold jnN
  split
  · split <;> omega
  · exact h
theorem aJV_1 {V : VW} {n : Nat} {a b : Int32} (h : V 0 1 = nI n) : aJV V n a b 0 1 = nI (jnN n a b) := by
  unfold aJV jnN
  by_cases e : aJok a b = true
  · rw [if_pos e, if_pos e]
    by_cases q : n < 5
    · rw [if_pos q, if_pos q]; rfl
    · rw [if_neg q, if_neg q]; exact h
  · rw [if_neg e, if_neg e]; exact h
def jbL (ce : Nat → Int32) (s z : Nat) : Nat → Int32 → VW → Nat → Nat → Int32 × VW
  | 0, _, V, _, c => (nI c, V)
  | m + 1, pl, V, n, c => if runF pl 2 (nI z) then jbL ce s z m (pl + 2) (aJV V n (numF ce s z pl) (numF ce s z (pl + 1))) (jnN n (numF ce s z pl) (numF ce s z (pl + 1))) (if aJx n (numF ce s z pl) (numF ce s z (pl + 1)) < 0 then c else c + 1) else (-12, V)
def jbF (V : VW) (so sz ce : Nat → Int32) (nj : Nat) (s sort pl n : Int32) : Int32 × VW := if inF s 0 3 && (inF sort 0 2 && inF n 0 5) then (if so (cl s) = -1 then (-11, V) else if so (cl s) = sort then jbL ce (cl s) (cl (sz (cl s))) (cl n) pl V nj 0 else (-13, V)) else (-2, V)
def tkJ (V : VW) (j kind : Int32) : Int32 := if jkF V j then (if isOneF (V 1 (cl j)) kind then j else -13) else -11
def tkH (V : VW) (h kind : Int32) : Int32 := if hrF V h then (if kind = 6 then V 5 (cl h) else -13) else -11
def takF (V : VW) (i kind : Int32) : Int32 := if inF kind 0 6 then (if inF i 0 10 then (if 5 ≤ i then tkH V (i - 5) kind else tkJ V i kind) else -12) else -2
def filmM (B : BK) (μ : PM) (V : VW) (s h nj : Nat) : Nat → PM
  | 0 => renM μ s 0 (nI nj)
  | m + 1 => wrM (filmM B μ V s h nj m) s nj (nI m) (yF B V m h)
def filmX (V : VW) (s h : Int32) : Int32 := if inF s 0 3 then (if hrF V h then V 0 1 else -6) else -2
def filmS (B : BK) (μ : PM) (V : VW) (nj : Nat) (s h : Int32) : PM := if inF s 0 3 then (if hrF V h then filmM B μ V (cl s) (cl h) nj nj else μ) else μ
theorem renM_cm {μ : PM} {V : VW} {nm sk : Nat → Int32} {s : Nat} {so n : Int32} : renM (sc (wr μ 22 V) nm sk) s so n = sc (wr (renM μ s so n) 22 V) nm sk := by
  unfold renM
  rw [si_sc (by decide) (by decide), si_wrO (by omega), si_sc (by decide) (by decide), si_wrO (by omega), sr_sc (by decide) (by decide), sr_wrO (by omega)]
  rfl
theorem wrM_cm {μ : PM} {V : VW} {nm sk : Nat → Int32} {s z : Nat} {i v : Int32} : wrM (sc (wr μ 22 V) nm sk) s z i v = sc (wr (wrM μ s z i v) 22 V) nm sk := by
  unfold wrM
  by_cases h : inF i 0 (nI z - 1) = true
  · rw [if_pos h, if_pos h, si_sc (by decide) (by decide), si_wrO (by omega)]
    rfl
  · rw [if_neg h, if_neg h]
theorem renM_o {μ : PM} {s : Nat} {so n : Int32} {c : Nat} (h1 : c ≠ 19) (h2 : c ≠ 20) (h3 : c ≠ 21) : (renM μ s so n).1 c = μ.1 c := by
  unfold renM
  rw [sr_other _ _ _ h3, si_other _ _ _ _ h2, si_other _ _ _ _ h1]
theorem wrM_o {μ : PM} {s z : Nat} {i v : Int32} {c : Nat} (h : c ≠ 21) : (wrM μ s z i v).1 c = μ.1 c := by
  unfold wrM
  split
  · exact si_other _ _ _ _ h
  · rfl
theorem filmM_o {B : BK} {μ : PM} {V : VW} {s h nj c : Nat} (h1 : c ≠ 19) (h2 : c ≠ 20) (h3 : c ≠ 21) : ∀ m, (filmM B μ V s h nj m).1 c = μ.1 c
  | 0 => renM_o h1 h2 h3
  | m + 1 => by
    show (wrM (filmM B μ V s h nj m) s nj (nI m) (yF B V m h)).1 c = μ.1 c
    rw [wrM_o h3, filmM_o h1 h2 h3 m]
theorem filmM_20 {B : BK} {μ : PM} {V : VW} {s h nj : Nat} : ∀ m, (filmM B μ V s h nj m).1 20 s = nI nj
  | 0 => by
    show (renM μ s 0 (nI nj)).1 20 s = nI nj
    unfold renM
    rw [sr_other _ _ _ (by decide), si_same, upd_s]
  | m + 1 => by
    show (wrM (filmM B μ V s h nj m) s nj (nI m) (yF B V m h)).1 20 s = nI nj
    rw [wrM_o (by decide), filmM_20 m]
theorem okC_f {μ μ2 : PM} {V : VW} (h : okC μ V) (e1 : μ2.1 1 = μ.1 1) (e3 : μ2.1 3 = μ.1 3) : okC μ2 V := by
  obtain ⟨size, t, h1, h2, h3, h4⟩ := h
  exact ⟨size, t, by rw [e1]; exact h1, by rw [e3]; exact h2, h3, h4⟩
theorem bk_f {μ μ2 : PM} (e2 : μ2.1 2 = μ.1 2) (e3 : μ2.1 3 = μ.1 3) : bk μ2 = bk μ := by
  unfold bk
  rw [e2, e3]
set_option maxHeartbeats 4000000 in
set_option maxRecDepth 100000 in
theorem T_X7_sheet {l : Launch} {μ : PM} {s so n : Int32} : CT l SC yX7_sheet cX7_sheet 4 (some .int) 3 [.ref 0, .int s, .int so, .int n] μ (QI fun x m => x = sheetX s so n ∧ m = sheetM μ s so n) := by
  refine CT.of rfl (Nat.le_of_ble_eq_true rfl) ?_
  show PW l SC RX7 cX7_sheet 4 (some .int) 3 _ 0 [(0, .ref 0), (1, .int s), (2, .int so), (3, .int n)] [] μ
  refine pw_iload_n dX7_sheet_0 rfl rfl ?_
  refine pw_cSi dX7_sheet_1 ms_X7_291 T_X7_isSheet rfl rfl (Nat.le_of_ble_eq_true rfl) (by decide) (fun x_1 m_1 h_1 => ?_)
  obtain ⟨rfl, hm_1⟩ := h_1
  rw [hm_1]
  refine pw_if_eq (tgt := 16) dX7_sheet_4 (by decide) (fun c_4 => ?_) (fun c_4 => ?_)
  · skip
    have hb_4 := b2_0 c_4
    refine pw_bipush (v := (-2)) dX7_sheet_16 rfl ?_
    refine pw_iret dX7_sheet_18 rfl ?_
    exact ⟨by unfold sheetX; rw [hb_4]; rfl, by unfold sheetM; rw [hb_4]; rfl⟩
  · skip
    have hb_4 := b2_n c_4
    refine pw_iload_n dX7_sheet_7 rfl rfl ?_
    refine pw_iconst (v := (-1)) dX7_sheet_8 rfl ?_
    refine pw_iconst (v := 2) dX7_sheet_9 rfl ?_
    refine pw_cSi dX7_sheet_10 ms_X7_116 T_X7_within rfl rfl (Nat.le_of_ble_eq_true rfl) (by decide) (fun x_10 m_10 h_10 => ?_)
    obtain ⟨rfl, hm_10⟩ := h_10
    rw [hm_10]
    refine pw_if_ne (tgt := 19) dX7_sheet_13 (by decide) (fun c_13 => ?_) (fun c_13 => ?_)
    · skip
      have hb_13 := b2_n c_13
      obtain ⟨s, hs4, rfl⟩ := is_sh hb_4
      refine pw_iload_n dX7_sheet_19 rfl rfl ?_
      refine pw_iconst (v := (-1)) dX7_sheet_20 rfl ?_
      refine pw_icmp_ne (tgt := 36) dX7_sheet_21 (by decide) (fun c_21 => ?_) (fun c_21 => ?_)
      · skip
        refine pw_iload_n dX7_sheet_36 rfl rfl ?_
        refine pw_bipush (v := 40) dX7_sheet_37 rfl ?_
        refine pw_icmp_le (tgt := 45) dX7_sheet_39 (by decide) (fun c_39 => ?_) (fun c_39 => ?_)
        · skip
          refine pw_iload_n dX7_sheet_45 rfl rfl ?_
          refine pw_if_ge (tgt := 52) dX7_sheet_46 (by decide) (fun c_46 => ?_) (fun c_46 => ?_)
          · skip
            refine pw_aload_n dX7_sheet_52 rfl rfl ?_
            refine pw_getR dX7_sheet_53 fa_X7_61 rfl ?_
            refine pw_iload_n dX7_sheet_56 rfl rfl ?_
            refine pw_iload_n dX7_sheet_57 rfl rfl ?_
            refine pw_iload_n dX7_sheet_58 rfl rfl ?_
            refine pw_cVv dX7_sheet_59 mv_X7_294 ckSheets (T_X5_renew hs4) rfl rfl (Nat.le_of_ble_eq_true rfl) (by decide) (fun m_59 h_59 => ?_)
            rw [h_59]
            refine pw_iconst (v := 1) dX7_sheet_62 rfl ?_
            refine pw_iret dX7_sheet_63 rfl ?_
            exact ⟨by unfold sheetX; rw [show inF (nI s) 0 3 = true from hb_4, hb_13, if_pos (by rfl), if_neg c_21, if_pos c_39, if_pos c_46], by unfold sheetM; rw [show inF (nI s) 0 3 = true from hb_4, hb_13, if_pos (by rfl), cl_nI (show s < 2 ^ 31 by omega), if_neg c_21, if_pos c_39, if_pos c_46]⟩
          · skip
            refine pw_bipush (v := (-14)) dX7_sheet_49 rfl ?_
            refine pw_iret dX7_sheet_51 rfl ?_
            exact ⟨by unfold sheetX; rw [show inF (nI s) 0 3 = true from hb_4, hb_13, if_pos (by rfl), if_neg c_21, if_pos c_39, if_neg c_46], by unfold sheetM; rw [show inF (nI s) 0 3 = true from hb_4, hb_13, if_pos (by rfl), cl_nI (show s < 2 ^ 31 by omega), if_neg c_21, if_pos c_39, if_neg c_46]⟩
        · skip
          refine pw_bipush (v := (-2)) dX7_sheet_42 rfl ?_
          refine pw_iret dX7_sheet_44 rfl ?_
          exact ⟨by unfold sheetX; rw [show inF (nI s) 0 3 = true from hb_4, hb_13, if_pos (by rfl), if_neg c_21, if_neg c_39], by unfold sheetM; rw [show inF (nI s) 0 3 = true from hb_4, hb_13, if_pos (by rfl), cl_nI (show s < 2 ^ 31 by omega), if_neg c_21, if_neg c_39]⟩
      · skip
        refine pw_aload_n dX7_sheet_24 rfl rfl ?_
        refine pw_getR dX7_sheet_25 fa_X7_61 rfl ?_
        refine pw_iload_n dX7_sheet_28 rfl rfl ?_
        refine pw_iload_n dX7_sheet_29 rfl rfl ?_
        refine pw_iconst (v := 0) dX7_sheet_30 rfl ?_
        refine pw_cVv dX7_sheet_31 mv_X7_294 ckSheets (T_X5_renew hs4) rfl rfl (Nat.le_of_ble_eq_true rfl) (by decide) (fun m_31 h_31 => ?_)
        rw [h_31]
        refine pw_iconst (v := 1) dX7_sheet_34 rfl ?_
        refine pw_iret dX7_sheet_35 rfl ?_
        exact ⟨by unfold sheetX; rw [show inF (nI s) 0 3 = true from hb_4, hb_13, if_pos (by rfl), if_pos c_21], by unfold sheetM; rw [show inF (nI s) 0 3 = true from hb_4, hb_13, if_pos (by rfl), cl_nI (show s < 2 ^ 31 by omega), if_pos c_21]⟩
    · skip
      have hb_13 := b2_0 c_13
      refine pw_bipush (v := (-2)) dX7_sheet_16 rfl ?_
      refine pw_iret dX7_sheet_18 rfl ?_
      exact ⟨by unfold sheetX; rw [hb_4, hb_13]; rfl, by unfold sheetM; rw [hb_4, hb_13]; rfl⟩

set_option maxHeartbeats 4000000 in
set_option maxRecDepth 100000 in
theorem T_X7_cell {l : Launch} {μ : PM} {s i v : Int32} (hsh : shOK μ) : CT l SC yX7_cell cX7_cell 4 (some .int) 4 [.ref 0, .int s, .int i, .int v] μ (QI fun x m => x = cellX (μ.1 19) (μ.1 20) s i ∧ m = cellM μ s i v) := by
  refine CT.of rfl (Nat.le_of_ble_eq_true rfl) ?_
  show PW l SC RX7 cX7_cell 4 (some .int) 4 _ 0 [(0, .ref 0), (1, .int s), (2, .int i), (3, .int v)] [] μ
  refine pw_iload_n dX7_cell_0 rfl rfl ?_
  refine pw_cSi dX7_cell_1 ms_X7_291 T_X7_isSheet rfl rfl (Nat.le_of_ble_eq_true rfl) (by decide) (fun x_1 m_1 h_1 => ?_)
  obtain ⟨rfl, hm_1⟩ := h_1
  rw [hm_1]
  refine pw_if_ne (tgt := 10) dX7_cell_4 (by decide) (fun c_4 => ?_) (fun c_4 => ?_)
  · skip
    have hb_4 := b2_n c_4
    obtain ⟨s, hs4, rfl⟩ := is_sh hb_4
    obtain ⟨z, hz40, hz⟩ := hsh s hs4
    refine pw_aload_n dX7_cell_10 rfl rfl ?_
    refine pw_getR dX7_cell_11 fa_X7_61 rfl ?_
    refine pw_iload_n dX7_cell_14 rfl rfl ?_
    refine pw_cVi dX7_cell_15 mv_X7_300 ckSheets (T_X5_isMissing hs4) rfl rfl (Nat.le_of_ble_eq_true rfl) (by decide) (fun x_15 m_15 h_15 => ?_)
    obtain ⟨rfl, hm_15⟩ := h_15
    rw [hm_15]
    refine pw_if_eq (tgt := 24) dX7_cell_18 (by decide) (fun c_18 => ?_) (fun c_18 => ?_)
    · skip
      have hb_18 := b2_0 c_18
      have hm_18_ : ¬ μ.1 19 s = -1 := of_decide_eq_false (b2_0 c_18)
      refine pw_aload_n dX7_cell_24 rfl rfl ?_
      refine pw_getR dX7_cell_25 fa_X7_61 rfl ?_
      refine pw_iload_n dX7_cell_28 rfl rfl ?_
      refine pw_iload_n dX7_cell_29 rfl rfl ?_
      refine pw_cVi dX7_cell_30 mv_X7_320 ckSheets (T_X5_hasPlace hs4) rfl rfl (Nat.le_of_ble_eq_true rfl) (by decide) (fun x_30 m_30 h_30 => ?_)
      obtain ⟨rfl, hm_30⟩ := h_30
      rw [hm_30]
      refine pw_if_ne (tgt := 39) dX7_cell_33 (by decide) (fun c_33 => ?_) (fun c_33 => ?_)
      · skip
        have hb_33 := b2_n c_33
        refine pw_aload_n dX7_cell_39 rfl rfl ?_
        refine pw_getR dX7_cell_40 fa_X7_61 rfl ?_
        refine pw_iload_n dX7_cell_43 rfl rfl ?_
        refine pw_iload_n dX7_cell_44 rfl rfl ?_
        refine pw_iload_n dX7_cell_45 rfl rfl ?_
        refine pw_cVv dX7_cell_46 mv_X7_297 ckSheets (T_X5_write hs4 hz hz40) rfl rfl (Nat.le_of_ble_eq_true rfl) (by decide) (fun m_46 h_46 => ?_)
        rw [h_46]
        refine pw_iconst (v := 1) dX7_cell_49 rfl ?_
        refine pw_iret dX7_cell_50 rfl ?_
        have e : cellX (μ.1 19) (μ.1 20) (nI s) i = 1 := by unfold cellX; rw [show inF (nI s) 0 3 = true from hb_4, if_pos rfl, cl_nI (show s < 2 ^ 31 by omega), if_neg hm_18_, hb_33, if_pos rfl]
        exact ⟨e.symm, by unfold cellM; rw [e]; rw [if_pos rfl, cl_nI (show s < 2 ^ 31 by omega), hz, cl_nI (show z < 2 ^ 31 by omega)]⟩
      · skip
        have hb_33 := b2_0 c_33
        refine pw_bipush (v := (-12)) dX7_cell_36 rfl ?_
        refine pw_iret dX7_cell_38 rfl ?_
        have e : cellX (μ.1 19) (μ.1 20) (nI s) i = -12 := by unfold cellX; rw [show inF (nI s) 0 3 = true from hb_4, if_pos rfl, cl_nI (show s < 2 ^ 31 by omega), if_neg hm_18_, hb_33, if_neg Bool.false_ne_true]
        exact ⟨e.symm, by unfold cellM; rw [e]; rfl⟩
    · skip
      have hb_18 := b2_n c_18
      have hm_18_ : μ.1 19 s = -1 := of_decide_eq_true (b2_n c_18)
      refine pw_bipush (v := (-11)) dX7_cell_21 rfl ?_
      refine pw_iret dX7_cell_23 rfl ?_
      have e : cellX (μ.1 19) (μ.1 20) (nI s) i = -11 := by unfold cellX; rw [show inF (nI s) 0 3 = true from hb_4, if_pos rfl, cl_nI (show s < 2 ^ 31 by omega), if_pos hm_18_]
      exact ⟨e.symm, by unfold cellM; rw [e]; rfl⟩
  · skip
    have hb_4 := b2_0 c_4
    refine pw_bipush (v := (-2)) dX7_cell_7 rfl ?_
    refine pw_iret dX7_cell_9 rfl ?_
    have e : cellX (μ.1 19) (μ.1 20) s i = -2 := by unfold cellX; rw [hb_4]; rfl
    exact ⟨e.symm, by unfold cellM; rw [e]; rfl⟩

set_option maxHeartbeats 4000000 in
set_option maxRecDepth 100000 in
theorem T_X7_copy {l : Launch} {μ : PM} {s i o j n : Int32} (hsh : shOK μ) : CT l SC yX7_copy cX7_copy 6 (some .int) 4 [.ref 0, .int s, .int i, .int o, .int j, .int n] μ (QI fun x m => x = copyX (μ.1 19) (μ.1 20) s i o j n ∧ m = copyM μ s i o j n) := by
  refine CT.of rfl (Nat.le_of_ble_eq_true rfl) ?_
  show PW l SC RX7 cX7_copy 6 (some .int) 4 _ 0 [(0, .ref 0), (1, .int s), (2, .int i), (3, .int o), (4, .int j), (5, .int n)] [] μ
  refine pw_iload_n dX7_copy_0 rfl rfl ?_
  refine pw_cSi dX7_copy_1 ms_X7_291 T_X7_isSheet rfl rfl (Nat.le_of_ble_eq_true rfl) (by decide) (fun x_1 m_1 h_1 => ?_)
  obtain ⟨rfl, hm_1⟩ := h_1
  rw [hm_1]
  refine pw_if_eq (tgt := 14) dX7_copy_4 (by decide) (fun c_4 => ?_) (fun c_4 => ?_)
  · skip
    have hb_4 := b2_0 c_4
    refine pw_bipush (v := (-2)) dX7_copy_14 rfl ?_
    refine pw_iret dX7_copy_16 rfl ?_
    have e : copyX (μ.1 19) (μ.1 20) s i o j n = -2 := by unfold copyX; rw [hb_4]; rfl
    exact ⟨e.symm, by unfold copyM; rw [e]; rfl⟩
  · skip
    have hb_4 := b2_n c_4
    refine pw_iload_n dX7_copy_7 rfl rfl ?_
    refine pw_cSi dX7_copy_8 ms_X7_291 T_X7_isSheet rfl rfl (Nat.le_of_ble_eq_true rfl) (by decide) (fun x_8 m_8 h_8 => ?_)
    obtain ⟨rfl, hm_8⟩ := h_8
    rw [hm_8]
    refine pw_if_ne (tgt := 17) dX7_copy_11 (by decide) (fun c_11 => ?_) (fun c_11 => ?_)
    · skip
      have hb_11 := b2_n c_11
      obtain ⟨s, hs4, rfl⟩ := is_sh hb_4
      obtain ⟨z, hz40, hz⟩ := hsh s hs4
      obtain ⟨o, ho4, rfl⟩ := is_sh hb_11
      obtain ⟨y, hy40, hy⟩ := hsh o ho4
      refine pw_aload_n dX7_copy_17 rfl rfl ?_
      refine pw_getR dX7_copy_18 fa_X7_61 rfl ?_
      refine pw_iload_n dX7_copy_21 rfl rfl ?_
      refine pw_cVi dX7_copy_22 mv_X7_300 ckSheets (T_X5_isMissing hs4) rfl rfl (Nat.le_of_ble_eq_true rfl) (by decide) (fun x_22 m_22 h_22 => ?_)
      obtain ⟨rfl, hm_22⟩ := h_22
      rw [hm_22]
      refine pw_if_ne (tgt := 39) dX7_copy_25 (by decide) (fun c_25 => ?_) (fun c_25 => ?_)
      · skip
        have hb_25 := b2_n c_25
        have hm_25_ : μ.1 19 s = -1 := of_decide_eq_true (b2_n c_25)
        refine pw_bipush (v := (-11)) dX7_copy_39 rfl ?_
        refine pw_iret dX7_copy_41 rfl ?_
        have e : copyX (μ.1 19) (μ.1 20) (nI s) i (nI o) j n = -11 := by unfold copyX; rw [show inF (nI s) 0 3 = true from hb_4, show inF (nI o) 0 3 = true from hb_11, if_pos (by rfl), cl_nI (show s < 2 ^ 31 by omega), cl_nI (show o < 2 ^ 31 by omega), if_pos hm_25_]
        exact ⟨e.symm, by unfold copyM; rw [e]; rw [if_pos (by decide)]⟩
      · skip
        have hb_25 := b2_0 c_25
        have hm_25_ : ¬ μ.1 19 s = -1 := of_decide_eq_false (b2_0 c_25)
        refine pw_aload_n dX7_copy_28 rfl rfl ?_
        refine pw_getR dX7_copy_29 fa_X7_61 rfl ?_
        refine pw_iload_n dX7_copy_32 rfl rfl ?_
        refine pw_cVi dX7_copy_33 mv_X7_300 ckSheets (T_X5_isMissing ho4) rfl rfl (Nat.le_of_ble_eq_true rfl) (by decide) (fun x_33 m_33 h_33 => ?_)
        obtain ⟨rfl, hm_33⟩ := h_33
        rw [hm_33]
        refine pw_if_eq (tgt := 42) dX7_copy_36 (by decide) (fun c_36 => ?_) (fun c_36 => ?_)
        · skip
          have hb_36 := b2_0 c_36
          have hm_36_ : ¬ μ.1 19 o = -1 := of_decide_eq_false (b2_0 c_36)
          refine pw_aload_n dX7_copy_42 rfl rfl ?_
          refine pw_getR dX7_copy_43 fa_X7_61 rfl ?_
          refine pw_getR dX7_copy_46 fa_X7_323 rfl ?_
          refine pw_iload_n dX7_copy_49 rfl rfl ?_
          refine pw_iald (j := s) dX7_copy_50 rfl rfl (by omega) ?_
          refine pw_top (y := μ.1 19 s) rfl ?_
          refine pw_aload_n dX7_copy_51 rfl rfl ?_
          refine pw_getR dX7_copy_52 fa_X7_61 rfl ?_
          refine pw_getR dX7_copy_55 fa_X7_323 rfl ?_
          refine pw_iload_n dX7_copy_58 rfl rfl ?_
          refine pw_iald (j := o) dX7_copy_59 rfl rfl (by omega) ?_
          refine pw_top (y := μ.1 19 o) rfl ?_
          refine pw_icmp_eq (tgt := 66) dX7_copy_60 (by decide) (fun c_60 => ?_) (fun c_60 => ?_)
          · skip
            refine pw_aload_n dX7_copy_66 rfl rfl ?_
            refine pw_getR dX7_copy_67 fa_X7_61 rfl ?_
            refine pw_iload_n dX7_copy_70 rfl rfl ?_
            refine pw_iload_n dX7_copy_71 rfl rfl ?_
            refine pw_iload dX7_copy_72 rfl ?_
            refine pw_cVi dX7_copy_74 mv_X7_326 ckSheets (T_X5_hasRun hs4) rfl rfl (Nat.le_of_ble_eq_true rfl) (by decide) (fun x_74 m_74 h_74 => ?_)
            obtain ⟨rfl, hm_74⟩ := h_74
            rw [hm_74]
            refine pw_if_eq (tgt := 95) dX7_copy_77 (by decide) (fun c_77 => ?_) (fun c_77 => ?_)
            · skip
              have hb_77 := b2_0 c_77
              refine pw_bipush (v := (-12)) dX7_copy_95 rfl ?_
              refine pw_iret dX7_copy_97 rfl ?_
              have e : copyX (μ.1 19) (μ.1 20) (nI s) i (nI o) j n = -12 := by unfold copyX; rw [show inF (nI s) 0 3 = true from hb_4, show inF (nI o) 0 3 = true from hb_11, if_pos (by rfl), cl_nI (show s < 2 ^ 31 by omega), cl_nI (show o < 2 ^ 31 by omega), if_neg hm_25_, if_neg hm_36_, if_pos c_60, hb_77, Bool.false_and, if_neg Bool.false_ne_true]
              exact ⟨e.symm, by unfold copyM; rw [e]; rw [if_pos (by decide)]⟩
            · skip
              have hb_77 := b2_n c_77
              refine pw_aload_n dX7_copy_80 rfl rfl ?_
              refine pw_getR dX7_copy_81 fa_X7_61 rfl ?_
              refine pw_iload_n dX7_copy_84 rfl rfl ?_
              refine pw_iload dX7_copy_85 rfl ?_
              refine pw_iload dX7_copy_87 rfl ?_
              refine pw_cVi dX7_copy_89 mv_X7_326 ckSheets (T_X5_hasRun ho4) rfl rfl (Nat.le_of_ble_eq_true rfl) (by decide) (fun x_89 m_89 h_89 => ?_)
              obtain ⟨rfl, hm_89⟩ := h_89
              rw [hm_89]
              refine pw_if_ne (tgt := 98) dX7_copy_92 (by decide) (fun c_92 => ?_) (fun c_92 => ?_)
              · skip
                have hb_92 := b2_n c_92
                have hr1 := hb_77
                have hr2 := hb_92
                rw [hz] at hr1
                rw [hy] at hr2
                obtain ⟨a, c, rfl, rfl, hac⟩ := run_of hz40 hr1
                obtain ⟨b, c2, rfl, ec, hbc⟩ := run_of hy40 hr2
                have ec2 : c = c2 := (nI_eq (by omega) (by omega)).mp ec
                subst ec2
                refine pw_aload_n dX7_copy_98 rfl rfl ?_
                refine pw_getR dX7_copy_99 fa_X7_61 rfl ?_
                refine pw_iload_n dX7_copy_102 rfl rfl ?_
                refine pw_iload_n dX7_copy_103 rfl rfl ?_
                refine pw_iload_n dX7_copy_104 rfl rfl ?_
                refine pw_iload dX7_copy_105 rfl ?_
                refine pw_iload dX7_copy_107 rfl ?_
                refine pw_cVv dX7_copy_109 mv_X7_329 ckSheets (T_X5_move (by omega) (by omega)) rfl rfl (Nat.le_of_ble_eq_true rfl) (by decide) (fun m_109 h_109 => ?_)
                rw [h_109]
                refine pw_iload dX7_copy_112 rfl ?_
                refine pw_iret dX7_copy_114 rfl ?_
                have e : copyX (μ.1 19) (μ.1 20) (nI s) (nI a) (nI o) (nI b) (nI c) = nI c := by unfold copyX; rw [show inF (nI s) 0 3 = true from hb_4, show inF (nI o) 0 3 = true from hb_11, if_pos (by rfl), cl_nI (show s < 2 ^ 31 by omega), cl_nI (show o < 2 ^ 31 by omega), if_neg hm_25_, if_neg hm_36_, if_pos c_60, show runF (nI a) (nI c) (μ.1 20 s) = true from hb_77, show runF (nI b) (nI c) (μ.1 20 o) = true from hb_92, Bool.true_and, if_pos rfl]
                exact ⟨e.symm, by unfold copyM; rw [e]; rw [if_neg (nI_pos (by omega)), cl_nI (show s < 2 ^ 31 by omega), cl_nI (show o < 2 ^ 31 by omega), cl_nI (show a < 2 ^ 31 by omega), cl_nI (show b < 2 ^ 31 by omega), cl_nI (show c < 2 ^ 31 by omega)]⟩
              · skip
                have hb_92 := b2_0 c_92
                refine pw_bipush (v := (-12)) dX7_copy_95 rfl ?_
                refine pw_iret dX7_copy_97 rfl ?_
                have e : copyX (μ.1 19) (μ.1 20) (nI s) i (nI o) j n = -12 := by unfold copyX; rw [show inF (nI s) 0 3 = true from hb_4, show inF (nI o) 0 3 = true from hb_11, if_pos (by rfl), cl_nI (show s < 2 ^ 31 by omega), cl_nI (show o < 2 ^ 31 by omega), if_neg hm_25_, if_neg hm_36_, if_pos c_60, hb_77, hb_92, Bool.true_and, if_neg Bool.false_ne_true]
                exact ⟨e.symm, by unfold copyM; rw [e]; rw [if_pos (by decide)]⟩
          · skip
            refine pw_bipush (v := (-13)) dX7_copy_63 rfl ?_
            refine pw_iret dX7_copy_65 rfl ?_
            have e : copyX (μ.1 19) (μ.1 20) (nI s) i (nI o) j n = -13 := by unfold copyX; rw [show inF (nI s) 0 3 = true from hb_4, show inF (nI o) 0 3 = true from hb_11, if_pos (by rfl), cl_nI (show s < 2 ^ 31 by omega), cl_nI (show o < 2 ^ 31 by omega), if_neg hm_25_, if_neg hm_36_, if_neg c_60]
            exact ⟨e.symm, by unfold copyM; rw [e]; rw [if_pos (by decide)]⟩
        · skip
          have hb_36 := b2_n c_36
          have hm_36_ : μ.1 19 o = -1 := of_decide_eq_true (b2_n c_36)
          refine pw_bipush (v := (-11)) dX7_copy_39 rfl ?_
          refine pw_iret dX7_copy_41 rfl ?_
          have e : copyX (μ.1 19) (μ.1 20) (nI s) i (nI o) j n = -11 := by unfold copyX; rw [show inF (nI s) 0 3 = true from hb_4, show inF (nI o) 0 3 = true from hb_11, if_pos (by rfl), cl_nI (show s < 2 ^ 31 by omega), cl_nI (show o < 2 ^ 31 by omega), if_neg hm_25_, if_pos hm_36_]
          exact ⟨e.symm, by unfold copyM; rw [e]; rw [if_pos (by decide)]⟩
    · skip
      have hb_11 := b2_0 c_11
      refine pw_bipush (v := (-2)) dX7_copy_14 rfl ?_
      refine pw_iret dX7_copy_16 rfl ?_
      have e : copyX (μ.1 19) (μ.1 20) s i o j n = -2 := by unfold copyX; rw [hb_4, hb_11]; rfl
      exact ⟨e.symm, by unfold copyM; rw [e]; rfl⟩

set_option maxHeartbeats 4000000 in
set_option maxRecDepth 100000 in
theorem T_X7_takenJoke {l : Launch} {μ : PM} {V : VW} {nm sk : Nat → Int32} {nj : Nat} {j k0 : Int32} (h1 : V 0 1 = nI nj) (hj5 : nj ≤ 5) : CT l SC yX7_takenJoke cX7_takenJoke 3 (some .int) 3 [.ref 0, .int j, .int k0] (sc (wr μ 22 V) nm sk) (QI fun x m => x = tkJ V j k0 ∧ m = sc (wr μ 22 V) nm sk) := by
  refine CT.of rfl (Nat.le_of_ble_eq_true rfl) ?_
  show PW l SC RX7 cX7_takenJoke 3 (some .int) 3 _ 0 [(0, .ref 0), (1, .int j), (2, .int k0)] [] (sc (wr μ 22 V) nm sk)
  have hw : isW 22 := Or.inl rfl
  refine pw_aload_n dX7_takenJoke_0 rfl rfl ?_
  refine pw_getR dX7_takenJoke_1 fa_X7_28 rfl ?_
  refine pw_iload_n dX7_takenJoke_4 rfl rfl ?_
  refine pw_cVi dX7_takenJoke_5 mv_X7_138 ckNow (T_X6_hasJoke hw) rfl rfl (Nat.le_of_ble_eq_true rfl) (by decide) (fun x_5 m_5 h_5 => ?_)
  obtain ⟨rfl, rfl⟩ := h_5
  refine pw_if_ne (tgt := 14) dX7_takenJoke_8 (by decide) (fun c_8 => ?_) (fun c_8 => ?_)
  · skip
    have hb_8 := b2_n c_8
    obtain ⟨j, hlj, hsj, rfl⟩ := jk_of h1 hj5 hb_8
    refine pw_aload_n dX7_takenJoke_14 rfl rfl ?_
    refine pw_getR dX7_takenJoke_15 fa_X7_28 rfl ?_
    refine pw_getR dX7_takenJoke_18 fa_X7_141 rfl ?_
    refine pw_iload_n dX7_takenJoke_21 rfl rfl ?_
    refine pw_iald (j := j) dX7_takenJoke_22 rfl rfl hsj ?_
    refine pw_top (y := V 1 j) (by rw [rdw (w := 22) (r := 1) hw (by decide)] <;> rfl) ?_
    refine pw_iload_n dX7_takenJoke_23 rfl rfl ?_
    refine pw_cSi dX7_takenJoke_24 ms_X7_339 T_X0_isOne rfl rfl (Nat.le_of_ble_eq_true rfl) (by decide) (fun x_24 m_24 h_24 => ?_)
    obtain ⟨rfl, rfl⟩ := h_24
    refine pw_if_eq (tgt := 34) dX7_takenJoke_27 (by decide) (fun c_27 => ?_) (fun c_27 => ?_)
    · skip
      have hb_27 := b2_0 c_27
      refine pw_bipush (v := (-13)) dX7_takenJoke_34 rfl ?_
      refine pw_iret dX7_takenJoke_36 rfl ?_
      exact ⟨by unfold tkJ jkF; rw [hb_8, if_pos rfl, cl_nI (by omega), hb_27]; rfl, rfl⟩
    · skip
      have hb_27 := b2_n c_27
      refine pw_iload_n dX7_takenJoke_30 rfl rfl ?_
      refine pw_goto (tgt := 36) dX7_takenJoke_31 (by decide) ?_
      refine pw_iret dX7_takenJoke_36 rfl ?_
      exact ⟨by unfold tkJ jkF; rw [hb_8, if_pos rfl, cl_nI (by omega), hb_27]; rfl, rfl⟩
  · skip
    have hb_8 := b2_0 c_8
    refine pw_bipush (v := (-11)) dX7_takenJoke_11 rfl ?_
    refine pw_iret dX7_takenJoke_13 rfl ?_
    exact ⟨by unfold tkJ jkF; rw [hb_8]; rfl, rfl⟩

set_option maxHeartbeats 4000000 in
set_option maxRecDepth 100000 in
theorem T_X7_takenHearer {l : Launch} {μ : PM} {V : VW} {nm sk : Nat → Int32} {nh : Nat} {h k0 : Int32} (h5 : V 0 5 = nI nh) (hh6 : nh ≤ 6) : CT l SC yX7_takenHearer cX7_takenHearer 3 (some .int) 3 [.ref 0, .int h, .int k0] (sc (wr μ 22 V) nm sk) (QI fun x m => x = tkH V h k0 ∧ m = sc (wr μ 22 V) nm sk) := by
  refine CT.of rfl (Nat.le_of_ble_eq_true rfl) ?_
  show PW l SC RX7 cX7_takenHearer 3 (some .int) 3 _ 0 [(0, .ref 0), (1, .int h), (2, .int k0)] [] (sc (wr μ 22 V) nm sk)
  have hw : isW 22 := Or.inl rfl
  refine pw_aload_n dX7_takenHearer_0 rfl rfl ?_
  refine pw_getR dX7_takenHearer_1 fa_X7_28 rfl ?_
  refine pw_iload_n dX7_takenHearer_4 rfl rfl ?_
  refine pw_cVi dX7_takenHearer_5 mv_X7_127 ckNow (T_X6_hasHearer hw) rfl rfl (Nat.le_of_ble_eq_true rfl) (by decide) (fun x_5 m_5 h_5 => ?_)
  obtain ⟨rfl, rfl⟩ := h_5
  refine pw_if_ne (tgt := 14) dX7_takenHearer_8 (by decide) (fun c_8 => ?_) (fun c_8 => ?_)
  · skip
    have hb_8 := b2_n c_8
    obtain ⟨h, hlh, hsh, rfl⟩ := hr_of h5 hh6 hb_8
    refine pw_iload_n dX7_takenHearer_14 rfl rfl ?_
    refine pw_bipush (v := 6) dX7_takenHearer_15 rfl ?_
    refine pw_icmp_ne (tgt := 32) dX7_takenHearer_17 (by decide) (fun c_17 => ?_) (fun c_17 => ?_)
    · skip
      refine pw_bipush (v := (-13)) dX7_takenHearer_32 rfl ?_
      refine pw_iret dX7_takenHearer_34 rfl ?_
      exact ⟨by unfold tkH hrF; rw [hb_8, if_pos rfl, if_neg c_17], rfl⟩
    · skip
      refine pw_aload_n dX7_takenHearer_20 rfl rfl ?_
      refine pw_getR dX7_takenHearer_21 fa_X7_28 rfl ?_
      refine pw_getR dX7_takenHearer_24 fa_X7_187 rfl ?_
      refine pw_iload_n dX7_takenHearer_27 rfl rfl ?_
      refine pw_iald (j := h) dX7_takenHearer_28 rfl rfl hsh ?_
      refine pw_top (y := V 5 h) (by rw [rdw (w := 22) (r := 5) hw (by decide)] <;> rfl) ?_
      refine pw_goto (tgt := 34) dX7_takenHearer_29 (by decide) ?_
      refine pw_iret dX7_takenHearer_34 rfl ?_
      exact ⟨by unfold tkH hrF; rw [hb_8, if_pos rfl, if_pos c_17, cl_nI (by omega)], rfl⟩
  · skip
    have hb_8 := b2_0 c_8
    refine pw_bipush (v := (-11)) dX7_takenHearer_11 rfl ?_
    refine pw_iret dX7_takenHearer_13 rfl ?_
    exact ⟨by unfold tkH hrF; rw [hb_8]; rfl, rfl⟩

set_option maxHeartbeats 4000000 in
set_option maxRecDepth 100000 in
theorem T_X7_taken {l : Launch} {μ : PM} {V : VW} {nm sk : Nat → Int32} {nj nh : Nat} {i k0 : Int32} (h1 : V 0 1 = nI nj) (hj5 : nj ≤ 5) (h5 : V 0 5 = nI nh) (hh6 : nh ≤ 6) : CT l SC yX7_taken cX7_taken 3 (some .int) 4 [.ref 0, .int i, .int k0] (sc (wr μ 22 V) nm sk) (QI fun x m => x = takF V i k0 ∧ m = sc (wr μ 22 V) nm sk) := by
  refine CT.of rfl (Nat.le_of_ble_eq_true rfl) ?_
  show PW l SC RX7 cX7_taken 3 (some .int) 4 _ 0 [(0, .ref 0), (1, .int i), (2, .int k0)] [] (sc (wr μ 22 V) nm sk)
  have hw : isW 22 := Or.inl rfl
  refine pw_iload_n dX7_taken_0 rfl rfl ?_
  refine pw_iconst (v := 0) dX7_taken_1 rfl ?_
  refine pw_bipush (v := 6) dX7_taken_2 rfl ?_
  refine pw_cSi dX7_taken_4 ms_X7_116 T_X7_within rfl rfl (Nat.le_of_ble_eq_true rfl) (by decide) (fun x_4 m_4 h_4 => ?_)
  obtain ⟨rfl, rfl⟩ := h_4
  refine pw_if_ne (tgt := 13) dX7_taken_7 (by decide) (fun c_7 => ?_) (fun c_7 => ?_)
  · skip
    have hb_7 := b2_n c_7
    refine pw_iload_n dX7_taken_13 rfl rfl ?_
    refine pw_iconst (v := 0) dX7_taken_14 rfl ?_
    refine pw_bipush (v := 10) dX7_taken_15 rfl ?_
    refine pw_cSi dX7_taken_17 ms_X7_116 T_X7_within rfl rfl (Nat.le_of_ble_eq_true rfl) (by decide) (fun x_17 m_17 h_17 => ?_)
    obtain ⟨rfl, rfl⟩ := h_17
    refine pw_if_ne (tgt := 26) dX7_taken_20 (by decide) (fun c_20 => ?_) (fun c_20 => ?_)
    · skip
      have hb_20 := b2_n c_20
      refine pw_iload_n dX7_taken_26 rfl rfl ?_
      refine pw_iconst (v := 5) dX7_taken_27 rfl ?_
      refine pw_icmp_ge (tgt := 40) dX7_taken_28 (by decide) (fun c_28 => ?_) (fun c_28 => ?_)
      · skip
        refine pw_aload_n dX7_taken_40 rfl rfl ?_
        refine pw_iload_n dX7_taken_41 rfl rfl ?_
        refine pw_iconst (v := 5) dX7_taken_42 rfl ?_
        refine pw_isub dX7_taken_43 ?_
        refine pw_iload_n dX7_taken_44 rfl rfl ?_
        refine pw_cVi dX7_taken_45 mv_X7_336 ckMain (T_X7_takenHearer h5 hh6) rfl rfl (Nat.le_of_ble_eq_true rfl) (by decide) (fun x_45 m_45 h_45 => ?_)
        obtain ⟨rfl, rfl⟩ := h_45
        refine pw_iret dX7_taken_48 rfl ?_
        exact ⟨by unfold takF; rw [hb_7, hb_20, if_pos rfl, if_pos rfl, if_pos c_28], rfl⟩
      · skip
        refine pw_aload_n dX7_taken_31 rfl rfl ?_
        refine pw_iload_n dX7_taken_32 rfl rfl ?_
        refine pw_iload_n dX7_taken_33 rfl rfl ?_
        refine pw_cVi dX7_taken_34 mv_X7_333 ckMain (T_X7_takenJoke h1 hj5) rfl rfl (Nat.le_of_ble_eq_true rfl) (by decide) (fun x_34 m_34 h_34 => ?_)
        obtain ⟨rfl, rfl⟩ := h_34
        refine pw_goto (tgt := 48) dX7_taken_37 (by decide) ?_
        refine pw_iret dX7_taken_48 rfl ?_
        exact ⟨by unfold takF; rw [hb_7, hb_20, if_pos rfl, if_pos rfl, if_neg c_28], rfl⟩
    · skip
      have hb_20 := b2_0 c_20
      refine pw_bipush (v := (-12)) dX7_taken_23 rfl ?_
      refine pw_iret dX7_taken_25 rfl ?_
      exact ⟨by unfold takF; rw [hb_7, hb_20]; rfl, rfl⟩
  · skip
    have hb_7 := b2_0 c_7
    refine pw_bipush (v := (-2)) dX7_taken_10 rfl ?_
    refine pw_iret dX7_taken_12 rfl ?_
    exact ⟨by unfold takF; rw [hb_7]; rfl, rfl⟩

set_option maxHeartbeats 4000000 in
set_option maxRecDepth 100000 in
theorem T_X7_film {l : Launch} {μ : PM} {V : VW} {nm sk : Nat → Int32} {nj nh : Nat} {s h : Int32} (hc : okC μ V) (h1 : V 0 1 = nI nj) (hj5 : nj ≤ 5) (h5 : V 0 5 = nI nh) (hh6 : nh ≤ 6) : CT l SC yX7_film cX7_film 4 (some .int) 6 [.ref 0, .int s, .int h] (sc (wr μ 22 V) nm sk) (QI fun x m => x = filmX V s h ∧ ∃ nm2 sk2, m = sc (wr (filmS (bk μ) μ V nj s h) 22 V) nm2 sk2) := by
  refine CT.of rfl (Nat.le_of_ble_eq_true rfl) ?_
  show PW l SC RX7 cX7_film 4 (some .int) 6 _ 0 [(0, .ref 0), (1, .int s), (2, .int h)] [] (sc (wr μ 22 V) nm sk)
  have hw : isW 22 := Or.inl rfl
  refine pw_iload_n dX7_film_0 rfl rfl ?_
  refine pw_cSi dX7_film_1 ms_X7_291 T_X7_isSheet rfl rfl (Nat.le_of_ble_eq_true rfl) (by decide) (fun x_1 m_1 h_1 => ?_)
  obtain ⟨rfl, rfl⟩ := h_1
  refine pw_if_ne (tgt := 10) dX7_film_4 (by decide) (fun c_4 => ?_) (fun c_4 => ?_)
  · skip
    have hb_4 := b2_n c_4
    refine pw_aload_n dX7_film_10 rfl rfl ?_
    refine pw_getR dX7_film_11 fa_X7_28 rfl ?_
    refine pw_iload_n dX7_film_14 rfl rfl ?_
    refine pw_cVi dX7_film_15 mv_X7_127 ckNow (T_X6_hasHearer hw) rfl rfl (Nat.le_of_ble_eq_true rfl) (by decide) (fun x_15 m_15 h_15 => ?_)
    obtain ⟨rfl, rfl⟩ := h_15
    refine pw_if_ne (tgt := 24) dX7_film_18 (by decide) (fun c_18 => ?_) (fun c_18 => ?_)
    · skip
      have hb_18 := b2_n c_18
      obtain ⟨s, hs4, rfl⟩ := is_sh hb_4
      obtain ⟨h, hlh, hsh, rfl⟩ := hr_of h5 hh6 hb_18
      refine pw_aload_n dX7_film_24 rfl rfl ?_
      refine pw_getR dX7_film_25 fa_X7_61 rfl ?_
      refine pw_iload_n dX7_film_28 rfl rfl ?_
      refine pw_iconst (v := 0) dX7_film_29 rfl ?_
      refine pw_aload_n dX7_film_30 rfl rfl ?_
      refine pw_getR dX7_film_31 fa_X7_28 rfl ?_
      refine pw_getI dX7_film_34 fa_X7_99 rfl ?_
      refine pw_top (y := nI nj) (by rw [rdw0 hw]; exact h1) ?_
      refine pw_cVv dX7_film_37 mv_X7_294 ckSheets (T_X5_renew hs4) rfl rfl (Nat.le_of_ble_eq_true rfl) (by decide) (fun m_37 h_37 => ?_)
      obtain rfl := h_37
      rw [renM_cm]
      refine pw_iconst (v := 0) dX7_film_40 rfl ?_
      refine pw_istore_n (ls2 := [(3, _), (0, _), (1, _), (2, _)]) dX7_film_41 rfl (by decide) rfl ?_
      have L_42 : ∀ (fu_42 : Nat) (i : Nat) (nm sk : Nat → Int32), (i ≤ nj) → nj - i < fu_42 → PW l SC RX7 cX7_film 4 (some .int) 6 (QI fun x m => x = filmX V (nI s) (nI h) ∧ ∃ nm2 sk2, m = sc (wr (filmS (bk μ) μ V nj (nI s) (nI h)) 22 V) nm2 sk2) 42 [(0, .ref 0), (1, .int (nI s)), (2, .int (nI h)), (3, .int (nI i))] [] (sc (wr (filmM (bk μ) μ V s h nj i) 22 V) nm sk) := by
        intro fu_42
        induction fu_42 with
        | zero =>
          intro i nm sk hi hm_42
          exact absurd hm_42 (Nat.not_lt_zero _)
        | succ fu_42 ih_42 =>
          intro i nm sk hi hm_42
          refine pw_iload_n dX7_film_42 rfl rfl ?_
          refine pw_aload_n dX7_film_43 rfl rfl ?_
          refine pw_getR dX7_film_44 fa_X7_28 rfl ?_
          refine pw_getI dX7_film_47 fa_X7_99 rfl ?_
          refine pw_top (y := nI nj) (by rw [rdw0 hw]; exact h1) ?_
          refine pw_icmp_ge (tgt := 77) dX7_film_50 (by decide) (fun c_50 => ?_) (fun c_50 => ?_)
          · skip
            have hge := nI_geD (by omega) c_50
            refine pw_aload_n dX7_film_77 rfl rfl ?_
            refine pw_getR dX7_film_78 fa_X7_28 rfl ?_
            refine pw_getI dX7_film_81 fa_X7_99 rfl ?_
            refine pw_top (y := V 0 1) (by rw [rdw0 hw] <;> rfl) ?_
            refine pw_iret dX7_film_84 rfl ?_
            have ei : i = nj := by omega
            subst ei
            exact ⟨by unfold filmX hrF; rw [show inF (nI s) 0 3 = true from hb_4, hb_18]; rfl, nm, sk, by unfold filmS hrF; rw [show inF (nI s) 0 3 = true from hb_4, hb_18, if_pos rfl, if_pos rfl, cl_nI (show s < 2 ^ 31 by omega), cl_nI (show h < 2 ^ 31 by omega)]⟩
          · skip
            have hlt := nI_ltD (by omega) c_50
            refine pw_aload_n dX7_film_53 rfl rfl ?_
            refine pw_getR dX7_film_54 fa_X7_61 rfl ?_
            refine pw_iload_n dX7_film_57 rfl rfl ?_
            refine pw_iload_n dX7_film_58 rfl rfl ?_
            refine pw_aload_n dX7_film_59 rfl rfl ?_
            refine pw_getR dX7_film_60 fa_X7_28 rfl ?_
            refine pw_iload_n dX7_film_63 rfl rfl ?_
            refine pw_iload_n dX7_film_64 rfl rfl ?_
            refine pw_cVi dX7_film_65 mv_X7_181 ckNow (T_X6_worth (j := i) (h := h) hw (okC_f hc (filmM_o (by decide) (by decide) (by decide) i) (filmM_o (by decide) (by decide) (by decide) i)) (by omega) hsh) rfl rfl (Nat.le_of_ble_eq_true rfl) (by decide) (fun x_65 m_65 h_65 => ?_)
            obtain ⟨rfl, nm1, sk1, rfl⟩ := h_65
            rw [bk_f (filmM_o (by decide) (by decide) (by decide) i) (filmM_o (by decide) (by decide) (by decide) i)]
            refine pw_cVv dX7_film_68 mv_X7_297 ckSheets (T_X5_write (s := s) (sz := nj) hs4 (by rw [rd_sc (by decide) (by decide), rd_wrO (by omega)]; exact filmM_20 i) (by omega)) rfl rfl (Nat.le_of_ble_eq_true rfl) (by decide) (fun m_68 h_68 => ?_)
            obtain rfl := h_68
            rw [wrM_cm]
            refine pw_iinc (ls2 := [(3, _), (0, _), (1, _), (2, _)]) (v := nI (i + 1)) dX7_film_71 rfl (inc1 i) (by decide) rfl ?_
            refine pw_goto (tgt := 42) dX7_film_74 (by decide) ?_
            refine pw_sub [1, 2, 3, 0] rfl ?_
            exact ih_42 (i + 1) nm1 sk1 hlt (by omega)
      refine pw_sub [1, 2, 3, 0] rfl ?_
      exact L_42 (nj + 1) 0 nm sk (Nat.zero_le _) (by omega)
    · skip
      have hb_18 := b2_0 c_18
      refine pw_bipush (v := (-6)) dX7_film_21 rfl ?_
      refine pw_iret dX7_film_23 rfl ?_
      exact ⟨by unfold filmX hrF; rw [hb_4, hb_18]; rfl, nm, sk, by unfold filmS hrF; rw [hb_4, hb_18]; rfl⟩
  · skip
    have hb_4 := b2_0 c_4
    refine pw_bipush (v := (-2)) dX7_film_7 rfl ?_
    refine pw_iret dX7_film_9 rfl ?_
    exact ⟨by unfold filmX; rw [hb_4]; rfl, nm, sk, by unfold filmS; rw [hb_4]; rfl⟩

set_option maxHeartbeats 4000000 in
set_option maxRecDepth 100000 in
theorem T_X7_jokesBy {l : Launch} {μ : PM} {V : VW} {nm sk : Nat → Int32} {nj : Nat} {s so pl n : Int32} (h1 : V 0 1 = nI nj) (hj5 : nj ≤ 5) (hsh : shOK μ) : CT l SC yX7_jokesBy cX7_jokesBy 8 (some .int) 4 [.ref 0, .int s, .int so, .int pl, .int n] (sc (wr μ 22 V) nm sk) (QI fun x m => x = (jbF V (μ.1 19) (μ.1 20) (μ.1 21) nj s so pl n).1 ∧ m = sc (wr μ 22 (jbF V (μ.1 19) (μ.1 20) (μ.1 21) nj s so pl n).2) nm sk) := by
  refine CT.of rfl (Nat.le_of_ble_eq_true rfl) ?_
  show PW l SC RX7 cX7_jokesBy 8 (some .int) 4 _ 0 [(0, .ref 0), (1, .int s), (2, .int so), (3, .int pl), (4, .int n)] [] (sc (wr μ 22 V) nm sk)
  have hw : isW 22 := Or.inl rfl
  refine pw_iload_n dX7_jokesBy_0 rfl rfl ?_
  refine pw_cSi dX7_jokesBy_1 ms_X7_291 T_X7_isSheet rfl rfl (Nat.le_of_ble_eq_true rfl) (by decide) (fun x_1 m_1 h_1 => ?_)
  obtain ⟨rfl, rfl⟩ := h_1
  refine pw_if_eq (tgt := 26) dX7_jokesBy_4 (by decide) (fun c_4 => ?_) (fun c_4 => ?_)
  · skip
    have hb_4 := b2_0 c_4
    refine pw_bipush (v := (-2)) dX7_jokesBy_26 rfl ?_
    refine pw_iret dX7_jokesBy_28 rfl ?_
    exact ⟨by unfold jbF; rw [hb_4]; rfl, by unfold jbF; rw [hb_4]; rfl⟩
  · skip
    have hb_4 := b2_n c_4
    refine pw_iload_n dX7_jokesBy_7 rfl rfl ?_
    refine pw_iconst (v := 0) dX7_jokesBy_8 rfl ?_
    refine pw_iconst (v := 2) dX7_jokesBy_9 rfl ?_
    refine pw_cSi dX7_jokesBy_10 ms_X7_116 T_X7_within rfl rfl (Nat.le_of_ble_eq_true rfl) (by decide) (fun x_10 m_10 h_10 => ?_)
    obtain ⟨rfl, rfl⟩ := h_10
    refine pw_if_eq (tgt := 26) dX7_jokesBy_13 (by decide) (fun c_13 => ?_) (fun c_13 => ?_)
    · skip
      have hb_13 := b2_0 c_13
      refine pw_bipush (v := (-2)) dX7_jokesBy_26 rfl ?_
      refine pw_iret dX7_jokesBy_28 rfl ?_
      exact ⟨by unfold jbF; rw [hb_4, hb_13]; rfl, by unfold jbF; rw [hb_4, hb_13]; rfl⟩
    · skip
      have hb_13 := b2_n c_13
      refine pw_iload dX7_jokesBy_16 rfl ?_
      refine pw_iconst (v := 0) dX7_jokesBy_18 rfl ?_
      refine pw_iconst (v := 5) dX7_jokesBy_19 rfl ?_
      refine pw_cSi dX7_jokesBy_20 ms_X7_116 T_X7_within rfl rfl (Nat.le_of_ble_eq_true rfl) (by decide) (fun x_20 m_20 h_20 => ?_)
      obtain ⟨rfl, rfl⟩ := h_20
      refine pw_if_ne (tgt := 29) dX7_jokesBy_23 (by decide) (fun c_23 => ?_) (fun c_23 => ?_)
      · skip
        have hb_23 := b2_n c_23
        obtain ⟨s, hs4, rfl⟩ := is_sh hb_4
        obtain ⟨z, hz40, hz⟩ := hsh s hs4
        obtain ⟨n, hn5, rfl⟩ := in_trueL (n := 5) hb_23 (by decide)
        have e1 : inF (nI s) 0 3 = true := hb_4
        have e3 : inF (nI n) 0 5 = true := hb_23
        refine pw_aload_n dX7_jokesBy_29 rfl rfl ?_
        refine pw_getR dX7_jokesBy_30 fa_X7_61 rfl ?_
        refine pw_iload_n dX7_jokesBy_33 rfl rfl ?_
        refine pw_cVi dX7_jokesBy_34 mv_X7_300 ckSheets (T_X5_isMissing hs4) rfl rfl (Nat.le_of_ble_eq_true rfl) (by decide) (fun x_34 m_34 h_34 => ?_)
        obtain ⟨rfl, rfl⟩ := h_34
        refine pw_if_eq (tgt := 43) dX7_jokesBy_37 (by decide) (fun c_37 => ?_) (fun c_37 => ?_)
        · skip
          have hb_37 := b2_0 c_37
          have hm_37_ : ¬ μ.1 19 s = -1 := of_decide_eq_false (b2_0 c_37)
          refine pw_aload_n dX7_jokesBy_43 rfl rfl ?_
          refine pw_getR dX7_jokesBy_44 fa_X7_61 rfl ?_
          refine pw_getR dX7_jokesBy_47 fa_X7_323 rfl ?_
          refine pw_iload_n dX7_jokesBy_50 rfl rfl ?_
          refine pw_iald (j := s) dX7_jokesBy_51 rfl rfl (by omega) ?_
          refine pw_top (y := μ.1 19 s) rfl ?_
          refine pw_iload_n dX7_jokesBy_52 rfl rfl ?_
          refine pw_icmp_eq (tgt := 59) dX7_jokesBy_53 (by decide) (fun c_53 => ?_) (fun c_53 => ?_)
          · skip
            have hjb : jbF V (μ.1 19) (μ.1 20) (μ.1 21) nj (nI s) so pl (nI n) = jbL (μ.1 21) s z n pl V nj 0 := by
              unfold jbF
              rw [e1, hb_13, e3, if_pos (by rfl), cl_nI (show s < 2 ^ 31 by omega), if_neg hm_37_, if_pos c_53, hz, cl_nI (show z < 2 ^ 31 by omega), cl_nI (show n < 2 ^ 31 by omega)]
            refine pw_iconst (v := 0) dX7_jokesBy_59 rfl ?_
            refine pw_istore (ls2 := [(5, _), (0, _), (1, _), (2, _), (3, _), (4, _)]) dX7_jokesBy_60 (by decide) rfl ?_
            refine pw_iload_n dX7_jokesBy_62 rfl rfl ?_
            refine pw_istore (ls2 := [(6, _), (5, _), (0, _), (1, _), (2, _), (3, _), (4, _)]) dX7_jokesBy_63 (by decide) rfl ?_
            refine pw_iconst (v := 0) dX7_jokesBy_65 rfl ?_
            refine pw_istore (ls2 := [(7, _), (6, _), (5, _), (0, _), (1, _), (2, _), (3, _), (4, _)]) dX7_jokesBy_66 (by decide) rfl ?_
            have L_68 : ∀ (fu_68 : Nat) (i nu c : Nat) (q : Int32) (U : VW), (i ≤ n) → (nu ≤ 5) → (U 0 1 = nI nu) → (jbL (μ.1 21) s z (n - i) q U nu c = jbL (μ.1 21) s z n pl V nj 0) → n - i < fu_68 → PW l SC RX7 cX7_jokesBy 8 (some .int) 4 (QI fun x m => x = (jbF V (μ.1 19) (μ.1 20) (μ.1 21) nj (nI s) so pl (nI n)).1 ∧ m = sc (wr μ 22 (jbF V (μ.1 19) (μ.1 20) (μ.1 21) nj (nI s) so pl (nI n)).2) nm sk) 68 [(0, .ref 0), (1, .int (nI s)), (4, .int (nI n)), (5, .int (nI c)), (6, .int q), (7, .int (nI i))] [] (sc (wr μ 22 U) nm sk) := by
              intro fu_68
              induction fu_68 with
              | zero =>
                intro i nu c q U hi hnu hU hx hm_68
                exact absurd hm_68 (Nat.not_lt_zero _)
              | succ fu_68 ih_68 =>
                intro i nu c q U hi hnu hU hx hm_68
                refine pw_iload dX7_jokesBy_68 rfl ?_
                refine pw_iload dX7_jokesBy_70 rfl ?_
                refine pw_icmp_ge (tgt := 136) dX7_jokesBy_72 (by decide) (fun c_72 => ?_) (fun c_72 => ?_)
                · skip
                  have hge := nI_geD (by omega) c_72
                  refine pw_iload dX7_jokesBy_136 rfl ?_
                  refine pw_iret dX7_jokesBy_138 rfl ?_
                  have e0 : n - i = 0 := by omega
                  rw [e0] at hx
                  change (nI c, U) = _ at hx
                  exact ⟨by rw [hjb, ← hx], by rw [hjb, ← hx]⟩
                · skip
                  have hlt := nI_ltD (by omega) c_72
                  refine pw_aload_n dX7_jokesBy_75 rfl rfl ?_
                  refine pw_getR dX7_jokesBy_76 fa_X7_61 rfl ?_
                  refine pw_iload_n dX7_jokesBy_79 rfl rfl ?_
                  refine pw_iload dX7_jokesBy_80 rfl ?_
                  refine pw_iconst (v := 2) dX7_jokesBy_82 rfl ?_
                  refine pw_cVi dX7_jokesBy_83 mv_X7_326 ckSheets (T_X5_hasRun hs4) rfl rfl (Nat.le_of_ble_eq_true rfl) (by decide) (fun x_83 m_83 h_83 => ?_)
                  obtain ⟨rfl, rfl⟩ := h_83
                  refine pw_if_ne (tgt := 92) dX7_jokesBy_86 (by decide) (fun c_86 => ?_) (fun c_86 => ?_)
                  · skip
                    have hrun : runF q 2 (nI z) = true := by rw [← hz]; exact b2_n c_86
                    refine pw_aload_n dX7_jokesBy_92 rfl rfl ?_
                    refine pw_getR dX7_jokesBy_93 fa_X7_28 rfl ?_
                    refine pw_aload_n dX7_jokesBy_96 rfl rfl ?_
                    refine pw_getR dX7_jokesBy_97 fa_X7_61 rfl ?_
                    refine pw_iload_n dX7_jokesBy_100 rfl rfl ?_
                    refine pw_iload dX7_jokesBy_101 rfl ?_
                    refine pw_cVi dX7_jokesBy_103 mv_X7_282 ckSheets (T_X5_number (s := s) (sz := z) hs4 hz hz40) rfl rfl (Nat.le_of_ble_eq_true rfl) (by decide) (fun x_103 m_103 h_103 => ?_)
                    obtain ⟨rfl, rfl⟩ := h_103
                    refine pw_top (y := numF (μ.1 21) s z q) rfl ?_
                    refine pw_aload_n dX7_jokesBy_106 rfl rfl ?_
                    refine pw_getR dX7_jokesBy_107 fa_X7_61 rfl ?_
                    refine pw_iload_n dX7_jokesBy_110 rfl rfl ?_
                    refine pw_iload dX7_jokesBy_111 rfl ?_
                    refine pw_iconst (v := 1) dX7_jokesBy_113 rfl ?_
                    refine pw_iadd dX7_jokesBy_114 ?_
                    refine pw_cVi dX7_jokesBy_115 mv_X7_282 ckSheets (T_X5_number (s := s) (sz := z) hs4 hz hz40) rfl rfl (Nat.le_of_ble_eq_true rfl) (by decide) (fun x_115 m_115 h_115 => ?_)
                    obtain ⟨rfl, rfl⟩ := h_115
                    refine pw_top (y := numF (μ.1 21) s z (q + 1)) rfl ?_
                    refine pw_cVi dX7_jokesBy_118 mv_X7_134 ckNow (T_X6_addJoke (V := U) (n := nu) hw hU hnu) rfl rfl (Nat.le_of_ble_eq_true rfl) (by decide) (fun x_118 m_118 h_118 => ?_)
                    obtain ⟨rfl, rfl⟩ := h_118
                    refine pw_if_lt (tgt := 127) dX7_jokesBy_121 (by decide) (fun c_121 => ?_) (fun c_121 => ?_)
                    · skip
                      refine pw_iinc (ls2 := [(6, _), (0, _), (1, _), (4, _), (5, _), (7, _)]) (v := q + 2) dX7_jokesBy_127 rfl rfl (by decide) rfl ?_
                      refine pw_iinc (ls2 := [(7, _), (6, _), (0, _), (1, _), (4, _), (5, _)]) (v := nI (i + 1)) dX7_jokesBy_130 rfl (inc1 i) (by decide) rfl ?_
                      refine pw_goto (tgt := 68) dX7_jokesBy_133 (by decide) ?_
                      refine pw_sub [2, 3, 4, 5, 1, 0] rfl ?_
                      exact ih_68 (i + 1) _ c _ _ hlt (jnN_b hnu) (aJV_1 hU) (by rw [← hx, show n - i = (n - (i + 1)) + 1 by omega]; show _ = if _ then jbL (μ.1 21) s z _ _ _ _ (if _ then _ else _) else _; rw [if_pos hrun, if_pos c_121]) (by omega)
                    · skip
                      refine pw_iinc (ls2 := [(5, _), (0, _), (1, _), (4, _), (6, _), (7, _)]) (v := nI (c + 1)) dX7_jokesBy_124 rfl (inc1 c) (by decide) rfl ?_
                      refine pw_iinc (ls2 := [(6, _), (5, _), (0, _), (1, _), (4, _), (7, _)]) (v := q + 2) dX7_jokesBy_127 rfl rfl (by decide) rfl ?_
                      refine pw_iinc (ls2 := [(7, _), (6, _), (5, _), (0, _), (1, _), (4, _)]) (v := nI (i + 1)) dX7_jokesBy_130 rfl (inc1 i) (by decide) rfl ?_
                      refine pw_goto (tgt := 68) dX7_jokesBy_133 (by decide) ?_
                      refine pw_sub [3, 4, 5, 2, 1, 0] rfl ?_
                      exact ih_68 (i + 1) _ (c + 1) _ _ hlt (jnN_b hnu) (aJV_1 hU) (by rw [← hx, show n - i = (n - (i + 1)) + 1 by omega]; show _ = if _ then jbL (μ.1 21) s z _ _ _ _ (if _ then _ else _) else _; rw [if_pos hrun, if_neg c_121]) (by omega)
                  · skip
                    have hrun : runF q 2 (nI z) = false := by rw [← hz]; exact b2_0 c_86
                    refine pw_bipush (v := (-12)) dX7_jokesBy_89 rfl ?_
                    refine pw_iret dX7_jokesBy_91 rfl ?_
                    have e : jbF V (μ.1 19) (μ.1 20) (μ.1 21) nj (nI s) so pl (nI n) = (-12, U) := by
                      rw [hjb, ← hx, show n - i = (n - (i + 1)) + 1 by omega]
                      show (if _ then _ else _) = _
                      rw [hrun, if_neg Bool.false_ne_true]
                    exact ⟨by rw [e], by rw [e]⟩
            refine pw_sub [3, 4, 7, 2, 1, 0] rfl ?_
            exact L_68 (n + 1) 0 nj 0 pl V (Nat.zero_le _) hj5 h1 rfl (by omega)
          · skip
            refine pw_bipush (v := (-13)) dX7_jokesBy_56 rfl ?_
            refine pw_iret dX7_jokesBy_58 rfl ?_
            have e : jbF V (μ.1 19) (μ.1 20) (μ.1 21) nj (nI s) so pl (nI n) = (-13, V) := by
              unfold jbF
              rw [e1, hb_13, e3, if_pos (by rfl), cl_nI (show s < 2 ^ 31 by omega), if_neg hm_37_, if_neg c_53]
            exact ⟨by rw [e], by rw [e]⟩
        · skip
          have hb_37 := b2_n c_37
          have hm_37_ : μ.1 19 s = -1 := of_decide_eq_true (b2_n c_37)
          refine pw_bipush (v := (-11)) dX7_jokesBy_40 rfl ?_
          refine pw_iret dX7_jokesBy_42 rfl ?_
          have e : jbF V (μ.1 19) (μ.1 20) (μ.1 21) nj (nI s) so pl (nI n) = (-11, V) := by
            unfold jbF
            rw [e1, hb_13, e3, if_pos (by rfl), cl_nI (show s < 2 ^ 31 by omega), if_pos hm_37_]
          exact ⟨by rw [e], by rw [e]⟩
      · skip
        have hb_23 := b2_0 c_23
        refine pw_bipush (v := (-2)) dX7_jokesBy_26 rfl ?_
        refine pw_iret dX7_jokesBy_28 rfl ?_
        exact ⟨by unfold jbF; rw [hb_4, hb_13, hb_23]; rfl, by unfold jbF; rw [hb_4, hb_13, hb_23]; rfl⟩

