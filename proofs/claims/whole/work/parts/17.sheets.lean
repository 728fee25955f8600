theorem si_wrO {μ : PM} {w c j : Nat} {V : VW} {v : Int32} (h : c < w ∨ w + 10 ≤ c) : si (wr μ w V) c j v = wr (si μ c j v) w V := by
  refine PM_ext (fun x => ?_) rfl
  by_cases e : x = c
  · subst e
    rw [si_same, rd_wrO h, rd_wrO h, si_same]
  · rw [si_other _ _ _ _ e]
    show (if w ≤ x ∧ x < w + 10 then V (x - w) else μ.1 x) = if w ≤ x ∧ x < w + 10 then V (x - w) else (si μ c j v).1 x
    rw [si_other _ _ _ _ e]
theorem sr_wrO {μ : PM} {w c : Nat} {V : VW} {f : Nat → Int32} (h : c < w ∨ w + 10 ≤ c) : sr (wr μ w V) c f = wr (sr μ c f) w V := by
  refine PM_ext (fun x => ?_) rfl
  by_cases e : x = c
  · subst e
    rw [sr_same, rd_wrO h, sr_same]
  · rw [sr_other _ _ _ e]
    show (if w ≤ x ∧ x < w + 10 then V (x - w) else μ.1 x) = if w ≤ x ∧ x < w + 10 then V (x - w) else (sr μ c f).1 x
    rw [sr_other _ _ _ e]
theorem sr_sc {μ : PM} {nm sk : Nat → Int32} {c : Nat} {f : Nat → Int32} (h4 : c ≠ 4) (h5 : c ≠ 5) : sr (sc μ nm sk) c f = sc (sr μ c f) nm sk := by
  refine PM_ext (fun x => ?_) rfl
  by_cases e : x = c
  · subst e
    rw [sr_same, rd_sc h4 h5, sr_same]
  · rw [sr_other _ _ _ e]
    show (if x = 4 then nm else if x = 5 then sk else μ.1 x) = if x = 4 then nm else if x = 5 then sk else (sr μ c f).1 x
    rw [sr_other _ _ _ e]
theorem sl_wr {μ : PM} {w c : Nat} {V : VW} {v : Int64} : sl (wr μ w V) c v = wr (sl μ c v) w V := rfl
theorem sl_sc {μ : PM} {nm sk : Nat → Int32} {c : Nat} {v : Int64} : sl (sc μ nm sk) c v = sc (sl μ c v) nm sk := rfl
theorem si_sr {μ : PM} {c j : Nat} {f : Nat → Int32} {v : Int32} : si (sr μ c f) c j v = sr μ c (upd f j v) := by
  refine PM_ext (fun x => ?_) rfl
  by_cases e : x = c
  · subst e
    rw [si_same, sr_same, sr_same]
  · rw [si_other _ _ _ _ e, sr_other _ _ _ e, sr_other _ _ _ e]
theorem sr_sr {μ : PM} {c : Nat} {f g : Nat → Int32} : sr (sr μ c f) c g = sr μ c g := by
  refine PM_ext (fun x => ?_) rfl
  by_cases e : x = c
  · subst e
    rw [sr_same, sr_same]
  · rw [sr_other _ _ _ e, sr_other _ _ _ e, sr_other _ _ _ e]
theorem sr_self {μ : PM} {c : Nat} : sr μ c (μ.1 c) = μ := by
  refine PM_ext (fun x => ?_) rfl
  by_cases e : x = c
  · subst e; rw [sr_same]
  · rw [sr_other _ _ _ e]
theorem si_as_sr {μ : PM} {c j : Nat} {v : Int32} : si μ c j v = sr μ c (upd (μ.1 c) j v) := rfl
/-! sheets -/
def zfF (f : Nat → Int32) (s n : Nat) : Nat → Int32 := fun j => if 40 * s ≤ j ∧ j < 40 * s + n then 0 else f j
theorem zfF_0 (f : Nat → Int32) (s : Nat) : zfF f s 0 = f := funext fun j => if_neg (by omega)
theorem zfF_s (f : Nat → Int32) (s i : Nat) : upd (zfF f s i) (40 * s + i) 0 = zfF f s (i + 1) := by
  funext j
  unfold zfF
  by_cases h : j = 40 * s + i
  · subst h
    rw [upd_s, if_pos ⟨by omega, by omega⟩]
  · rw [upd_o _ _ h]
    by_cases h2 : 40 * s ≤ j ∧ j < 40 * s + i
    · rw [if_pos h2, if_pos ⟨by omega, by omega⟩]
    · rw [if_neg h2, if_neg (by omega)]
def narF (so v : Int32) : Int32 := if so = 0 then v.toInt8.toInt32 else if so = 1 then v.toInt16.toInt32 else v
def runF (i n sz : Int32) : Bool := decide (0 ≤ n) && decide (0 ≤ i) && decide (i ≤ sz) && decide (n ≤ sz - i)
def numF (cl : Nat → Int32) (s : Nat) (sz : Nat) (i : Int32) : Int32 := if inF i 0 (nI sz - 1) then cl (40 * s + i.toNatClampNeg) else 0
def renM (μ : PM) (s : Nat) (so n : Int32) : PM := sr (si (si μ 19 s so) 20 s n) 21 (zfF (μ.1 21) s 40)
def wrM (μ : PM) (s sz : Nat) (i v : Int32) : PM := if inF i 0 (nI sz - 1) then si μ 21 (40 * s + i.toNatClampNeg) (narF (μ.1 19 s) v) else μ
/-! rounds -/
def rwM (μ : PM) (f d : Int32) (b : Int64) : PM := (fun c => if c = 17 then upd (upd (μ.1 17) 1 f) 3 d else μ.1 c, fun c => if c = 17 then b else μ.2 c)
def cmpF (v : Int64) (d : Int32) (a : Int64 × Int32) : Int64 × Int32 := if 0 < d ∧ a.1 < v then (v, d) else a
/-- goOn: from the town t on, acc the best yet -/
def goS (rt : Nat → Int32) (first : Nat) (rec0 : Nat → Int64 → Nat → Nat → Int64 × Int32 → Int64 × Int32) (at0 : Nat) (much : Int64) (dg b : Nat) : Nat → Nat → Int64 × Int32 → Int64 × Int32
  | _, 0, a => a
  | t, m + 1, a => goS rt first rec0 at0 much dg b (t + 1) m (if t = first then cmpF (chF rt at0 t much) (nI dg) a else if bitF (nI b) t then a else rec0 t (chF rt at0 t much) (dg * 10 + t + 1) (b + 2 ^ t) a)
def goF (rt : Nat → Int32) (first : Nat) : Nat → Nat → Int64 → Nat → Nat → Int64 × Int32 → Int64 × Int32
  | 0, _, _, _, _, a => a
  | fu + 1, at0, much, dg, b, a => goS rt first (goF rt first fu) at0 much dg b 0 4 a
def cnt4 (b : Nat) : Nat := b % 2 + b / 2 % 2 + b / 4 % 2 + b / 8 % 2
theorem set4 : ∀ b, b < 16 → ∀ t, t < 4 → bitF (nI b) t = false → (nI b ||| ((1 : Int32) <<< (nI t &&& 31))) = nI (b + 2 ^ t) ∧ b + 2 ^ t < 16 ∧ cnt4 (b + 2 ^ t) = cnt4 b + 1 := by decide +kernel
theorem all4 : ∀ b, b < 16 → cnt4 b = 4 → ∀ t, t < 4 → bitF (nI b) t = true := by decide +kernel
theorem cnt4_le : ∀ b, b < 16 → cnt4 b ≤ 4 := by decide +kernel
theorem lg_le {x y : Int64} : lg_cmp x y ≤ 0 ↔ ¬ y < x := (lg_cmp_le x y).trans Int64.not_lt.symm
set_option maxHeartbeats 4000000 in
set_option maxRecDepth 100000 in
theorem T_X5_isMissing {l : Launch} {μ : PM} {s : Nat}  (hs : s < 4) : CT l SC yX5_isMissing cX5_isMissing 2 (some .boolean) 1 [.ref 18, .int (nI s)] μ (QI fun x m => x = b2 (decide (μ.1 19 s = -1)) ∧ m = μ) := by
  refine CT.of rfl (Nat.le_of_ble_eq_true rfl) ?_
  show PW l SC RX5 cX5_isMissing 2 (some .boolean) 1 _ 0 [(0, .ref 18), (1, .int (nI s))] [] μ
  refine pw_aload_n dX5_isMissing_0 rfl rfl ?_
  refine pw_getR dX5_isMissing_1 fa_X5_11 rfl ?_
  refine pw_iload_n dX5_isMissing_4 rfl rfl ?_
  refine pw_iald (j := s) dX5_isMissing_5 rfl rfl hs ?_
  refine pw_iconst (v := (-1)) dX5_isMissing_6 rfl ?_
  refine pw_icmp_ne (tgt := 14) dX5_isMissing_7 (by decide) (fun c_7 => ?_) (fun c_7 => ?_)
  · skip
    refine pw_iconst (v := 0) dX5_isMissing_14 rfl ?_
    refine pw_zret dX5_isMissing_15 rfl (by simp) ?_
    exact ⟨by rw [decide_eq_false c_7]; rfl, rfl⟩
  · skip
    refine pw_iconst (v := 1) dX5_isMissing_10 rfl ?_
    refine pw_goto (tgt := 15) dX5_isMissing_11 (by decide) ?_
    refine pw_zret dX5_isMissing_15 rfl (by simp) ?_
    exact ⟨by rw [decide_eq_true c_7]; rfl, rfl⟩

set_option maxHeartbeats 4000000 in
set_option maxRecDepth 100000 in
theorem T_X5_hasPlace {l : Launch} {μ : PM} {s : Nat} {i : Int32} (hs : s < 4) : CT l SC yX5_hasPlace cX5_hasPlace 3 (some .boolean) 2 [.ref 18, .int (nI s), .int i] μ (QI fun x m => x = b2 (inF i 0 (μ.1 20 s - 1)) ∧ m = μ) := by
  refine CT.of rfl (Nat.le_of_ble_eq_true rfl) ?_
  show PW l SC RX5 cX5_hasPlace 3 (some .boolean) 2 _ 0 [(0, .ref 18), (1, .int (nI s)), (2, .int i)] [] μ
  refine pw_iload_n dX5_hasPlace_0 rfl rfl ?_
  refine pw_iconst (v := 0) dX5_hasPlace_1 rfl ?_
  refine pw_aload_n dX5_hasPlace_2 rfl rfl ?_
  refine pw_getR dX5_hasPlace_3 fa_X5_15 rfl ?_
  refine pw_iload_n dX5_hasPlace_6 rfl rfl ?_
  refine pw_iald (j := s) dX5_hasPlace_7 rfl rfl hs ?_
  refine pw_iconst (v := 1) dX5_hasPlace_8 rfl ?_
  refine pw_isub dX5_hasPlace_9 ?_
  refine pw_cSi dX5_hasPlace_10 ms_X5_21 T_X7_within rfl rfl (Nat.le_of_ble_eq_true rfl) (by decide) (fun x_10 m_10 h_10 => ?_)
  obtain ⟨rfl, rfl⟩ := h_10
  refine pw_zret dX5_hasPlace_13 rfl (b2_01 _) ?_
  exact ⟨rfl, rfl⟩

set_option maxHeartbeats 4000000 in
set_option maxRecDepth 100000 in
theorem T_X5_hasRun {l : Launch} {μ : PM} {s : Nat} {i n : Int32} (hs : s < 4) : CT l SC yX5_hasRun cX5_hasRun 4 (some .boolean) 1 [.ref 18, .int (nI s), .int i, .int n] μ (QI fun x m => x = b2 (runF i n (μ.1 20 s)) ∧ m = μ) := by
  refine CT.of rfl (Nat.le_of_ble_eq_true rfl) ?_
  show PW l SC RX5 cX5_hasRun 4 (some .boolean) 1 _ 0 [(0, .ref 18), (1, .int (nI s)), (2, .int i), (3, .int n)] [] μ
  refine pw_iload_n dX5_hasRun_0 rfl rfl ?_
  refine pw_if_lt (tgt := 34) dX5_hasRun_1 (by decide) (fun c_1 => ?_) (fun c_1 => ?_)
  · skip
    refine pw_iconst (v := 0) dX5_hasRun_34 rfl ?_
    refine pw_zret dX5_hasRun_35 rfl (by simp) ?_
    exact ⟨by unfold runF; rw [decide_eq_false (Int32.not_le.mpr c_1)]; rfl, rfl⟩
  · skip
    refine pw_iload_n dX5_hasRun_4 rfl rfl ?_
    refine pw_if_lt (tgt := 34) dX5_hasRun_5 (by decide) (fun c_5 => ?_) (fun c_5 => ?_)
    · skip
      refine pw_iconst (v := 0) dX5_hasRun_34 rfl ?_
      refine pw_zret dX5_hasRun_35 rfl (by simp) ?_
      exact ⟨by unfold runF; rw [decide_eq_false (Int32.not_le.mpr c_5)]; cases decide (0 ≤ n) <;> rfl, rfl⟩
    · skip
      refine pw_iload_n dX5_hasRun_8 rfl rfl ?_
      refine pw_aload_n dX5_hasRun_9 rfl rfl ?_
      refine pw_getR dX5_hasRun_10 fa_X5_15 rfl ?_
      refine pw_iload_n dX5_hasRun_13 rfl rfl ?_
      refine pw_iald (j := s) dX5_hasRun_14 rfl rfl hs ?_
      refine pw_icmp_gt (tgt := 34) dX5_hasRun_15 (by decide) (fun c_15 => ?_) (fun c_15 => ?_)
      · skip
        refine pw_iconst (v := 0) dX5_hasRun_34 rfl ?_
        refine pw_zret dX5_hasRun_35 rfl (by simp) ?_
        exact ⟨by unfold runF; rw [decide_eq_false (Int32.not_le.mpr c_15)]; cases decide (0 ≤ n) <;> cases decide (0 ≤ i) <;> rfl, rfl⟩
      · skip
        refine pw_iload_n dX5_hasRun_18 rfl rfl ?_
        refine pw_aload_n dX5_hasRun_19 rfl rfl ?_
        refine pw_getR dX5_hasRun_20 fa_X5_15 rfl ?_
        refine pw_iload_n dX5_hasRun_23 rfl rfl ?_
        refine pw_iald (j := s) dX5_hasRun_24 rfl rfl hs ?_
        refine pw_iload_n dX5_hasRun_25 rfl rfl ?_
        refine pw_isub dX5_hasRun_26 ?_
        refine pw_icmp_gt (tgt := 34) dX5_hasRun_27 (by decide) (fun c_27 => ?_) (fun c_27 => ?_)
        · skip
          refine pw_iconst (v := 0) dX5_hasRun_34 rfl ?_
          refine pw_zret dX5_hasRun_35 rfl (by simp) ?_
          exact ⟨by unfold runF; rw [decide_eq_false (Int32.not_le.mpr c_27), Bool.and_false]; rfl, rfl⟩
        · skip
          refine pw_iconst (v := 1) dX5_hasRun_30 rfl ?_
          refine pw_goto (tgt := 35) dX5_hasRun_31 (by decide) ?_
          refine pw_zret dX5_hasRun_35 rfl (by simp) ?_
          exact ⟨by unfold runF; rw [decide_eq_true (Int32.not_lt.mp c_1), decide_eq_true (Int32.not_lt.mp c_5), decide_eq_true (Int32.not_lt.mp c_15), decide_eq_true (Int32.not_lt.mp c_27)]; rfl, rfl⟩

set_option maxHeartbeats 4000000 in
set_option maxRecDepth 100000 in
theorem T_X5_number {l : Launch} {μ : PM} {s : Nat} {sz : Nat} {i : Int32} (hs : s < 4) (hz : μ.1 20 s = nI sz) (hz40 : sz ≤ 40) : CT l SC yX5_number cX5_number 3 (some .int) 3 [.ref 18, .int (nI s), .int i] μ (QI fun x m => x = numF (μ.1 21) s sz i ∧ m = μ) := by
  refine CT.of rfl (Nat.le_of_ble_eq_true rfl) ?_
  show PW l SC RX5 cX5_number 3 (some .int) 3 _ 0 [(0, .ref 18), (1, .int (nI s)), (2, .int i)] [] μ
  refine pw_aload_n dX5_number_0 rfl rfl ?_
  refine pw_iload_n dX5_number_1 rfl rfl ?_
  refine pw_iload_n dX5_number_2 rfl rfl ?_
  refine pw_cVi dX5_number_3 mv_X5_25 ckSheets (T_X5_hasPlace hs) rfl rfl (Nat.le_of_ble_eq_true rfl) (by decide) (fun x_3 m_3 h_3 => ?_)
  obtain ⟨rfl, rfl⟩ := h_3
  rw [hz]
  refine pw_if_eq (tgt := 23) dX5_number_6 (by decide) (fun c_6 => ?_) (fun c_6 => ?_)
  · skip
    have hb := b2_0 c_6
    refine pw_iconst (v := 0) dX5_number_23 rfl ?_
    refine pw_iret dX5_number_24 rfl ?_
    exact ⟨by unfold numF; rw [hb]; rfl, rfl⟩
  · skip
    have hb := b2_n c_6
    obtain ⟨q, hq, rfl⟩ := in_true hb (by omega)
    refine pw_aload_n dX5_number_9 rfl rfl ?_
    refine pw_getR dX5_number_10 fa_X5_18 rfl ?_
    refine pw_iload_n dX5_number_13 rfl rfl ?_
    refine pw_bipush (v := 40) dX5_number_14 rfl ?_
    refine pw_imul dX5_number_16 ?_
    refine pw_iload_n dX5_number_17 rfl rfl ?_
    refine pw_iadd dX5_number_18 ?_
    refine pw_iald (j := 40 * s + q) dX5_number_19 rfl (by show nI s * nI 40 + nI q = _; rw [pk_mul, nI_add, Nat.mul_comm]) (by omega) ?_
    refine pw_goto (tgt := 24) dX5_number_20 (by decide) ?_
    refine pw_iret dX5_number_24 rfl ?_
    exact ⟨by unfold numF; rw [in_t hq (by omega), if_pos rfl, nI_clamp (by omega)], rfl⟩

set_option maxHeartbeats 4000000 in
set_option maxRecDepth 100000 in
theorem T_X5_write {l : Launch} {μ : PM} {s : Nat} {sz : Nat} {i v : Int32} (hs : s < 4) (hz : μ.1 20 s = nI sz) (hz40 : sz ≤ 40) : CT l SC yX5_write cX5_write 4 none 3 [.ref 18, .int (nI s), .int i, .int v] μ (QV fun m => m = wrM μ s sz i v) := by
  refine CT.of rfl (Nat.le_of_ble_eq_true rfl) ?_
  show PW l SC RX5 cX5_write 4 none 3 _ 0 [(0, .ref 18), (1, .int (nI s)), (2, .int i), (3, .int v)] [] μ
  refine pw_aload_n dX5_write_0 rfl rfl ?_
  refine pw_iload_n dX5_write_1 rfl rfl ?_
  refine pw_iload_n dX5_write_2 rfl rfl ?_
  refine pw_cVi dX5_write_3 mv_X5_25 ckSheets (T_X5_hasPlace hs) rfl rfl (Nat.le_of_ble_eq_true rfl) (by decide) (fun x_3 m_3 h_3 => ?_)
  obtain ⟨rfl, rfl⟩ := h_3
  rw [hz]
  refine pw_if_eq (tgt := 50) dX5_write_6 (by decide) (fun c_6 => ?_) (fun c_6 => ?_)
  · skip
    have hb := b2_0 c_6
    refine pw_vret dX5_write_50 rfl ?_
    unfold wrM
    rw [hb]
    rfl
  · skip
    have hb := b2_n c_6
    obtain ⟨q, hq, rfl⟩ := in_true hb (by omega)
    refine pw_aload_n dX5_write_9 rfl rfl ?_
    refine pw_getR dX5_write_10 fa_X5_18 rfl ?_
    refine pw_iload_n dX5_write_13 rfl rfl ?_
    refine pw_bipush (v := 40) dX5_write_14 rfl ?_
    refine pw_imul dX5_write_16 ?_
    refine pw_iload_n dX5_write_17 rfl rfl ?_
    refine pw_iadd dX5_write_18 ?_
    refine pw_aload_n dX5_write_19 rfl rfl ?_
    refine pw_getR dX5_write_20 fa_X5_11 rfl ?_
    refine pw_iload_n dX5_write_23 rfl rfl ?_
    refine pw_iald (j := s) dX5_write_24 rfl rfl hs ?_
    refine pw_if_ne (tgt := 33) dX5_write_25 (by decide) (fun c_25 => ?_) (fun c_25 => ?_)
    · skip
      refine pw_aload_n dX5_write_33 rfl rfl ?_
      refine pw_getR dX5_write_34 fa_X5_11 rfl ?_
      refine pw_iload_n dX5_write_37 rfl rfl ?_
      refine pw_iald (j := s) dX5_write_38 rfl rfl hs ?_
      refine pw_iconst (v := 1) dX5_write_39 rfl ?_
      refine pw_icmp_ne (tgt := 48) dX5_write_40 (by decide) (fun c_40 => ?_) (fun c_40 => ?_)
      · skip
        refine pw_iload_n dX5_write_48 rfl rfl ?_
        refine pw_iast (j := 40 * s + q) dX5_write_49 rfl (by show nI s * nI 40 + nI q = _; rw [pk_mul, nI_add, Nat.mul_comm]) (by omega) ?_
        refine pw_vret dX5_write_50 rfl ?_
        unfold wrM narF
        rw [in_t hq (by omega), if_pos rfl, nI_clamp (by omega), if_neg c_25, if_neg c_40]
      · skip
        refine pw_iload_n dX5_write_43 rfl rfl ?_
        refine pw_i2s dX5_write_44 ?_
        refine pw_goto (tgt := 49) dX5_write_45 (by decide) ?_
        refine pw_iast (j := 40 * s + q) dX5_write_49 rfl (by show nI s * nI 40 + nI q = _; rw [pk_mul, nI_add, Nat.mul_comm]) (by omega) ?_
        refine pw_vret dX5_write_50 rfl ?_
        unfold wrM narF
        rw [in_t hq (by omega), if_pos rfl, nI_clamp (by omega), if_neg c_25, if_pos c_40]
    · skip
      refine pw_iload_n dX5_write_28 rfl rfl ?_
      refine pw_i2b dX5_write_29 ?_
      refine pw_goto (tgt := 49) dX5_write_30 (by decide) ?_
      refine pw_iast (j := 40 * s + q) dX5_write_49 rfl (by show nI s * nI 40 + nI q = _; rw [pk_mul, nI_add, Nat.mul_comm]) (by omega) ?_
      refine pw_vret dX5_write_50 rfl ?_
      unfold wrM narF
      rw [in_t hq (by omega), if_pos rfl, nI_clamp (by omega), if_pos c_25]

set_option maxHeartbeats 4000000 in
set_option maxRecDepth 100000 in
theorem T_X5_renew {l : Launch} {μ : PM} {s : Nat} {so n : Int32} (hs : s < 4) : CT l SC yX5_renew cX5_renew 5 none 1 [.ref 18, .int (nI s), .int so, .int n] μ (QV fun m => m = renM μ s so n) := by
  refine CT.of rfl (Nat.le_of_ble_eq_true rfl) ?_
  show PW l SC RX5 cX5_renew 5 none 1 _ 0 [(0, .ref 18), (1, .int (nI s)), (2, .int so), (3, .int n)] [] μ
  refine pw_aload_n dX5_renew_0 rfl rfl ?_
  refine pw_getR dX5_renew_1 fa_X5_11 rfl ?_
  refine pw_iload_n dX5_renew_4 rfl rfl ?_
  refine pw_iload_n dX5_renew_5 rfl rfl ?_
  refine pw_iast (j := s) dX5_renew_6 rfl rfl hs ?_
  refine pw_aload_n dX5_renew_7 rfl rfl ?_
  refine pw_getR dX5_renew_8 fa_X5_15 rfl ?_
  refine pw_iload_n dX5_renew_11 rfl rfl ?_
  refine pw_iload_n dX5_renew_12 rfl rfl ?_
  refine pw_iast (j := s) dX5_renew_13 rfl rfl hs ?_
  refine pw_iconst (v := 0) dX5_renew_14 rfl ?_
  refine pw_istore (ls2 := [(4, _), (0, _), (1, _), (2, _), (3, _)]) dX5_renew_15 (by decide) rfl ?_
  have L_17 : ∀ (fu_17 : Nat) (i : Nat), (i ≤ 40) → 40 - i < fu_17 → PW l SC RX5 cX5_renew 5 none 1 (QV fun m => m = renM μ s so n) 17 [(0, .ref 18), (1, .int (nI s)), (4, .int (nI i))] [] (sr (si (si μ 19 s so) 20 s n) 21 (zfF (μ.1 21) s i)) := by
    intro fu_17
    induction fu_17 with
    | zero =>
      intro i hi hm_17
      exact absurd hm_17 (Nat.not_lt_zero _)
    | succ fu_17 ih_17 =>
      intro i hi hm_17
      refine pw_iload dX5_renew_17 rfl ?_
      refine pw_bipush (v := 40) dX5_renew_19 rfl ?_
      refine pw_icmp_ge (tgt := 43) dX5_renew_21 (by decide) (fun c_21 => ?_) (fun c_21 => ?_)
      · skip
        have hge := nI_geD (n := 40) (by decide) c_21
        refine pw_vret dX5_renew_43 rfl ?_
        have e : i = 40 := by omega
        subst e
        rfl
      · skip
        have hlt := nI_ltD (n := 40) (by omega) c_21
        refine pw_aload_n dX5_renew_24 rfl rfl ?_
        refine pw_getR dX5_renew_25 fa_X5_18 rfl ?_
        refine pw_iload_n dX5_renew_28 rfl rfl ?_
        refine pw_bipush (v := 40) dX5_renew_29 rfl ?_
        refine pw_imul dX5_renew_31 ?_
        refine pw_iload dX5_renew_32 rfl ?_
        refine pw_iadd dX5_renew_34 ?_
        refine pw_iconst (v := 0) dX5_renew_35 rfl ?_
        refine pw_iast (j := 40 * s + i) dX5_renew_36 rfl (by show nI s * nI 40 + nI i = _; rw [pk_mul, nI_add, Nat.mul_comm]) (by omega) ?_
        refine pw_mem (by rw [si_sr, zfF_s]) ?_
        refine pw_iinc (ls2 := [(4, _), (0, _), (1, _)]) (v := nI (i + 1)) dX5_renew_37 rfl (inc1 i) (by decide) rfl ?_
        refine pw_goto (tgt := 17) dX5_renew_40 (by decide) ?_
        refine pw_sub [1, 2, 0] rfl ?_
        exact ih_17 (i + 1) hlt (by omega)
  refine pw_sub [1, 2, 0] rfl ?_
  refine pw_mem (μ' := sr (si (si μ 19 s so) 20 s n) 21 (zfF (μ.1 21) s 0)) (by rw [zfF_0]; exact (sr_self (μ := si (si μ 19 s so) 20 s n) (c := 21)).symm) ?_
  exact L_17 41 0 (Nat.zero_le _) (by omega)

set_option maxHeartbeats 4000000 in
set_option maxRecDepth 100000 in
theorem T_X5_move {l : Launch} {μ : PM} {s o i j n : Nat} (h1 : 40 * s + i + n ≤ 160) (h2 : 40 * o + j + n ≤ 160) : CT l SC yX5_move cX5_move 6 none 1 [.ref 18, .int (nI s), .int (nI i), .int (nI o), .int (nI j), .int (nI n)] μ (QV fun m => m = sr μ 21 (va_cpy (μ.1 21) (μ.1 21) (40 * s + i) (40 * o + j) n)) := by
  refine CT.of rfl (Nat.le_of_ble_eq_true rfl) ?_
  show PW l SC RX5 cX5_move 6 none 1 _ 0 [(0, .ref 18), (1, .int (nI s)), (2, .int (nI i)), (3, .int (nI o)), (4, .int (nI j)), (5, .int (nI n))] [] μ
  refine pw_aload_n dX5_move_0 rfl rfl ?_
  refine pw_getR dX5_move_1 fa_X5_18 rfl ?_
  refine pw_iload_n dX5_move_4 rfl rfl ?_
  refine pw_bipush (v := 40) dX5_move_5 rfl ?_
  refine pw_imul dX5_move_7 ?_
  refine pw_iload_n dX5_move_8 rfl rfl ?_
  refine pw_iadd dX5_move_9 ?_
  refine pw_aload_n dX5_move_10 rfl rfl ?_
  refine pw_getR dX5_move_11 fa_X5_18 rfl ?_
  refine pw_iload_n dX5_move_14 rfl rfl ?_
  refine pw_bipush (v := 40) dX5_move_15 rfl ?_
  refine pw_imul dX5_move_17 ?_
  refine pw_iload dX5_move_18 rfl ?_
  refine pw_iadd dX5_move_20 ?_
  refine pw_iload dX5_move_21 rfl ?_
  refine pw_copy dX5_move_23 lnk_X5_29 (by decide) (Nat.le_of_ble_eq_true rfl) rfl rfl (a := 40 * s + i) (b := 40 * o + j) (z := n) (by show nI s * nI 40 + nI i = _; rw [pk_mul, nI_add, Nat.mul_comm]) (by show nI o * nI 40 + nI j = _; rw [pk_mul, nI_add, Nat.mul_comm]) rfl h1 h2 ?_
  refine pw_vret dX5_move_26 rfl ?_
  rfl

set_option maxHeartbeats 4000000 in
set_option maxRecDepth 100000 in
theorem T_X1_keep {l : Launch} {μ : PM} {size : Nat} (hs : μ.1 1 0 = nI size) (h6 : size < 6) : CT l SC yX1_keep cX1_keep 3 (some .int) 1 [.ref 1, .ref 11, .ref 12] μ (QI fun x m => x = nI size ∧ m = si (sr (sr μ 2 (va_cpy (μ.1 11) (μ.1 2) 0 (160 * size) 160)) 3 (va_cpy (μ.1 12) (μ.1 3) 0 (3 * size) 3)) 1 0 (nI (size + 1))) := by
  refine CT.of rfl (Nat.le_of_ble_eq_true rfl) ?_
  show PW l SC RX1 cX1_keep 3 (some .int) 1 _ 0 [(0, .ref 1), (1, .ref 11), (2, .ref 12)] [] μ
  refine pw_aload_n dX1_keep_0 rfl rfl ?_
  refine pw_getI dX1_keep_1 fa_X1_11 rfl ?_
  refine pw_top (y := nI size) hs ?_
  refine pw_bipush (v := 6) dX1_keep_4 rfl ?_
  refine pw_icmp_ge (tgt := 23) dX1_keep_6 (by decide) (fun c_6 => ?_) (fun c_6 => ?_)
  · skip
    exact absurd c_6 (nI_ge h6 (by decide))
  · skip
    refine pw_aload_n dX1_keep_9 rfl rfl ?_
    refine pw_alen dX1_keep_10 rfl ?_
    refine pw_sipush (v := 160) dX1_keep_11 rfl ?_
    refine pw_icmp_lt (tgt := 23) dX1_keep_14 (by decide) (fun c_14 => ?_) (fun c_14 => ?_)
    · skip
      exact absurd c_14 (by decide)
    · skip
      refine pw_aload_n dX1_keep_17 rfl rfl ?_
      refine pw_alen dX1_keep_18 rfl ?_
      refine pw_iconst (v := 3) dX1_keep_19 rfl ?_
      refine pw_icmp_ge (tgt := 26) dX1_keep_20 (by decide) (fun c_20 => ?_) (fun c_20 => ?_)
      · skip
        refine pw_aload_n dX1_keep_26 rfl rfl ?_
        refine pw_iconst (v := 0) dX1_keep_27 rfl ?_
        refine pw_aload_n dX1_keep_28 rfl rfl ?_
        refine pw_getR dX1_keep_29 fa_X1_15 rfl ?_
        refine pw_aload_n dX1_keep_32 rfl rfl ?_
        refine pw_getI dX1_keep_33 fa_X1_11 rfl ?_
        refine pw_top (y := nI size) hs ?_
        refine pw_sipush (v := 160) dX1_keep_36 rfl ?_
        refine pw_imul dX1_keep_39 ?_
        refine pw_sipush (v := 160) dX1_keep_40 rfl ?_
        refine pw_copy dX1_keep_43 lnk_X1_28 (by decide) (Nat.le_of_ble_eq_true rfl) rfl rfl (a := 0) (b := 160 * size) (z := 160) rfl (by show nI size * nI 160 = _; rw [pk_mul, Nat.mul_comm]) rfl (by decide) (by omega) ?_
        refine pw_aload_n dX1_keep_46 rfl rfl ?_
        refine pw_iconst (v := 0) dX1_keep_47 rfl ?_
        refine pw_aload_n dX1_keep_48 rfl rfl ?_
        refine pw_getR dX1_keep_49 fa_X1_19 rfl ?_
        refine pw_aload_n dX1_keep_52 rfl rfl ?_
        refine pw_getI dX1_keep_53 fa_X1_11 rfl ?_
        refine pw_top (y := nI size) hs ?_
        refine pw_iconst (v := 3) dX1_keep_56 rfl ?_
        refine pw_imul dX1_keep_57 ?_
        refine pw_iconst (v := 3) dX1_keep_58 rfl ?_
        refine pw_copy dX1_keep_59 lnk_X1_28 (by decide) (Nat.le_of_ble_eq_true rfl) rfl rfl (a := 0) (b := 3 * size) (z := 3) rfl (by show nI size * nI 3 = _; rw [pk_mul, Nat.mul_comm]) rfl (by decide) (by omega) ?_
        refine pw_aload_n dX1_keep_62 rfl rfl ?_
        refine pw_dup dX1_keep_63 rfl ?_
        refine pw_getI dX1_keep_64 fa_X1_11 rfl ?_
        refine pw_top (y := nI size) hs ?_
        refine pw_iconst (v := 1) dX1_keep_67 rfl ?_
        refine pw_iadd dX1_keep_68 ?_
        refine pw_top (y := nI (size + 1)) (nI_1 size) ?_
        refine pw_putI dX1_keep_69 fa_X1_11 rfl ?_
        refine pw_aload_n dX1_keep_72 rfl rfl ?_
        refine pw_getI dX1_keep_73 fa_X1_11 rfl ?_
        refine pw_top (y := nI (size + 1)) rfl ?_
        refine pw_iconst (v := 1) dX1_keep_76 rfl ?_
        refine pw_isub dX1_keep_77 ?_
        refine pw_iret dX1_keep_78 rfl ?_
        exact ⟨nI_sub1, rfl⟩
      · skip
        exact absurd (show nI 3 ≤ nI 3 by decide) c_20

