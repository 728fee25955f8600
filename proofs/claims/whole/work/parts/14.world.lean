abbrev BK : Type := (Nat → Int32) × (Nat → Int32)
def bk (μ : PM) : BK := (μ.1 2, μ.1 3)
def nmF (V : VW) (told more : Int32) (h : Nat) : Nat → Int32 := fun j => if j = 0 then told else if j = 1 then V 4 h else if j = 2 then more else if j = 3 then V 0 12 else if j = 4 then V 5 h else nI h
def saysF (B : BK) (V : VW) (p : Nat) (told more : Int32) (h : Nat) : Int32 := boundF (lawF B.1 B.2 (nmF V told more h) (V 0 13).toNatClampNeg p) 0 (if p = 1 then 100 else 99)
def yF (B : BK) (V : VW) (j h : Nat) : Int32 := boundF (kindF (V 1 j) (saysF B V 0 (V 3 j) (V 2 j) h) (V 3 j) (bitF (V 7 h) j) (V 2 j)) 0 99
def laughV (V : VW) (j h : Nat) (much : Int32) : VW :=
  vu (vu (vu V 5 h (if V 5 h + much < 9999 then V 5 h + much else 9999)) 3 j (if V 3 j + moreF (V 1 j) < 99 then V 3 j + moreF (V 1 j) else 99)) 7 h (V 7 h ||| ((1 : Int32) <<< (nI j &&& 31)))
def tellV (B : BK) (V : VW) (j h : Nat) : VW := laughV V j h (yF B V j h)
def fadeF (B : BK) (V : VW) (h : Nat) : Int32 := V 5 h * saysF B V 1 0 0 h / 100
def okC (μ : PM) (V : VW) : Prop := ∃ size t, μ.1 1 0 = nI size ∧ bookOK size (μ.1 3) ∧ t < size ∧ V 0 13 = nI t
theorem bk_wr {μ : PM} {w : Nat} {V : VW} (hw : isW w) : bk (wr μ w V) = bk μ := by
  have := isW_ge hw
  unfold bk
  rw [rd_wrO (by omega), rd_wrO (by omega)]
theorem bk_sc {μ : PM} {nm sk : Nat → Int32} : bk (sc μ nm sk) = bk μ := rfl
theorem okC_wr {μ : PM} {w : Nat} {V V' : VW} (hw : isW w) (h : okC μ V) : okC (wr μ w V') V := by
  have := isW_ge hw
  obtain ⟨size, t, h1, h2, h3, h4⟩ := h
  exact ⟨size, t, by rw [rd_wrO (by omega)]; exact h1, by rw [rd_wrO (by omega)]; exact h2, h3, h4⟩
theorem okC_V {μ : PM} {V V' : VW} (h : okC μ V) (e : V' 0 13 = V 0 13) : okC μ V' := by
  obtain ⟨size, t, h1, h2, h3, h4⟩ := h
  exact ⟨size, t, h1, h2, h3, by rw [e]; exact h4⟩
theorem stepL_nm {n1 n2 : Nat → Int32} (h : ∀ j, j < 6 → n1 j = n2 j) (c : Int32) (s : List Int32) : stepL n1 c s = stepL n2 c s := by
  by_cases h1 : c < -6
  · unfold stepL
    rw [if_neg (fun q => absurd h1 (Int32.not_lt.mpr q)), if_neg (fun q => absurd h1 (Int32.not_lt.mpr q))]
  · by_cases h2 : c < 0
    · by_cases h3 : s.length < 64
      · rw [stepL_pushN h1 h2 h3, stepL_pushN h1 h2 h3, h _ (nm_ix h1 h2).2]
      · rw [stepL_full h1 h3, stepL_full h1 h3]
    · by_cases h3 : s.length < 64
      · rw [stepL_pushP h1 h2 h3, stepL_pushP h1 h2 h3]
      · rw [stepL_full h1 h3, stepL_full h1 h3]
theorem runL_nm {st n1 n2 : Nat → Int32} (h : ∀ j, j < 6 → n1 j = n2 j) : ∀ (n i : Nat) (s : List Int32), runL st n1 i n s = runL st n2 i n s
  | 0, _, _ => rfl
  | n + 1, i, s => by
    show runL st n1 (i + 1) n (stepL n1 (st i) s) = runL st n2 (i + 1) n (stepL n2 (st i) s)
    rw [stepL_nm h, runL_nm h n]
theorem lawF_nm {st ends n1 n2 : Nat → Int32} {t p : Nat} (h : ∀ j, j < 6 → n1 j = n2 j) : lawF st ends n1 t p = lawF st ends n2 t p := by
  unfold lawF
  rw [runL_nm h]
theorem lt6 {P : Nat → Prop} (h0 : P 0) (h1 : P 1) (h2 : P 2) (h3 : P 3) (h4 : P 4) (h5 : P 5) : ∀ j, j < 6 → P j := by
  intro j hj
  match j, hj with
  | 0, _ => exact h0
  | 1, _ => exact h1
  | 2, _ => exact h2
  | 3, _ => exact h3
  | 4, _ => exact h4
  | 5, _ => exact h5
theorem upd_s (f : Nat → Int32) (j : Nat) (v : Int32) : upd f j v j = v := if_pos rfl
theorem upd_o (f : Nat → Int32) {i j : Nat} (v : Int32) (h : i ≠ j) : upd f j v i = f i := if_neg h
theorem nmF_upd {V : VW} {told more : Int32} {h : Nat} {nm : Nat → Int32} : ∀ j, j < 6 → upd (upd (upd (upd (upd (upd nm 0 told) 1 (V 4 h)) 2 more) 3 (V 0 12)) 4 (V 5 h)) 5 (nI h) j = nmF V told more h j :=
  lt6 rfl rfl rfl rfl rfl rfl
set_option maxHeartbeats 4000000 in
set_option maxRecDepth 100000 in
theorem T_X6_says {l : Launch} {μ : PM} {w : Nat} {V : VW} {nm sk : Nat → Int32} {p h : Nat} {told more : Int32} (hw : isW w) (hc : okC μ V) (hp : p < 3) (hh : h < 6) : CT l SC yX6_says cX6_says 6 (some .int) 4 [.ref w, .int (nI p), .int told, .int (nI h), .int more] (sc (wr μ w V) nm sk) (QI fun x m => x = saysF (bk μ) V p told more h ∧ ∃ nm2 sk2, m = sc (wr μ w V) nm2 sk2) := by
  refine CT.of rfl (Nat.le_of_ble_eq_true rfl) ?_
  show PW l SC RX6 cX6_says 6 (some .int) 4 _ 0 [(0, .ref w), (1, .int (nI p)), (2, .int told), (3, .int (nI h)), (4, .int more)] [] (sc (wr μ w V) nm sk)
  obtain ⟨size, t, hs, hb, ht, hv⟩ := hc
  have hw22 := isW_ge hw
  refine pw_aload_n dX6_says_0 rfl rfl ?_
  refine pw_getR dX6_says_1 fa_X6_52 (gkW hw rfl) ?_
  refine pw_getR dX6_says_4 fa_X6_64 rfl ?_
  refine pw_astore (ls2 := [(5, _), (0, _), (1, _), (2, _), (3, _), (4, _)]) dX6_says_7 (by decide) rfl ?_
  refine pw_aload dX6_says_9 rfl ?_
  refine pw_iconst (v := 0) dX6_says_11 rfl ?_
  refine pw_iload_n dX6_says_12 rfl rfl ?_
  refine pw_iast (j := 0) dX6_says_13 rfl rfl (by decide) ?_
  refine pw_mem si_nm ?_
  refine pw_aload dX6_says_14 rfl ?_
  refine pw_iconst (v := 1) dX6_says_16 rfl ?_
  refine pw_aload_n dX6_says_17 rfl rfl ?_
  refine pw_getR dX6_says_18 fa_X6_28 (gkW hw rfl) ?_
  refine pw_iload_n dX6_says_21 rfl rfl ?_
  refine pw_iald (j := h) dX6_says_22 (akW hw rfl) rfl hh ?_
  refine pw_top (y := V 4 h) (by rw [rdw hw (by decide)] <;> rfl) ?_
  refine pw_iast (j := 1) dX6_says_23 rfl rfl (by decide) ?_
  refine pw_mem si_nm ?_
  refine pw_aload dX6_says_24 rfl ?_
  refine pw_iconst (v := 2) dX6_says_26 rfl ?_
  refine pw_iload dX6_says_27 rfl ?_
  refine pw_iast (j := 2) dX6_says_29 rfl rfl (by decide) ?_
  refine pw_mem si_nm ?_
  refine pw_aload dX6_says_30 rfl ?_
  refine pw_iconst (v := 3) dX6_says_32 rfl ?_
  refine pw_aload_n dX6_says_33 rfl rfl ?_
  refine pw_getI dX6_says_34 fa_X6_46 (gkW hw rfl) ?_
  refine pw_top (y := V 0 12) (by rw [rdw0 hw] <;> rfl) ?_
  refine pw_iast (j := 3) dX6_says_37 rfl rfl (by decide) ?_
  refine pw_mem si_nm ?_
  refine pw_aload dX6_says_38 rfl ?_
  refine pw_iconst (v := 4) dX6_says_40 rfl ?_
  refine pw_aload_n dX6_says_41 rfl rfl ?_
  refine pw_getR dX6_says_42 fa_X6_31 (gkW hw rfl) ?_
  refine pw_iload_n dX6_says_45 rfl rfl ?_
  refine pw_iald (j := h) dX6_says_46 (akW hw rfl) rfl hh ?_
  refine pw_top (y := V 5 h) (by rw [rdw hw (by decide)] <;> rfl) ?_
  refine pw_iast (j := 4) dX6_says_47 rfl rfl (by decide) ?_
  refine pw_mem si_nm ?_
  refine pw_aload dX6_says_48 rfl ?_
  refine pw_iconst (v := 5) dX6_says_50 rfl ?_
  refine pw_iload_n dX6_says_51 rfl rfl ?_
  refine pw_iast (j := 5) dX6_says_52 rfl rfl (by decide) ?_
  refine pw_mem si_nm ?_
  refine pw_aload_n dX6_says_53 rfl rfl ?_
  refine pw_getR dX6_says_54 fa_X6_52 (gkW hw rfl) ?_
  refine pw_aload_n dX6_says_57 rfl rfl ?_
  refine pw_getI dX6_says_58 fa_X6_49 (gkW hw rfl) ?_
  refine pw_top (y := nI t) (by rw [rdw0 hw]; exact hv) ?_
  refine pw_iload_n dX6_says_61 rfl rfl ?_
  refine pw_cVi dX6_says_62 mv_X6_69 ckBook (T_X1_answer (μ := wr μ w V) (size := size) (t := t) (p := p) (by rw [rd_wrO (by omega)]; exact hs) (by rw [rd_wrO (by omega)]; exact hb) ht hp) rfl rfl (Nat.le_of_ble_eq_true rfl) (by decide) (fun x_62 m_62 h_62 => ?_)
  obtain ⟨rfl, sk1, rfl⟩ := h_62
  refine pw_top (y := lawF (μ.1 2) (μ.1 3) (nmF V told more h) t p) (by rw [rd_wrO (by omega), rd_wrO (by omega)]; exact lawF_nm nmF_upd) ?_
  refine pw_iload_n dX6_says_65 rfl rfl ?_
  refine pw_iconst (v := 1) dX6_says_66 rfl ?_
  refine pw_icmp_ne (tgt := 75) dX6_says_67 (by decide) (fun c_67 => ?_) (fun c_67 => ?_)
  · skip
    refine pw_bipush (v := 99) dX6_says_75 rfl ?_
    refine pw_cSi dX6_says_77 ms_X6_73 (T_X7_bounded (by decide)) rfl rfl (Nat.le_of_ble_eq_true rfl) (by decide) (fun x_77 m_77 h_77 => ?_)
    obtain ⟨rfl, rfl⟩ := h_77
    refine pw_iret dX6_says_80 rfl ?_
    refine ⟨?_, _, _, rfl⟩
    unfold saysF bk
    rw [hv, nI_clamp (by have := hb.1; omega), if_neg (fun e => c_67 (by rw [e]; rfl))]
  · skip
    refine pw_bipush (v := 100) dX6_says_70 rfl ?_
    refine pw_goto (tgt := 77) dX6_says_72 (by decide) ?_
    refine pw_cSi dX6_says_77 ms_X6_73 (T_X7_bounded (by decide)) rfl rfl (Nat.le_of_ble_eq_true rfl) (by decide) (fun x_77 m_77 h_77 => ?_)
    obtain ⟨rfl, rfl⟩ := h_77
    refine pw_iret dX6_says_80 rfl ?_
    refine ⟨?_, _, _, rfl⟩
    unfold saysF bk
    rw [hv, nI_clamp (by have := hb.1; omega), if_pos ((nI_eq (by omega) (by decide)).mp c_67)]

set_option maxHeartbeats 4000000 in
set_option maxRecDepth 100000 in
theorem T_X6_worth {l : Launch} {μ : PM} {w : Nat} {V : VW} {nm sk : Nat → Int32} {j h : Nat} (hw : isW w) (hc : okC μ V) (hj : j < 5) (hh : h < 6) : CT l SC yX6_worth cX6_worth 4 (some .int) 5 [.ref w, .int (nI j), .int (nI h)] (sc (wr μ w V) nm sk) (QI fun x m => x = yF (bk μ) V j h ∧ ∃ nm2 sk2, m = sc (wr μ w V) nm2 sk2) := by
  refine CT.of rfl (Nat.le_of_ble_eq_true rfl) ?_
  show PW l SC RX6 cX6_worth 4 (some .int) 5 _ 0 [(0, .ref w), (1, .int (nI j)), (2, .int (nI h))] [] (sc (wr μ w V) nm sk)
  refine pw_aload_n dX6_worth_0 rfl rfl ?_
  refine pw_iconst (v := 0) dX6_worth_1 rfl ?_
  refine pw_aload_n dX6_worth_2 rfl rfl ?_
  refine pw_getR dX6_worth_3 fa_X6_22 (gkW hw rfl) ?_
  refine pw_iload_n dX6_worth_6 rfl rfl ?_
  refine pw_iald (j := j) dX6_worth_7 (akW hw rfl) rfl hj ?_
  refine pw_top (y := V 3 j) (by rw [rdw hw (by decide)] <;> rfl) ?_
  refine pw_iload_n dX6_worth_8 rfl rfl ?_
  refine pw_aload_n dX6_worth_9 rfl rfl ?_
  refine pw_getR dX6_worth_10 fa_X6_19 (gkW hw rfl) ?_
  refine pw_iload_n dX6_worth_13 rfl rfl ?_
  refine pw_iald (j := j) dX6_worth_14 (akW hw rfl) rfl hj ?_
  refine pw_top (y := V 2 j) (by rw [rdw hw (by decide)] <;> rfl) ?_
  refine pw_cVi dX6_worth_15 mv_X6_76 (ckW hw) (T_X6_says (p := 0) hw hc (by decide) hh) rfl rfl (Nat.le_of_ble_eq_true rfl) (by decide) (fun x_15 m_15 h_15 => ?_)
  obtain ⟨rfl, nm1, sk1, rfl⟩ := h_15
  refine pw_istore_n (ls2 := [(3, _), (0, _), (1, _), (2, _)]) dX6_worth_18 rfl (by decide) rfl ?_
  refine pw_aload_n dX6_worth_19 rfl rfl ?_
  refine pw_getR dX6_worth_20 fa_X6_15 (gkW hw rfl) ?_
  refine pw_iload_n dX6_worth_23 rfl rfl ?_
  refine pw_iald (j := j) dX6_worth_24 (akW hw rfl) rfl hj ?_
  refine pw_top (y := V 1 j) (by rw [rdw hw (by decide)] <;> rfl) ?_
  refine pw_iload_n dX6_worth_25 rfl rfl ?_
  refine pw_aload_n dX6_worth_26 rfl rfl ?_
  refine pw_getR dX6_worth_27 fa_X6_22 (gkW hw rfl) ?_
  refine pw_iload_n dX6_worth_30 rfl rfl ?_
  refine pw_iald (j := j) dX6_worth_31 (akW hw rfl) rfl hj ?_
  refine pw_top (y := V 3 j) (by rw [rdw hw (by decide)] <;> rfl) ?_
  refine pw_aload_n dX6_worth_32 rfl rfl ?_
  refine pw_getR dX6_worth_33 fa_X6_37 (gkW hw rfl) ?_
  refine pw_iload_n dX6_worth_36 rfl rfl ?_
  refine pw_iald (j := h) dX6_worth_37 (akW hw rfl) rfl hh ?_
  refine pw_top (y := V 7 h) (by rw [rdw hw (by decide)] <;> rfl) ?_
  refine pw_iload_n dX6_worth_38 rfl rfl ?_
  refine pw_cSi dX6_worth_39 ms_X6_80 T_X7_hasBit rfl rfl (Nat.le_of_ble_eq_true rfl) (by decide) (fun x_39 m_39 h_39 => ?_)
  obtain ⟨rfl, rfl⟩ := h_39
  refine pw_aload_n dX6_worth_42 rfl rfl ?_
  refine pw_getR dX6_worth_43 fa_X6_19 (gkW hw rfl) ?_
  refine pw_iload_n dX6_worth_46 rfl rfl ?_
  refine pw_iald (j := j) dX6_worth_47 (akW hw rfl) rfl hj ?_
  refine pw_top (y := V 2 j) (by rw [rdw hw (by decide)] <;> rfl) ?_
  refine pw_cSi dX6_worth_48 ms_X6_84 T_X0_worth rfl rfl (Nat.le_of_ble_eq_true rfl) (by decide) (fun x_48 m_48 h_48 => ?_)
  obtain ⟨rfl, rfl⟩ := h_48
  refine pw_bipush (v := 99) dX6_worth_51 rfl ?_
  refine pw_cSi dX6_worth_53 ms_X6_73 (T_X7_bounded (by decide)) rfl rfl (Nat.le_of_ble_eq_true rfl) (by decide) (fun x_53 m_53 h_53 => ?_)
  obtain ⟨rfl, rfl⟩ := h_53
  refine pw_iret dX6_worth_56 rfl ?_
  exact ⟨rfl, _, _, rfl⟩

set_option maxHeartbeats 4000000 in
set_option maxRecDepth 100000 in
theorem T_X6_laugh {l : Launch} {μ : PM} {w : Nat} {V : VW} {nm sk : Nat → Int32} {j h : Nat} {much : Int32} (hw : isW w) (hj : j < 5) (hh : h < 6) : CT l SC yX6_laugh cX6_laugh 4 none 3 [.ref w, .int (nI j), .int (nI h), .int much] (sc (wr μ w V) nm sk) (QV fun m => m = sc (wr μ w (laughV V j h much)) nm sk) := by
  refine CT.of rfl (Nat.le_of_ble_eq_true rfl) ?_
  show PW l SC RX6 cX6_laugh 4 none 3 _ 0 [(0, .ref w), (1, .int (nI j)), (2, .int (nI h)), (3, .int much)] [] (sc (wr μ w V) nm sk)
  refine pw_aload_n dX6_laugh_0 rfl rfl ?_
  refine pw_getR dX6_laugh_1 fa_X6_31 (gkW hw rfl) ?_
  refine pw_iload_n dX6_laugh_4 rfl rfl ?_
  refine pw_sipush (v := 9999) dX6_laugh_5 rfl ?_
  refine pw_aload_n dX6_laugh_8 rfl rfl ?_
  refine pw_getR dX6_laugh_9 fa_X6_31 (gkW hw rfl) ?_
  refine pw_iload_n dX6_laugh_12 rfl rfl ?_
  refine pw_iald (j := h) dX6_laugh_13 (akW hw rfl) rfl hh ?_
  refine pw_top (y := V 5 h) (by rw [rdw hw (by decide)] <;> rfl) ?_
  refine pw_iload_n dX6_laugh_14 rfl rfl ?_
  refine pw_iadd dX6_laugh_15 ?_
  refine pw_imin dX6_laugh_16 lnk_X6_96 (by decide) (Nat.le_of_ble_eq_true rfl) ?_
  refine pw_iast (j := h) dX6_laugh_19 (akW hw rfl) rfl hh ?_
  refine pw_mem (siw hw (by decide)) ?_
  refine pw_aload_n dX6_laugh_20 rfl rfl ?_
  refine pw_getR dX6_laugh_21 fa_X6_22 (gkW hw rfl) ?_
  refine pw_iload_n dX6_laugh_24 rfl rfl ?_
  refine pw_bipush (v := 99) dX6_laugh_25 rfl ?_
  refine pw_aload_n dX6_laugh_27 rfl rfl ?_
  refine pw_getR dX6_laugh_28 fa_X6_22 (gkW hw rfl) ?_
  refine pw_iload_n dX6_laugh_31 rfl rfl ?_
  refine pw_iald (j := j) dX6_laugh_32 (akW hw rfl) rfl hj ?_
  refine pw_top (y := V 3 j) (by rw [rdw hw (by decide)] <;> rfl) ?_
  refine pw_aload_n dX6_laugh_33 rfl rfl ?_
  refine pw_getR dX6_laugh_34 fa_X6_15 (gkW hw rfl) ?_
  refine pw_iload_n dX6_laugh_37 rfl rfl ?_
  refine pw_iald (j := j) dX6_laugh_38 (akW hw rfl) rfl hj ?_
  refine pw_top (y := V 1 j) (by rw [rdw hw (by decide)] <;> rfl) ?_
  refine pw_cSi dX6_laugh_39 ms_X6_101 T_X0_wornMore rfl rfl (Nat.le_of_ble_eq_true rfl) (by decide) (fun x_39 m_39 h_39 => ?_)
  obtain ⟨rfl, rfl⟩ := h_39
  refine pw_iadd dX6_laugh_42 ?_
  refine pw_imin dX6_laugh_43 lnk_X6_96 (by decide) (Nat.le_of_ble_eq_true rfl) ?_
  refine pw_iast (j := j) dX6_laugh_46 (akW hw rfl) rfl hj ?_
  refine pw_mem (siw hw (by decide)) ?_
  refine pw_aload_n dX6_laugh_47 rfl rfl ?_
  refine pw_getR dX6_laugh_48 fa_X6_37 (gkW hw rfl) ?_
  refine pw_iload_n dX6_laugh_51 rfl rfl ?_
  refine pw_dup2 dX6_laugh_52 rfl rfl ?_
  refine pw_iald (j := h) dX6_laugh_53 (akW hw rfl) rfl hh ?_
  refine pw_top (y := V 7 h) (by rw [rdw hw (by decide)] <;> rfl) ?_
  refine pw_iconst (v := 1) dX6_laugh_54 rfl ?_
  refine pw_iload_n dX6_laugh_55 rfl rfl ?_
  refine pw_ishl dX6_laugh_56 ?_
  refine pw_ior dX6_laugh_57 ?_
  refine pw_iast (j := h) dX6_laugh_58 (akW hw rfl) rfl hh ?_
  refine pw_mem (siw hw (by decide)) ?_
  refine pw_vret dX6_laugh_59 rfl ?_
  rfl

set_option maxHeartbeats 4000000 in
set_option maxRecDepth 100000 in
theorem T_X6_telling {l : Launch} {μ : PM} {w : Nat} {V : VW} {nm sk : Nat → Int32} {j h : Nat} (hw : isW w) (hc : okC μ V) (hj : j < 5) (hh : h < 6) : CT l SC yX6_telling cX6_telling 4 (some .int) 6 [.ref w, .int (nI j), .int (nI h)] (sc (wr μ w V) nm sk) (QI fun x m => x = yF (bk μ) V j h ∧ ∃ nm2 sk2, m = sc (wr μ w (tellV (bk μ) V j h)) nm2 sk2) := by
  refine CT.of rfl (Nat.le_of_ble_eq_true rfl) ?_
  show PW l SC RX6 cX6_telling 4 (some .int) 6 _ 0 [(0, .ref w), (1, .int (nI j)), (2, .int (nI h))] [] (sc (wr μ w V) nm sk)
  refine pw_aload_n dX6_telling_0 rfl rfl ?_
  refine pw_iload_n dX6_telling_1 rfl rfl ?_
  refine pw_iload_n dX6_telling_2 rfl rfl ?_
  refine pw_cVi dX6_telling_3 mv_X6_90 (ckW hw) (T_X6_worth hw hc hj hh) rfl rfl (Nat.le_of_ble_eq_true rfl) (by decide) (fun x_3 m_3 h_3 => ?_)
  obtain ⟨rfl, nm1, sk1, rfl⟩ := h_3
  refine pw_istore_n (ls2 := [(3, _), (0, _), (1, _), (2, _)]) dX6_telling_6 rfl (by decide) rfl ?_
  refine pw_aload_n dX6_telling_7 rfl rfl ?_
  refine pw_iload_n dX6_telling_8 rfl rfl ?_
  refine pw_iload_n dX6_telling_9 rfl rfl ?_
  refine pw_iload_n dX6_telling_10 rfl rfl ?_
  refine pw_cVv dX6_telling_11 mv_X6_92 (ckW hw) (T_X6_laugh hw hj hh) rfl rfl (Nat.le_of_ble_eq_true rfl) (by decide) (fun m_11 h_11 => ?_)
  obtain rfl := h_11
  refine pw_iload_n dX6_telling_14 rfl rfl ?_
  refine pw_iret dX6_telling_15 rfl ?_
  exact ⟨rfl, _, _, rfl⟩

set_option maxHeartbeats 4000000 in
set_option maxRecDepth 100000 in
theorem T_X6_fading {l : Launch} {μ : PM} {w : Nat} {V : VW} {nm sk : Nat → Int32} {h : Nat} (hw : isW w) (hc : okC μ V) (hh : h < 6) : CT l SC yX6_fading cX6_fading 2 (some .int) 5 [.ref w, .int (nI h)] (sc (wr μ w V) nm sk) (QI fun x m => x = fadeF (bk μ) V h ∧ ∃ nm2 sk2, m = sc (wr μ w V) nm2 sk2) := by
  refine CT.of rfl (Nat.le_of_ble_eq_true rfl) ?_
  show PW l SC RX6 cX6_fading 2 (some .int) 5 _ 0 [(0, .ref w), (1, .int (nI h))] [] (sc (wr μ w V) nm sk)
  refine pw_aload_n dX6_fading_0 rfl rfl ?_
  refine pw_getR dX6_fading_1 fa_X6_31 (gkW hw rfl) ?_
  refine pw_iload_n dX6_fading_4 rfl rfl ?_
  refine pw_iald (j := h) dX6_fading_5 (akW hw rfl) rfl hh ?_
  refine pw_top (y := V 5 h) (by rw [rdw hw (by decide)] <;> rfl) ?_
  refine pw_aload_n dX6_fading_6 rfl rfl ?_
  refine pw_iconst (v := 1) dX6_fading_7 rfl ?_
  refine pw_iconst (v := 0) dX6_fading_8 rfl ?_
  refine pw_iload_n dX6_fading_9 rfl rfl ?_
  refine pw_iconst (v := 0) dX6_fading_10 rfl ?_
  refine pw_cVi dX6_fading_11 mv_X6_76 (ckW hw) (T_X6_says (p := 1) hw hc (by decide) hh) rfl rfl (Nat.le_of_ble_eq_true rfl) (by decide) (fun x_11 m_11 h_11 => ?_)
  obtain ⟨rfl, nm1, sk1, rfl⟩ := h_11
  refine pw_imul dX6_fading_14 ?_
  refine pw_bipush (v := 100) dX6_fading_15 rfl ?_
  refine pw_idiv dX6_fading_17 (by decide) ?_
  refine pw_iret dX6_fading_18 rfl ?_
  exact ⟨rfl, _, _, rfl⟩

