theorem wr_comm {μ : PM} {V T : VW} : wr (wr μ 32 T) 22 V = wr (wr μ 22 V) 32 T := by
  refine PM_ext (fun x => ?_) rfl
  show (if 22 ≤ x ∧ x < 22 + 10 then V (x - 22) else if 32 ≤ x ∧ x < 32 + 10 then T (x - 32) else μ.1 x) = if 32 ≤ x ∧ x < 32 + 10 then T (x - 32) else if 22 ≤ x ∧ x < 22 + 10 then V (x - 22) else μ.1 x
  by_cases h : 22 ≤ x ∧ x < 22 + 10
  · rw [if_pos h, if_neg (by omega), if_pos h]
  · rw [if_neg h, if_neg h]
def EqV (a b : Nat) (U V : VW) : Prop := (U 0 1 = V 0 1 ∧ U 0 5 = V 0 5 ∧ U 0 12 = V 0 12 ∧ U 0 13 = V 0 13) ∧ (∀ j, j < a → U 1 j = V 1 j ∧ U 2 j = V 2 j ∧ U 3 j = V 3 j) ∧ (∀ h, h < b → U 4 h = V 4 h ∧ U 5 h = V 5 h ∧ U 6 h = V 6 h ∧ U 7 h = V 7 h ∧ U 8 h = V 8 h)
theorem EqV_refl {a b : Nat} (V : VW) : EqV a b V V := ⟨⟨rfl, rfl, rfl, rfl⟩, fun _ _ => ⟨rfl, rfl, rfl⟩, fun _ _ => ⟨rfl, rfl, rfl, rfl, rfl⟩⟩
theorem EqV_mono {a b c d : Nat} {U V : VW} (h1 : c ≤ a) (h2 : d ≤ b) (e : EqV a b U V) : EqV c d U V := ⟨e.1, fun j hj => e.2.1 j (by omega), fun h hh => e.2.2 h (by omega)⟩
theorem EqV_symm {a b : Nat} {U V : VW} (e : EqV a b U V) : EqV a b V U := ⟨⟨e.1.1.symm, e.1.2.1.symm, e.1.2.2.1.symm, e.1.2.2.2.symm⟩, fun j hj => ⟨(e.2.1 j hj).1.symm, (e.2.1 j hj).2.1.symm, (e.2.1 j hj).2.2.symm⟩, fun h hh => ⟨(e.2.2 h hh).1.symm, (e.2.2 h hh).2.1.symm, (e.2.2 h hh).2.2.1.symm, (e.2.2 h hh).2.2.2.1.symm, (e.2.2 h hh).2.2.2.2.symm⟩⟩
theorem EqV_trans {a b : Nat} {U V W : VW} (e : EqV a b U V) (f : EqV a b V W) : EqV a b U W := ⟨⟨e.1.1.trans f.1.1, e.1.2.1.trans f.1.2.1, e.1.2.2.1.trans f.1.2.2.1, e.1.2.2.2.trans f.1.2.2.2⟩, fun j hj => ⟨(e.2.1 j hj).1.trans (f.2.1 j hj).1, (e.2.1 j hj).2.1.trans (f.2.1 j hj).2.1, (e.2.1 j hj).2.2.trans (f.2.1 j hj).2.2⟩, fun h hh => ⟨(e.2.2 h hh).1.trans (f.2.2 h hh).1, (e.2.2 h hh).2.1.trans (f.2.2 h hh).2.1, (e.2.2 h hh).2.2.1.trans (f.2.2 h hh).2.2.1, (e.2.2 h hh).2.2.2.1.trans (f.2.2 h hh).2.2.2.1, (e.2.2 h hh).2.2.2.2.trans (f.2.2 h hh).2.2.2.2⟩⟩
theorem cp_E {V T : VW} : EqV 5 6 (cpV V T) V := ⟨⟨rfl, rfl, rfl, rfl⟩, fun _ hj => ⟨if_pos hj, if_pos hj, if_pos hj⟩, fun _ hh => ⟨if_pos hh, if_pos hh, if_pos hh, if_pos hh, if_pos hh⟩⟩
theorem saysF_c {B : BK} {U V : VW} {a b p h : Nat} {t m : Int32} (e : EqV a b U V) (hh : h < b) : saysF B U p t m h = saysF B V p t m h := by
  have e1 : nmF U t m h = nmF V t m h := by
    funext j
    unfold nmF
    rw [(e.2.2 h hh).1, (e.2.2 h hh).2.1, e.1.2.2.1]
  unfold saysF
  rw [e1, e.1.2.2.2]
theorem yF_c {B : BK} {U V : VW} {a b j h : Nat} (e : EqV a b U V) (hj : j < a) (hh : h < b) : yF B U j h = yF B V j h := by
  unfold yF
  rw [saysF_c e hh, (e.2.1 j hj).1, (e.2.1 j hj).2.1, (e.2.1 j hj).2.2, (e.2.2 h hh).2.2.2.1]
theorem fadeF_c {B : BK} {U V : VW} {a b h : Nat} (e : EqV a b U V) (hh : h < b) : fadeF B U h = fadeF B V h := by
  unfold fadeF
  rw [saysF_c e hh, (e.2.2 h hh).2.1]
theorem laughV_c {U V : VW} {a b j h : Nat} {y : Int32} (e : EqV a b U V) (hj : j < a) (hh : h < b) : EqV a b (laughV U j h y) (laughV V j h y) := by
  refine ⟨e.1, fun j' hj' => ⟨(e.2.1 j' hj').1, (e.2.1 j' hj').2.1, ?_⟩, fun h' hh' => ⟨(e.2.2 h' hh').1, ?_, (e.2.2 h' hh').2.2.1, ?_, (e.2.2 h' hh').2.2.2.2⟩⟩
  · show upd (U 3) j (if U 3 j + moreF (U 1 j) < 99 then U 3 j + moreF (U 1 j) else 99) j' = upd (V 3) j (if V 3 j + moreF (V 1 j) < 99 then V 3 j + moreF (V 1 j) else 99) j'
    by_cases q : j' = j
    · subst q
      rw [upd_s, upd_s, (e.2.1 j' hj').1, (e.2.1 j' hj').2.2]
    · rw [upd_o _ _ q, upd_o _ _ q]
      exact (e.2.1 j' hj').2.2
  · show upd (U 5) h (if U 5 h + y < 9999 then U 5 h + y else 9999) h' = upd (V 5) h (if V 5 h + y < 9999 then V 5 h + y else 9999) h'
    by_cases q : h' = h
    · subst q
      rw [upd_s, upd_s, (e.2.2 h' hh').2.1]
    · rw [upd_o _ _ q, upd_o _ _ q]
      exact (e.2.2 h' hh').2.1
  · show upd (U 7) h (U 7 h ||| _) h' = upd (V 7) h (V 7 h ||| _) h'
    by_cases q : h' = h
    · subst q
      rw [upd_s, upd_s, (e.2.2 h' hh').2.2.2.1]
    · rw [upd_o _ _ q, upd_o _ _ q]
      exact (e.2.2 h' hh').2.2.2.1
theorem tellV_c {B : BK} {U V : VW} {a b j h : Nat} (e : EqV a b U V) (hj : j < a) (hh : h < b) : EqV a b (tellV B U j h) (tellV B V j h) := by
  unfold tellV
  rw [yF_c e hj hh]
  exact laughV_c e hj hh
def tlE (B : BK) (j a : Nat) : Nat → VW → VW
  | 0, V => V
  | m + 1, V => tellV B (tlE B j a m V) j (a + m)
theorem tlE_0 {B : BK} {j a : Nat} {V : VW} : ∀ m, tlE B j a m V 0 = V 0
  | 0 => rfl
  | m + 1 => by
    show (tlE B j a m V) 0 = V 0
    exact tlE_0 m
theorem tlE_c {B : BK} {U V : VW} {a b j h : Nat} (e : EqV a b U V) (hj : j < a) : ∀ m, h + m ≤ b → EqV a b (tlE B j h m U) (tlE B j h m V)
  | 0, _ => e
  | m + 1, hm => tellV_c (tlE_c e hj m (by omega)) hj (by omega)
def wbF (B : BK) (nh : Nat) (V : VW) (j h : Nat) : Int32 := yF B (tlE B j 0 h (tlE B j (h + 1) (nh - (h + 1)) V)) j h
def laL (B : BK) (V : VW) (nh j : Nat) : Nat → Nat → Int32 × Int32 → Int32 × Int32
  | 0, _, b => b
  | m + 1, h, b => laL B V nh j m (h + 1) (if b.1 = -1 then (nI h, yF B V j h - wbF B nh V j h) else if b.2 ≤ yF B V j h - wbF B nh V j h then b else (nI h, yF B V j h - wbF B nh V j h))
def lastF (B : BK) (V : VW) (nh : Nat) (j : Int32) : Int32 := if jkF V j then (laL B V nh (cl j) nh 0 (-1, 0)).1 else -5
def teF (B : BK) (V : VW) (j : Nat) : Nat → Int32
  | 0 => 0
  | m + 1 => teF B V j m + yF B (tlE B j 0 m V) j m
def roL (B : BK) (V : VW) (nh : Nat) : Nat → Nat → Int32 × Int32 → Int32 × Int32
  | 0, _, b => b
  | m + 1, j, b => roL B V nh m (j + 1) (if teF B V j nh ≤ b.2 then b else (nI j, teF B V j nh))
def roundF (B : BK) (V : VW) (nj nh : Nat) (what : Int32) : Int32 := if inF what 0 1 then (if what = 0 then (roL B V nh nj 0 (-1, -1)).1 else (roL B V nh nj 0 (-1, -1)).2) else -2
def mnL (B : BK) (j h : Nat) (much : Int32) : Nat → Nat → VW → Int32
  | 0, _, _ => -1
  | m + 1, k, V => if much < yF B V j h then mnL B j h much m (k + 1) (tellV B V j h) else nI k
def mineF (B : BK) (V : VW) (j h much : Int32) : Int32 := if refT V j h = 0 then (if inF much 0 99 then mnL B (cl j) (cl h) much 100 0 V else -7) else refT V j h
theorem okC_U {μ : PM} {U V : VW} {a b : Nat} (h : okC μ V) (e : EqV a b U V) : okC μ U := okC_V h e.1.2.2.2
theorem tel2 {l : Launch} {μ : PM} {V T : VW} {nm sk : Nat → Int32} {j h : Nat} (hc : okC μ T) (hj : j < 5) (hh : h < 6) : CT l SC yX6_telling cX6_telling 4 (some .int) 6 [.ref 32, .int (nI j), .int (nI h)] (sc (wr (wr μ 22 V) 32 T) nm sk) (QI fun x m => x = yF (bk μ) T j h ∧ ∃ nm2 sk2, m = sc (wr (wr μ 22 V) 32 (tellV (bk μ) T j h)) nm2 sk2) := by
  have q := T_X6_telling (l := l) (μ := wr μ 22 V) (nm := nm) (sk := sk) w32 (okC_wr w22 hc) hj hh
  rw [bk_wr w22] at q
  exact q
theorem wor2 {l : Launch} {μ : PM} {V T : VW} {nm sk : Nat → Int32} {j h : Nat} (hc : okC μ T) (hj : j < 5) (hh : h < 6) : CT l SC yX6_worth cX6_worth 4 (some .int) 5 [.ref 32, .int (nI j), .int (nI h)] (sc (wr (wr μ 22 V) 32 T) nm sk) (QI fun x m => x = yF (bk μ) T j h ∧ ∃ nm2 sk2, m = sc (wr (wr μ 22 V) 32 T) nm2 sk2) := by
  have q := T_X6_worth (l := l) (μ := wr μ 22 V) (nm := nm) (sk := sk) w32 (okC_wr w22 hc) hj hh
  rw [bk_wr w22] at q
  exact q
theorem worN {l : Launch} {μ : PM} {V T : VW} {nm sk : Nat → Int32} {j h : Nat} (hc : okC μ V) (hj : j < 5) (hh : h < 6) : CT l SC yX6_worth cX6_worth 4 (some .int) 5 [.ref 22, .int (nI j), .int (nI h)] (sc (wr (wr μ 22 V) 32 T) nm sk) (QI fun x m => x = yF (bk μ) V j h ∧ ∃ nm2 sk2, m = sc (wr (wr μ 22 V) 32 T) nm2 sk2) := by
  have q := T_X6_worth (l := l) (μ := wr μ 32 T) (nm := nm) (sk := sk) w22 (okC_wr w32 hc) hj hh
  rw [bk_wr w32, wr_comm] at q
  exact q
theorem hjN {l : Launch} {μ : PM} {V T : VW} {nm sk : Nat → Int32} {j : Int32} : CT l SC yX6_hasJoke cX6_hasJoke 2 (some .boolean) 2 [.ref 22, .int j] (sc (wr (wr μ 22 V) 32 T) nm sk) (QI fun x m => x = b2 (inF j 0 (V 0 1 - 1)) ∧ m = sc (wr (wr μ 22 V) 32 T) nm sk) := by
  have q := T_X6_hasJoke (l := l) (μ := wr μ 32 T) (V := V) (nm := nm) (sk := sk) (j := j) w22
  rw [wr_comm] at q
  exact q
theorem hhN {l : Launch} {μ : PM} {V T : VW} {nm sk : Nat → Int32} {j : Int32} : CT l SC yX6_hasHearer cX6_hasHearer 2 (some .boolean) 2 [.ref 22, .int j] (sc (wr (wr μ 22 V) 32 T) nm sk) (QI fun x m => x = b2 (inF j 0 (V 0 5 - 1)) ∧ m = sc (wr (wr μ 22 V) 32 T) nm sk) := by
  have q := T_X6_hasHearer (l := l) (μ := wr μ 32 T) (V := V) (nm := nm) (sk := sk) (j := j) w22
  rw [wr_comm] at q
  exact q
theorem rtN {l : Launch} {μ : PM} {V T : VW} {nm sk : Nat → Int32} {j h : Int32} : CT l SC yX7_refusedTelling cX7_refusedTelling 3 (some .int) 3 [.ref 0, .int j, .int h] (sc (wr (wr μ 22 V) 32 T) nm sk) (QI fun x m => x = refT V j h ∧ m = sc (wr (wr μ 22 V) 32 T) nm sk) := by
  have q := T_X7_refusedTelling (l := l) (μ := wr μ 32 T) (V := V) (nm := nm) (sk := sk) (j := j) (h := h)
  rw [wr_comm] at q
  exact q
theorem rdN {μ : PM} {V T : VW} {nm sk : Nat → Int32} {r : Nat} (hr : r < 10) : (sc (wr (wr μ 22 V) 32 T) nm sk).1 (22 + r) = V r := by
  rw [rd_sc (by omega) (by omega), rd_wrO (by omega), rd_wr hr]
theorem rdN0 {μ : PM} {V T : VW} {nm sk : Nat → Int32} : (sc (wr (wr μ 22 V) 32 T) nm sk).1 22 = V 0 := rdN (r := 0) (by decide)
theorem i32_22 : apW 32 22 := ⟨w32, w22, by decide⟩
set_option maxHeartbeats 4000000 in
set_option maxRecDepth 100000 in
theorem T_X7_worthBehindOthers {l : Launch} {μ : PM} {V T : VW} {nm sk : Nat → Int32} {nh j h : Nat} (hc : okC μ V) (h5 : V 0 5 = nI nh) (hh6 : nh ≤ 6) (hj : j < 5) (hh : h < nh) : CT l SC yX7_worthBehindOthers cX7_worthBehindOthers 4 (some .int) 7 [.ref 0, .int (nI j), .int (nI h)] (sc (wr (wr μ 22 V) 32 T) nm sk) (QI fun x m => x = wbF (bk μ) nh V j h ∧ ∃ T2 nm2 sk2, m = sc (wr (wr μ 22 V) 32 T2) nm2 sk2) := by
  refine CT.of rfl (Nat.le_of_ble_eq_true rfl) ?_
  show PW l SC RX7 cX7_worthBehindOthers 4 (some .int) 7 _ 0 [(0, .ref 0), (1, .int (nI j)), (2, .int (nI h))] [] (sc (wr (wr μ 22 V) 32 T) nm sk)
  have hc0 := hc
  refine pw_aload_n dX7_worthBehindOthers_0 rfl rfl ?_
  refine pw_getR dX7_worthBehindOthers_1 fa_X7_32 rfl ?_
  refine pw_aload_n dX7_worthBehindOthers_4 rfl rfl ?_
  refine pw_getR dX7_worthBehindOthers_5 fa_X7_28 rfl ?_
  refine pw_cVv dX7_worthBehindOthers_8 mv_X7_197 ckThought (T_X6_copyFrom i32_22) rfl rfl (Nat.le_of_ble_eq_true rfl) (by decide) (fun m_8 h_8 => ?_)
  obtain rfl := h_8
  refine pw_iload_n dX7_worthBehindOthers_11 rfl rfl ?_
  refine pw_iconst (v := 1) dX7_worthBehindOthers_12 rfl ?_
  refine pw_iadd dX7_worthBehindOthers_13 ?_
  refine pw_top (y := nI (h + 1)) (nI_1 h) ?_
  refine pw_istore_n (ls2 := [(3, _), (0, _), (1, _), (2, _)]) dX7_worthBehindOthers_14 rfl (by decide) rfl ?_
  have L_15 : ∀ (fu_15 : Nat) (k : Nat) (U : VW) (nm sk : Nat → Int32), (h + 1 ≤ k) → (k ≤ nh) → (EqV 5 6 U (tlE (bk μ) j (h + 1) (k - (h + 1)) V)) → nh - k < fu_15 → PW l SC RX7 cX7_worthBehindOthers 4 (some .int) 7 (QI fun x m => x = wbF (bk μ) nh V j h ∧ ∃ T2 nm2 sk2, m = sc (wr (wr μ 22 V) 32 T2) nm2 sk2) 15 [(0, .ref 0), (1, .int (nI j)), (2, .int (nI h)), (3, .int (nI k))] [] (sc (wr (wr μ 22 V) 32 U) nm sk) := by
    intro fu_15
    induction fu_15 with
    | zero =>
      intro k U nm sk hk1 hk2 hE hm_15
      exact absurd hm_15 (Nat.not_lt_zero _)
    | succ fu_15 ih_15 =>
      intro k U nm sk hk1 hk2 hE hm_15
      refine pw_iload_n dX7_worthBehindOthers_15 rfl rfl ?_
      refine pw_aload_n dX7_worthBehindOthers_16 rfl rfl ?_
      refine pw_getR dX7_worthBehindOthers_17 fa_X7_32 rfl ?_
      refine pw_getI dX7_worthBehindOthers_20 fa_X7_103 rfl ?_
      have hU5 : U 0 5 = nI nh := by rw [hE.1.2.1, tlE_0]; exact h5
      have hcU : okC μ U := okC_V hc (by rw [hE.1.2.2.2, tlE_0])
      refine pw_top (y := nI nh) (by rw [rdw0 w32]; exact hU5) ?_
      refine pw_icmp_ge (tgt := 42) dX7_worthBehindOthers_23 (by decide) (fun c_23 => ?_) (fun c_23 => ?_)
      · skip
        have hge := nI_geD (by omega) c_23
        have hk3 : k = nh := by omega
        rw [hk3] at hE
        refine pw_iconst (v := 0) dX7_worthBehindOthers_42 rfl ?_
        refine pw_istore_n (ls2 := [(3, _), (0, _), (1, _), (2, _)]) dX7_worthBehindOthers_43 rfl (by decide) rfl ?_
        have L_44 : ∀ (fu_44 : Nat) (k : Nat) (U : VW) (nm sk : Nat → Int32), (k ≤ h) → (EqV 5 6 U (tlE (bk μ) j 0 k (tlE (bk μ) j (h + 1) (nh - (h + 1)) V))) → h - k < fu_44 → PW l SC RX7 cX7_worthBehindOthers 4 (some .int) 7 (QI fun x m => x = wbF (bk μ) nh V j h ∧ ∃ T2 nm2 sk2, m = sc (wr (wr μ 22 V) 32 T2) nm2 sk2) 44 [(0, .ref 0), (1, .int (nI j)), (2, .int (nI h)), (3, .int (nI k))] [] (sc (wr (wr μ 22 V) 32 U) nm sk) := by
          intro fu_44
          induction fu_44 with
          | zero =>
            intro k U nm sk hk2 hE2 hm_44
            exact absurd hm_44 (Nat.not_lt_zero _)
          | succ fu_44 ih_44 =>
            intro k U nm sk hk2 hE2 hm_44
            refine pw_iload_n dX7_worthBehindOthers_44 rfl rfl ?_
            refine pw_iload_n dX7_worthBehindOthers_45 rfl rfl ?_
            refine pw_icmp_ge (tgt := 65) dX7_worthBehindOthers_46 (by decide) (fun c_46 => ?_) (fun c_46 => ?_)
            · skip
              have hge := nI_geD (by omega) c_46
              have hk4 : k = h := by omega
              rw [hk4] at hE2
              have hcU : okC μ U := okC_V hc (by rw [hE2.1.2.2.2, tlE_0, tlE_0])
              refine pw_aload_n dX7_worthBehindOthers_65 rfl rfl ?_
              refine pw_getR dX7_worthBehindOthers_66 fa_X7_32 rfl ?_
              refine pw_iload_n dX7_worthBehindOthers_69 rfl rfl ?_
              refine pw_iload_n dX7_worthBehindOthers_70 rfl rfl ?_
              refine pw_cVi dX7_worthBehindOthers_71 mv_X7_181 ckThought (wor2 (T := U) (j := j) (h := h) hcU hj (by omega)) rfl rfl (Nat.le_of_ble_eq_true rfl) (by decide) (fun x_71 m_71 h_71 => ?_)
              obtain ⟨rfl, nm1, sk1, rfl⟩ := h_71
              refine pw_iret dX7_worthBehindOthers_74 rfl ?_
              exact ⟨(yF_c hE2 hj (by omega)), _, _, _, rfl⟩
            · skip
              have hlt := nI_ltD (by omega) c_46
              have hcU : okC μ U := okC_V hc (by rw [hE2.1.2.2.2, tlE_0, tlE_0])
              refine pw_aload_n dX7_worthBehindOthers_49 rfl rfl ?_
              refine pw_getR dX7_worthBehindOthers_50 fa_X7_32 rfl ?_
              refine pw_iload_n dX7_worthBehindOthers_53 rfl rfl ?_
              refine pw_iload_n dX7_worthBehindOthers_54 rfl rfl ?_
              refine pw_cVi dX7_worthBehindOthers_55 mv_X7_184 ckThought (tel2 (T := U) (j := j) (h := k) hcU hj (by omega)) rfl rfl (Nat.le_of_ble_eq_true rfl) (by decide) (fun x_55 m_55 h_55 => ?_)
              obtain ⟨rfl, nm1, sk1, rfl⟩ := h_55
              refine pw_pop dX7_worthBehindOthers_58 rfl ?_
              refine pw_iinc (ls2 := [(3, _), (0, _), (1, _), (2, _)]) (v := nI (k + 1)) dX7_worthBehindOthers_59 rfl (inc1 k) (by decide) rfl ?_
              refine pw_goto (tgt := 44) dX7_worthBehindOthers_62 (by decide) ?_
              refine pw_sub [1, 2, 3, 0] rfl ?_
              have hN := tellV_c (B := bk μ) (j := j) (h := k) hE2 hj (by omega)
              exact ih_44 (k + 1) _ nm1 sk1 hlt (by show EqV 5 6 _ (tellV (bk μ) _ j (0 + k)); rw [Nat.zero_add]; exact hN) (by omega)
        refine pw_sub [1, 2, 3, 0] rfl ?_
        exact L_44 (h + 1) 0 _ nm sk (Nat.zero_le _) hE (by omega)
      · skip
        have hlt := nI_ltD (by omega) c_23
        refine pw_aload_n dX7_worthBehindOthers_26 rfl rfl ?_
        refine pw_getR dX7_worthBehindOthers_27 fa_X7_32 rfl ?_
        refine pw_iload_n dX7_worthBehindOthers_30 rfl rfl ?_
        refine pw_iload_n dX7_worthBehindOthers_31 rfl rfl ?_
        refine pw_cVi dX7_worthBehindOthers_32 mv_X7_184 ckThought (tel2 (T := U) (j := j) (h := k) hcU hj (by omega)) rfl rfl (Nat.le_of_ble_eq_true rfl) (by decide) (fun x_32 m_32 h_32 => ?_)
        obtain ⟨rfl, nm1, sk1, rfl⟩ := h_32
        refine pw_pop dX7_worthBehindOthers_35 rfl ?_
        refine pw_iinc (ls2 := [(3, _), (0, _), (1, _), (2, _)]) (v := nI (k + 1)) dX7_worthBehindOthers_36 rfl (inc1 k) (by decide) rfl ?_
        refine pw_goto (tgt := 15) dX7_worthBehindOthers_39 (by decide) ?_
        refine pw_sub [1, 2, 3, 0] rfl ?_
        have hN := tellV_c (B := bk μ) (j := j) (h := k) hE hj (by omega)
        exact ih_15 (k + 1) _ nm1 sk1 (by omega) hlt (by rw [show k + 1 - (h + 1) = (k - (h + 1)) + 1 by omega]; show EqV 5 6 _ (tellV (bk μ) _ j (h + 1 + (k - (h + 1)))); rw [show h + 1 + (k - (h + 1)) = k by omega]; exact hN) (by omega)
  refine pw_sub [1, 2, 3, 0] rfl ?_
  exact L_15 (nh + 1) (h + 1) _ nm sk (Nat.le_refl _) (by omega) (by rw [Nat.sub_self]; exact cp_E) (by omega)

set_option maxHeartbeats 4000000 in
set_option maxRecDepth 100000 in
theorem T_X7_last {l : Launch} {μ : PM} {V T : VW} {nm sk : Nat → Int32} {nj nh : Nat} {j : Int32} (hc : okC μ V) (h1 : V 0 1 = nI nj) (hj5 : nj ≤ 5) (h5 : V 0 5 = nI nh) (hh6 : nh ≤ 6) : CT l SC yX7_last cX7_last 6 (some .int) 8 [.ref 0, .int j] (sc (wr (wr μ 22 V) 32 T) nm sk) (QI fun x m => x = lastF (bk μ) V nh j ∧ ∃ T2 nm2 sk2, m = sc (wr (wr μ 22 V) 32 T2) nm2 sk2) := by
  refine CT.of rfl (Nat.le_of_ble_eq_true rfl) ?_
  show PW l SC RX7 cX7_last 6 (some .int) 8 _ 0 [(0, .ref 0), (1, .int j)] [] (sc (wr (wr μ 22 V) 32 T) nm sk)
  refine pw_aload_n dX7_last_0 rfl rfl ?_
  refine pw_getR dX7_last_1 fa_X7_28 rfl ?_
  refine pw_iload_n dX7_last_4 rfl rfl ?_
  refine pw_cVi dX7_last_5 mv_X7_138 ckNow hjN rfl rfl (Nat.le_of_ble_eq_true rfl) (by decide) (fun x_5 m_5 h_5 => ?_)
  obtain ⟨rfl, rfl⟩ := h_5
  refine pw_if_ne (tgt := 14) dX7_last_8 (by decide) (fun c_8 => ?_) (fun c_8 => ?_)
  · skip
    have hb_8 := b2_n c_8
    obtain ⟨j, hlj, hsj, rfl⟩ := jk_of h1 hj5 hb_8
    refine pw_iconst (v := (-1)) dX7_last_14 rfl ?_
    refine pw_istore_n (ls2 := [(2, _), (0, _), (1, _)]) dX7_last_15 rfl (by decide) rfl ?_
    refine pw_iconst (v := 0) dX7_last_16 rfl ?_
    refine pw_istore_n (ls2 := [(3, _), (2, _), (0, _), (1, _)]) dX7_last_17 rfl (by decide) rfl ?_
    refine pw_iconst (v := 0) dX7_last_18 rfl ?_
    refine pw_istore (ls2 := [(4, _), (3, _), (2, _), (0, _), (1, _)]) dX7_last_19 (by decide) rfl ?_
    have L_21 : ∀ (fu_21 : Nat) (i : Nat) (x y : Int32) (T : VW) (nm sk : Nat → Int32), (i ≤ nh) → (laL (bk μ) V nh j (nh - i) i (x, y) = laL (bk μ) V nh j nh 0 (-1, 0)) → nh - i < fu_21 → PW l SC RX7 cX7_last 6 (some .int) 8 (QI fun x m => x = lastF (bk μ) V nh (nI j) ∧ ∃ T2 nm2 sk2, m = sc (wr (wr μ 22 V) 32 T2) nm2 sk2) 21 [(0, .ref 0), (1, .int (nI j)), (2, .int x), (3, .int y), (4, .int (nI i))] [] (sc (wr (wr μ 22 V) 32 T) nm sk) := by
      intro fu_21
      induction fu_21 with
      | zero =>
        intro i x y T nm sk hi hx hm_21
        exact absurd hm_21 (Nat.not_lt_zero _)
      | succ fu_21 ih_21 =>
        intro i x y T nm sk hi hx hm_21
        refine pw_iload dX7_last_21 rfl ?_
        refine pw_aload_n dX7_last_23 rfl rfl ?_
        refine pw_getR dX7_last_24 fa_X7_28 rfl ?_
        refine pw_getI dX7_last_27 fa_X7_103 rfl ?_
        refine pw_top (y := nI nh) (by rw [rdN0]; exact h5) ?_
        refine pw_icmp_ge (tgt := 76) dX7_last_30 (by decide) (fun c_30 => ?_) (fun c_30 => ?_)
        · skip
          have hge := nI_geD (by omega) c_30
          refine pw_iload_n dX7_last_76 rfl rfl ?_
          refine pw_iret dX7_last_77 rfl ?_
          have e0 : nh - i = 0 := by omega
          rw [e0] at hx
          change (x, y) = _ at hx
          exact ⟨by unfold lastF jkF; rw [hb_8, cl_nI (show j < 2 ^ 31 by omega), ← hx]; rfl, _, _, _, rfl⟩
        · skip
          have hlt := nI_ltD (by omega) c_30
          refine pw_aload_n dX7_last_33 rfl rfl ?_
          refine pw_getR dX7_last_34 fa_X7_28 rfl ?_
          refine pw_iload_n dX7_last_37 rfl rfl ?_
          refine pw_iload dX7_last_38 rfl ?_
          refine pw_cVi dX7_last_40 mv_X7_181 ckNow (worN (j := j) (h := i) hc hsj (by omega)) rfl rfl (Nat.le_of_ble_eq_true rfl) (by decide) (fun x_40 m_40 h_40 => ?_)
          obtain ⟨rfl, nm1, sk1, rfl⟩ := h_40
          refine pw_aload_n dX7_last_43 rfl rfl ?_
          refine pw_iload_n dX7_last_44 rfl rfl ?_
          refine pw_iload dX7_last_45 rfl ?_
          refine pw_cVi dX7_last_47 mv_X7_215 ckMain (T_X7_worthBehindOthers (j := j) (h := i) hc h5 hh6 hsj hlt) rfl rfl (Nat.le_of_ble_eq_true rfl) (by decide) (fun x_47 m_47 h_47 => ?_)
          obtain ⟨rfl, T1, nm3, sk3, rfl⟩ := h_47
          refine pw_isub dX7_last_50 ?_
          refine pw_istore (ls2 := [(5, _), (0, _), (1, _), (2, _), (3, _), (4, _)]) dX7_last_51 (by decide) rfl ?_
          refine pw_iload_n dX7_last_53 rfl rfl ?_
          refine pw_iconst (v := (-1)) dX7_last_54 rfl ?_
          refine pw_icmp_eq (tgt := 64) dX7_last_55 (by decide) (fun c_55 => ?_) (fun c_55 => ?_)
          · skip
            refine pw_iload dX7_last_64 rfl ?_
            refine pw_istore_n (ls2 := [(3, _), (5, _), (0, _), (1, _), (2, _), (4, _)]) dX7_last_66 rfl (by decide) rfl ?_
            refine pw_iload dX7_last_67 rfl ?_
            refine pw_istore_n (ls2 := [(2, _), (3, _), (5, _), (0, _), (1, _), (4, _)]) dX7_last_69 rfl (by decide) rfl ?_
            refine pw_iinc (ls2 := [(4, _), (2, _), (3, _), (5, _), (0, _), (1, _)]) (v := nI (i + 1)) dX7_last_70 rfl (inc1 i) (by decide) rfl ?_
            refine pw_goto (tgt := 21) dX7_last_73 (by decide) ?_
            refine pw_sub [4, 5, 1, 2, 0] rfl ?_
            exact ih_21 (i + 1) _ _ T1 nm3 sk3 hlt (by rw [← hx, show nh - i = (nh - (i + 1)) + 1 by omega]; show _ = laL (bk μ) V nh j _ (i + 1) (if x = -1 then _ else _); rw [if_pos c_55]) (by omega)
          · skip
            refine pw_iload dX7_last_58 rfl ?_
            refine pw_iload_n dX7_last_60 rfl rfl ?_
            refine pw_icmp_ge (tgt := 70) dX7_last_61 (by decide) (fun c_61 => ?_) (fun c_61 => ?_)
            · skip
              refine pw_iinc (ls2 := [(4, _), (5, _), (0, _), (1, _), (2, _), (3, _)]) (v := nI (i + 1)) dX7_last_70 rfl (inc1 i) (by decide) rfl ?_
              refine pw_goto (tgt := 21) dX7_last_73 (by decide) ?_
              refine pw_sub [2, 3, 4, 5, 0] rfl ?_
              exact ih_21 (i + 1) _ _ T1 nm3 sk3 hlt (by rw [← hx, show nh - i = (nh - (i + 1)) + 1 by omega]; show _ = laL (bk μ) V nh j _ (i + 1) (if x = -1 then _ else if _ then _ else _); rw [if_neg c_55, if_pos c_61]) (by omega)
            · skip
              refine pw_iload dX7_last_64 rfl ?_
              refine pw_istore_n (ls2 := [(3, _), (5, _), (0, _), (1, _), (2, _), (4, _)]) dX7_last_66 rfl (by decide) rfl ?_
              refine pw_iload dX7_last_67 rfl ?_
              refine pw_istore_n (ls2 := [(2, _), (3, _), (5, _), (0, _), (1, _), (4, _)]) dX7_last_69 rfl (by decide) rfl ?_
              refine pw_iinc (ls2 := [(4, _), (2, _), (3, _), (5, _), (0, _), (1, _)]) (v := nI (i + 1)) dX7_last_70 rfl (inc1 i) (by decide) rfl ?_
              refine pw_goto (tgt := 21) dX7_last_73 (by decide) ?_
              refine pw_sub [4, 5, 1, 2, 0] rfl ?_
              exact ih_21 (i + 1) _ _ T1 nm3 sk3 hlt (by rw [← hx, show nh - i = (nh - (i + 1)) + 1 by omega]; show _ = laL (bk μ) V nh j _ (i + 1) (if x = -1 then _ else if _ then _ else _); rw [if_neg c_55, if_neg c_61]) (by omega)
    refine pw_sub [3, 4, 2, 1, 0] rfl ?_
    exact L_21 (nh + 1) 0 (-1) 0 T nm sk (Nat.zero_le _) rfl (by omega)
  · skip
    have hb_8 := b2_0 c_8
    refine pw_bipush (v := (-5)) dX7_last_11 rfl ?_
    refine pw_iret dX7_last_13 rfl ?_
    exact ⟨by unfold lastF jkF; rw [hb_8]; rfl, _, _, _, rfl⟩

set_option maxHeartbeats 4000000 in
set_option maxRecDepth 100000 in
theorem T_X7_toldToEach {l : Launch} {μ : PM} {V T : VW} {nm sk : Nat → Int32} {nh j : Nat} (hc : okC μ V) (h5 : V 0 5 = nI nh) (hh6 : nh ≤ 6) (hj : j < 5) : CT l SC yX7_toldToEach cX7_toldToEach 4 (some .int) 7 [.ref 0, .int (nI j)] (sc (wr (wr μ 22 V) 32 T) nm sk) (QI fun x m => x = teF (bk μ) V j nh ∧ ∃ T2 nm2 sk2, m = sc (wr (wr μ 22 V) 32 T2) nm2 sk2) := by
  refine CT.of rfl (Nat.le_of_ble_eq_true rfl) ?_
  show PW l SC RX7 cX7_toldToEach 4 (some .int) 7 _ 0 [(0, .ref 0), (1, .int (nI j))] [] (sc (wr (wr μ 22 V) 32 T) nm sk)
  refine pw_aload_n dX7_toldToEach_0 rfl rfl ?_
  refine pw_getR dX7_toldToEach_1 fa_X7_32 rfl ?_
  refine pw_aload_n dX7_toldToEach_4 rfl rfl ?_
  refine pw_getR dX7_toldToEach_5 fa_X7_28 rfl ?_
  refine pw_cVv dX7_toldToEach_8 mv_X7_197 ckThought (T_X6_copyFrom i32_22) rfl rfl (Nat.le_of_ble_eq_true rfl) (by decide) (fun m_8 h_8 => ?_)
  obtain rfl := h_8
  refine pw_iconst (v := 0) dX7_toldToEach_11 rfl ?_
  refine pw_istore_n (ls2 := [(2, _), (0, _), (1, _)]) dX7_toldToEach_12 rfl (by decide) rfl ?_
  refine pw_iconst (v := 0) dX7_toldToEach_13 rfl ?_
  refine pw_istore_n (ls2 := [(3, _), (2, _), (0, _), (1, _)]) dX7_toldToEach_14 rfl (by decide) rfl ?_
  have L_15 : ∀ (fu_15 : Nat) (k : Nat) (s : Int32) (U : VW) (nm sk : Nat → Int32), (k ≤ nh) → (s = teF (bk μ) V j k) → (EqV 5 6 U (tlE (bk μ) j 0 k V)) → nh - k < fu_15 → PW l SC RX7 cX7_toldToEach 4 (some .int) 7 (QI fun x m => x = teF (bk μ) V j nh ∧ ∃ T2 nm2 sk2, m = sc (wr (wr μ 22 V) 32 T2) nm2 sk2) 15 [(0, .ref 0), (1, .int (nI j)), (2, .int s), (3, .int (nI k))] [] (sc (wr (wr μ 22 V) 32 U) nm sk) := by
    intro fu_15
    induction fu_15 with
    | zero =>
      intro k s U nm sk hk2 hs hE hm_15
      exact absurd hm_15 (Nat.not_lt_zero _)
    | succ fu_15 ih_15 =>
      intro k s U nm sk hk2 hs hE hm_15
      refine pw_iload_n dX7_toldToEach_15 rfl rfl ?_
      refine pw_aload_n dX7_toldToEach_16 rfl rfl ?_
      refine pw_getR dX7_toldToEach_17 fa_X7_32 rfl ?_
      refine pw_getI dX7_toldToEach_20 fa_X7_103 rfl ?_
      have hU5 : U 0 5 = nI nh := by rw [hE.1.2.1, tlE_0]; exact h5
      have hcU : okC μ U := okC_V hc (by rw [hE.1.2.2.2, tlE_0])
      refine pw_top (y := nI nh) (by rw [rdw0 w32]; exact hU5) ?_
      refine pw_icmp_ge (tgt := 44) dX7_toldToEach_23 (by decide) (fun c_23 => ?_) (fun c_23 => ?_)
      · skip
        have hge := nI_geD (by omega) c_23
        refine pw_iload_n dX7_toldToEach_44 rfl rfl ?_
        refine pw_iret dX7_toldToEach_45 rfl ?_
        exact ⟨by rw [hs, show k = nh by omega], _, _, _, rfl⟩
      · skip
        have hlt := nI_ltD (by omega) c_23
        refine pw_iload_n dX7_toldToEach_26 rfl rfl ?_
        refine pw_aload_n dX7_toldToEach_27 rfl rfl ?_
        refine pw_getR dX7_toldToEach_28 fa_X7_32 rfl ?_
        refine pw_iload_n dX7_toldToEach_31 rfl rfl ?_
        refine pw_iload_n dX7_toldToEach_32 rfl rfl ?_
        refine pw_cVi dX7_toldToEach_33 mv_X7_184 ckThought (tel2 (T := U) (j := j) (h := k) hcU hj (by omega)) rfl rfl (Nat.le_of_ble_eq_true rfl) (by decide) (fun x_33 m_33 h_33 => ?_)
        obtain ⟨rfl, nm1, sk1, rfl⟩ := h_33
        refine pw_iadd dX7_toldToEach_36 ?_
        refine pw_istore_n (ls2 := [(2, _), (0, _), (1, _), (3, _)]) dX7_toldToEach_37 rfl (by decide) rfl ?_
        refine pw_iinc (ls2 := [(3, _), (2, _), (0, _), (1, _)]) (v := nI (k + 1)) dX7_toldToEach_38 rfl (inc1 k) (by decide) rfl ?_
        refine pw_goto (tgt := 15) dX7_toldToEach_41 (by decide) ?_
        refine pw_sub [2, 3, 1, 0] rfl ?_
        have hN := tellV_c (B := bk μ) (j := j) (h := k) hE hj (by omega)
        exact ih_15 (k + 1) _ _ nm1 sk1 hlt (by rw [hs, yF_c hE hj (by omega)]; rfl) (by show EqV 5 6 _ (tellV (bk μ) _ j (0 + k)); rw [Nat.zero_add]; exact hN) (by omega)
  refine pw_sub [2, 3, 1, 0] rfl ?_
  exact L_15 (nh + 1) 0 0 _ nm sk (Nat.zero_le _) rfl cp_E (by omega)

set_option maxHeartbeats 4000000 in
set_option maxRecDepth 100000 in
theorem T_X7_round {l : Launch} {μ : PM} {V T : VW} {nm sk : Nat → Int32} {nj nh : Nat} {wh : Int32} (hc : okC μ V) (h1 : V 0 1 = nI nj) (hj5 : nj ≤ 5) (h5 : V 0 5 = nI nh) (hh6 : nh ≤ 6) : CT l SC yX7_round cX7_round 6 (some .int) 8 [.ref 0, .int wh] (sc (wr (wr μ 22 V) 32 T) nm sk) (QI fun x m => x = roundF (bk μ) V nj nh wh ∧ ∃ T2 nm2 sk2, m = sc (wr (wr μ 22 V) 32 T2) nm2 sk2) := by
  refine CT.of rfl (Nat.le_of_ble_eq_true rfl) ?_
  show PW l SC RX7 cX7_round 6 (some .int) 8 _ 0 [(0, .ref 0), (1, .int wh)] [] (sc (wr (wr μ 22 V) 32 T) nm sk)
  refine pw_iload_n dX7_round_0 rfl rfl ?_
  refine pw_iconst (v := 0) dX7_round_1 rfl ?_
  refine pw_iconst (v := 1) dX7_round_2 rfl ?_
  refine pw_cSi dX7_round_3 ms_X7_116 T_X7_within rfl rfl (Nat.le_of_ble_eq_true rfl) (by decide) (fun x_3 m_3 h_3 => ?_)
  obtain ⟨rfl, rfl⟩ := h_3
  refine pw_if_ne (tgt := 12) dX7_round_6 (by decide) (fun c_6 => ?_) (fun c_6 => ?_)
  · skip
    have hb_6 := b2_n c_6
    refine pw_iconst (v := (-1)) dX7_round_12 rfl ?_
    refine pw_istore_n (ls2 := [(2, _), (0, _), (1, _)]) dX7_round_13 rfl (by decide) rfl ?_
    refine pw_iconst (v := (-1)) dX7_round_14 rfl ?_
    refine pw_istore_n (ls2 := [(3, _), (2, _), (0, _), (1, _)]) dX7_round_15 rfl (by decide) rfl ?_
    refine pw_iconst (v := 0) dX7_round_16 rfl ?_
    refine pw_istore (ls2 := [(4, _), (3, _), (2, _), (0, _), (1, _)]) dX7_round_17 (by decide) rfl ?_
    have L_19 : ∀ (fu_19 : Nat) (i : Nat) (x y : Int32) (T : VW) (nm sk : Nat → Int32), (i ≤ nj) → (roL (bk μ) V nh (nj - i) i (x, y) = roL (bk μ) V nh nj 0 (-1, -1)) → nj - i < fu_19 → PW l SC RX7 cX7_round 6 (some .int) 8 (QI fun x m => x = roundF (bk μ) V nj nh wh ∧ ∃ T2 nm2 sk2, m = sc (wr (wr μ 22 V) 32 T2) nm2 sk2) 19 [(0, .ref 0), (1, .int wh), (2, .int x), (3, .int y), (4, .int (nI i))] [] (sc (wr (wr μ 22 V) 32 T) nm sk) := by
      intro fu_19
      induction fu_19 with
      | zero =>
        intro i x y T nm sk hi hx hm_19
        exact absurd hm_19 (Nat.not_lt_zero _)
      | succ fu_19 ih_19 =>
        intro i x y T nm sk hi hx hm_19
        refine pw_iload dX7_round_19 rfl ?_
        refine pw_aload_n dX7_round_21 rfl rfl ?_
        refine pw_getR dX7_round_22 fa_X7_28 rfl ?_
        refine pw_getI dX7_round_25 fa_X7_99 rfl ?_
        refine pw_top (y := nI nj) (by rw [rdN0]; exact h1) ?_
        refine pw_icmp_ge (tgt := 57) dX7_round_28 (by decide) (fun c_28 => ?_) (fun c_28 => ?_)
        · skip
          have hge := nI_geD (by omega) c_28
          refine pw_iload_n dX7_round_57 rfl rfl ?_
          refine pw_if_ne (tgt := 65) dX7_round_58 (by decide) (fun c_58 => ?_) (fun c_58 => ?_)
          · skip
            refine pw_iload_n dX7_round_65 rfl rfl ?_
            refine pw_iret dX7_round_66 rfl ?_
            have e0 : nj - i = 0 := by omega
            rw [e0] at hx
            change (x, y) = _ at hx
            exact ⟨by unfold roundF; rw [hb_6, ← hx, if_pos rfl, if_neg c_58], _, _, _, rfl⟩
          · skip
            refine pw_iload_n dX7_round_61 rfl rfl ?_
            refine pw_goto (tgt := 66) dX7_round_62 (by decide) ?_
            refine pw_iret dX7_round_66 rfl ?_
            have e0 : nj - i = 0 := by omega
            rw [e0] at hx
            change (x, y) = _ at hx
            exact ⟨by unfold roundF; rw [hb_6, ← hx, if_pos rfl, if_pos c_58], _, _, _, rfl⟩
        · skip
          have hlt := nI_ltD (by omega) c_28
          refine pw_aload_n dX7_round_31 rfl rfl ?_
          refine pw_iload dX7_round_32 rfl ?_
          refine pw_cVi dX7_round_34 mv_X7_212 ckMain (T_X7_toldToEach (j := i) hc h5 hh6 (by omega)) rfl rfl (Nat.le_of_ble_eq_true rfl) (by decide) (fun x_34 m_34 h_34 => ?_)
          obtain ⟨rfl, T1, nm1, sk1, rfl⟩ := h_34
          refine pw_istore (ls2 := [(5, _), (0, _), (1, _), (2, _), (3, _), (4, _)]) dX7_round_37 (by decide) rfl ?_
          refine pw_iload dX7_round_39 rfl ?_
          refine pw_iload_n dX7_round_41 rfl rfl ?_
          refine pw_icmp_le (tgt := 51) dX7_round_42 (by decide) (fun c_42 => ?_) (fun c_42 => ?_)
          · skip
            refine pw_iinc (ls2 := [(4, _), (5, _), (0, _), (1, _), (2, _), (3, _)]) (v := nI (i + 1)) dX7_round_51 rfl (inc1 i) (by decide) rfl ?_
            refine pw_goto (tgt := 19) dX7_round_54 (by decide) ?_
            refine pw_sub [2, 3, 4, 5, 0] rfl ?_
            exact ih_19 (i + 1) _ _ T1 nm1 sk1 hlt (by rw [← hx, show nj - i = (nj - (i + 1)) + 1 by omega]; show _ = roL (bk μ) V nh _ (i + 1) (if _ then _ else _); rw [if_pos c_42]) (by omega)
          · skip
            refine pw_iload dX7_round_45 rfl ?_
            refine pw_istore_n (ls2 := [(3, _), (5, _), (0, _), (1, _), (2, _), (4, _)]) dX7_round_47 rfl (by decide) rfl ?_
            refine pw_iload dX7_round_48 rfl ?_
            refine pw_istore_n (ls2 := [(2, _), (3, _), (5, _), (0, _), (1, _), (4, _)]) dX7_round_50 rfl (by decide) rfl ?_
            refine pw_iinc (ls2 := [(4, _), (2, _), (3, _), (5, _), (0, _), (1, _)]) (v := nI (i + 1)) dX7_round_51 rfl (inc1 i) (by decide) rfl ?_
            refine pw_goto (tgt := 19) dX7_round_54 (by decide) ?_
            refine pw_sub [4, 5, 1, 2, 0] rfl ?_
            exact ih_19 (i + 1) _ _ T1 nm1 sk1 hlt (by rw [← hx, show nj - i = (nj - (i + 1)) + 1 by omega]; show _ = roL (bk μ) V nh _ (i + 1) (if _ then _ else _); rw [if_neg c_42]) (by omega)
    refine pw_sub [3, 4, 2, 1, 0] rfl ?_
    exact L_19 (nj + 1) 0 (-1) (-1) T nm sk (Nat.zero_le _) rfl (by omega)
  · skip
    have hb_6 := b2_0 c_6
    refine pw_bipush (v := (-2)) dX7_round_9 rfl ?_
    refine pw_iret dX7_round_11 rfl ?_
    exact ⟨by unfold roundF; rw [hb_6]; rfl, _, _, _, rfl⟩

set_option maxHeartbeats 4000000 in
set_option maxRecDepth 100000 in
theorem T_X7_mine {l : Launch} {μ : PM} {V T : VW} {nm sk : Nat → Int32} {nj nh : Nat} {j h mu : Int32} (hc : okC μ V) (h1 : V 0 1 = nI nj) (hj5 : nj ≤ 5) (h5 : V 0 5 = nI nh) (hh6 : nh ≤ 6) : CT l SC yX7_mine cX7_mine 6 (some .int) 7 [.ref 0, .int j, .int h, .int mu] (sc (wr (wr μ 22 V) 32 T) nm sk) (QI fun x m => x = mineF (bk μ) V j h mu ∧ ∃ T2 nm2 sk2, m = sc (wr (wr μ 22 V) 32 T2) nm2 sk2) := by
  refine CT.of rfl (Nat.le_of_ble_eq_true rfl) ?_
  show PW l SC RX7 cX7_mine 6 (some .int) 7 _ 0 [(0, .ref 0), (1, .int j), (2, .int h), (3, .int mu)] [] (sc (wr (wr μ 22 V) 32 T) nm sk)
  refine pw_aload_n dX7_mine_0 rfl rfl ?_
  refine pw_iload_n dX7_mine_1 rfl rfl ?_
  refine pw_iload_n dX7_mine_2 rfl rfl ?_
  refine pw_cVi dX7_mine_3 mv_X7_178 ckMain rtN rfl rfl (Nat.le_of_ble_eq_true rfl) (by decide) (fun x_3 m_3 h_3 => ?_)
  obtain ⟨rfl, rfl⟩ := h_3
  refine pw_istore (ls2 := [(4, _), (0, _), (1, _), (2, _), (3, _)]) dX7_mine_6 (by decide) rfl ?_
  refine pw_iload dX7_mine_8 rfl ?_
  refine pw_if_eq (tgt := 16) dX7_mine_10 (by decide) (fun c_10 => ?_) (fun c_10 => ?_)
  · skip
    have hr0 : refT V j h = 0 := c_10
    obtain ⟨hjk, hhk⟩ := refT_0 hr0
    obtain ⟨j, hlj, hsj, rfl⟩ := jk_of h1 hj5 hjk
    obtain ⟨h, hlh, hsh, rfl⟩ := hr_of h5 hh6 hhk
    refine pw_iload_n dX7_mine_16 rfl rfl ?_
    refine pw_iconst (v := 0) dX7_mine_17 rfl ?_
    refine pw_bipush (v := 99) dX7_mine_18 rfl ?_
    refine pw_cSi dX7_mine_20 ms_X7_116 T_X7_within rfl rfl (Nat.le_of_ble_eq_true rfl) (by decide) (fun x_20 m_20 h_20 => ?_)
    obtain ⟨rfl, rfl⟩ := h_20
    refine pw_if_ne (tgt := 29) dX7_mine_23 (by decide) (fun c_23 => ?_) (fun c_23 => ?_)
    · skip
      have hb_23 := b2_n c_23
      refine pw_aload_n dX7_mine_29 rfl rfl ?_
      refine pw_getR dX7_mine_30 fa_X7_32 rfl ?_
      refine pw_aload_n dX7_mine_33 rfl rfl ?_
      refine pw_getR dX7_mine_34 fa_X7_28 rfl ?_
      refine pw_cVv dX7_mine_37 mv_X7_197 ckThought (T_X6_copyFrom i32_22) rfl rfl (Nat.le_of_ble_eq_true rfl) (by decide) (fun m_37 h_37 => ?_)
      obtain rfl := h_37
      refine pw_iconst (v := 0) dX7_mine_40 rfl ?_
      refine pw_istore (ls2 := [(5, _), (4, _), (0, _), (1, _), (2, _), (3, _)]) dX7_mine_41 (by decide) rfl ?_
      have L_43 : ∀ (fu_43 : Nat) (i : Nat) (U X : VW) (nm sk : Nat → Int32), (i ≤ 100) → (U 0 13 = V 0 13) → (EqV 5 6 U X) → (mnL (bk μ) j h mu (100 - i) i X = mnL (bk μ) j h mu 100 0 V) → 100 - i < fu_43 → PW l SC RX7 cX7_mine 6 (some .int) 7 (QI fun x m => x = mineF (bk μ) V (nI j) (nI h) mu ∧ ∃ T2 nm2 sk2, m = sc (wr (wr μ 22 V) 32 T2) nm2 sk2) 43 [(0, .ref 0), (1, .int (nI j)), (2, .int (nI h)), (3, .int mu), (5, .int (nI i))] [] (sc (wr (wr μ 22 V) 32 U) nm sk) := by
        intro fu_43
        induction fu_43 with
        | zero =>
          intro i U X nm sk hi hE0 hE hx hm_43
          exact absurd hm_43 (Nat.not_lt_zero _)
        | succ fu_43 ih_43 =>
          intro i U X nm sk hi hE0 hE hx hm_43
          refine pw_iload dX7_mine_43 rfl ?_
          refine pw_bipush (v := 100) dX7_mine_45 rfl ?_
          refine pw_icmp_ge (tgt := 72) dX7_mine_47 (by decide) (fun c_47 => ?_) (fun c_47 => ?_)
          · skip
            have hge := nI_geD (n := 100) (by decide) c_47
            refine pw_iconst (v := (-1)) dX7_mine_72 rfl ?_
            refine pw_iret dX7_mine_73 rfl ?_
            exact ⟨by unfold mineF; rw [if_pos hr0, hb_23, if_pos rfl, cl_nI (show j < 2 ^ 31 by omega), cl_nI (show h < 2 ^ 31 by omega), ← hx, show 100 - i = 0 by omega]; rfl, _, _, _, rfl⟩
          · skip
            have hlt := nI_ltD (n := 100) (by omega) c_47
            have hcU := okC_V hc hE0
            refine pw_aload_n dX7_mine_50 rfl rfl ?_
            refine pw_getR dX7_mine_51 fa_X7_32 rfl ?_
            refine pw_iload_n dX7_mine_54 rfl rfl ?_
            refine pw_iload_n dX7_mine_55 rfl rfl ?_
            refine pw_cVi dX7_mine_56 mv_X7_184 ckThought (tel2 (T := U) (j := j) (h := h) hcU hsj hsh) rfl rfl (Nat.le_of_ble_eq_true rfl) (by decide) (fun x_56 m_56 h_56 => ?_)
            obtain ⟨rfl, nm1, sk1, rfl⟩ := h_56
            refine pw_iload_n dX7_mine_59 rfl rfl ?_
            refine pw_icmp_gt (tgt := 66) dX7_mine_60 (by decide) (fun c_60 => ?_) (fun c_60 => ?_)
            · skip
              refine pw_iinc (ls2 := [(5, _), (0, _), (1, _), (2, _), (3, _)]) (v := nI (i + 1)) dX7_mine_66 rfl (inc1 i) (by decide) rfl ?_
              refine pw_goto (tgt := 43) dX7_mine_69 (by decide) ?_
              refine pw_sub [1, 2, 3, 4, 0] rfl ?_
              exact ih_43 (i + 1) _ _ nm1 sk1 hlt hE0 (tellV_c (B := bk μ) hE hsj hsh) (by rw [← hx, show 100 - i = (100 - (i + 1)) + 1 by omega]; show _ = if _ then _ else _; rw [if_pos (by rw [← yF_c hE hsj hsh]; exact c_60)]) (by omega)
            · skip
              refine pw_iload dX7_mine_63 rfl ?_
              refine pw_iret dX7_mine_65 rfl ?_
              exact ⟨by unfold mineF; rw [if_pos hr0, hb_23, if_pos rfl, cl_nI (show j < 2 ^ 31 by omega), cl_nI (show h < 2 ^ 31 by omega), ← hx, show 100 - i = (100 - (i + 1)) + 1 by omega]; show _ = if _ then _ else _; rw [if_neg (by rw [← yF_c hE hsj hsh]; exact c_60)], _, _, _, rfl⟩
      refine pw_sub [2, 3, 4, 5, 0] rfl ?_
      exact L_43 101 0 _ V nm sk (Nat.zero_le _) rfl cp_E rfl (by omega)
    · skip
      have hb_23 := b2_0 c_23
      refine pw_bipush (v := (-7)) dX7_mine_26 rfl ?_
      refine pw_iret dX7_mine_28 rfl ?_
      exact ⟨by unfold mineF; rw [if_pos hr0, hb_23]; rfl, _, _, _, rfl⟩
  · skip
    refine pw_iload dX7_mine_13 rfl ?_
    refine pw_iret dX7_mine_15 rfl ?_
    exact ⟨by unfold mineF; rw [if_neg c_10], _, _, _, rfl⟩

