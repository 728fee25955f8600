theorem dsS_c {B : BK} {nj nh : Nat} {f g : VW → List Nat → Int32 → AC → AC} (hfg : ∀ (U V : VW) (p : List Nat) (s : Int32) (a : AC), EqV nj nh U V → f U p s a = g V p s a) {U V : VW} (e : EqV nj nh U V) {p : List Nat} {s : Int32} : ∀ (m c : Nat) (a : AC), c + m ≤ nj * nh → dsS B nh f U p s c m a = dsS B nh g V p s c m a
  | 0, _, _, _ => rfl
  | m + 1, c, a, hm => by
    have hp : 0 < nh := by
      rcases Nat.eq_zero_or_pos nh with h | h
      · rw [h, Nat.mul_zero] at hm; omega
      · exact h
    have h1 : c / nh < nj := Nat.div_lt_of_lt_mul (by rw [Nat.mul_comm]; omega)
    have h2 : c % nh < nh := Nat.mod_lt _ hp
    show dsS B nh f U p s (c + 1) m (f (tellV B U (c / nh) (c % nh)) (p ++ [cdF nh c]) (s + yAt B U nh c) a) = dsS B nh g V p s (c + 1) m (g (tellV B V (c / nh) (c % nh)) (p ++ [cdF nh c]) (s + yAt B V nh c) a)
    rw [hfg _ _ _ _ _ (tellV_c e h1 h2), show yAt B U nh c = yAt B V nh c from yF_c e h1 h2]
    exact dsS_c (f := f) (g := g) hfg e m (c + 1) _ (by omega)
theorem dsc_c {B : BK} {nj nh : Nat} : ∀ (r : Nat) {U V : VW} {p : List Nat} {s : Int32} {a : AC}, EqV nj nh U V → dsc B nj nh r U p s a = dsc B nj nh r V p s a
  | 0, _, _, _, _, _, _ => rfl
  | r + 1, U, V, p, s, a, e => dsS_c (f := dsc B nj nh r) (g := dsc B nj nh r) (fun _ _ _ _ _ e2 => dsc_c r e2) e (nj * nh) 0 a (by omega)
theorem amx_c {f g : Nat → Int32} : ∀ (n : Nat), (∀ i, i < n → f i = g i) → amx f n = amx g n
  | 0, _ => rfl
  | n + 1, h => by
    show (if (amx f n).1 < f n then (f n, n) else amx f n) = if (amx g n).1 < g n then (g n, n) else amx g n
    rw [amx_c n (fun i hi => h i (by omega)), h n (by omega)]
theorem amx_lt {f : Nat → Int32} : ∀ (n : Nat), 0 < n → (amx f n).2 < n
  | 0, h => absurd h (by decide)
  | n + 1, _ => by
    show (if (amx f n).1 < f n then (f n, n) else amx f n).2 < n + 1
    split
    · exact Nat.lt_succ_self n
    · rcases Nat.eq_zero_or_pos n with h | h
      · subst h; exact Nat.zero_lt_one
      · exact Nat.lt_succ_of_lt (amx_lt n h)
def canF (nj nh : Nat) : Bool := decide (0 < nj) && decide (0 < nh)
theorem canF_p {nj nh : Nat} (h : (decide (0 < nj) && decide (0 < nh)) = true) : 0 < nj ∧ 0 < nh := by
  simp only [Bool.and_eq_true, decide_eq_true_eq] at h
  exact h
def deF (B : BK) (V : VW) (nj nh : Nat) : Nat := (amx (yAt B V nh) (nj * nh)).2
theorem deF_c {B : BK} {U V : VW} {nj nh : Nat} (e : EqV nj nh U V) : deF B U nj nh = deF B V nj nh := by
  unfold deF
  rw [amx_c (f := yAt B U nh) (g := yAt B V nh) (nj * nh) (fun c hc => ?_)]
  have hp : 0 < nh := by
    rcases Nat.eq_zero_or_pos nh with h | h
    · rw [h, Nat.mul_zero] at hc; omega
    · exact h
  exact yF_c e (Nat.div_lt_of_lt_mul (by rw [Nat.mul_comm]; omega)) (Nat.mod_lt _ hp)
theorem deF_lt {B : BK} {V : VW} {nj nh : Nat} (h1 : 0 < nj) (h2 : 0 < nh) : deF B V nj nh / nh < nj ∧ deF B V nj nh % nh < nh :=
  ⟨Nat.div_lt_of_lt_mul (by rw [Nat.mul_comm]; exact amx_lt _ (Nat.mul_pos h1 h2)), Nat.mod_lt _ h2⟩
theorem cdF_10 {nh i : Nat} (h : i % nh < 10) : cdF nh i / 10 = i / nh ∧ cdF nh i % 10 = i % nh := by
  unfold cdF
  omega
def grL (B : BK) (nj nh : Nat) : Nat → VW → Int32 → Int32
  | 0, _, s => s
  | m + 1, V, s => grL B nj nh m (tellV B V (deF B V nj nh / nh) (deF B V nj nh % nh)) (s + yF B V (deF B V nj nh / nh) (deF B V nj nh % nh))
def greedyF (B : BK) (V : VW) (nj nh : Nat) (n what : Int32) : Int32 := if inF n 1 20 && inF what 0 1 then (if canF nj nh then (if what = 1 then nI (cdF nh (deF B V nj nh)) else grL B nj nh (cl n) V 0) else (if what = 0 then 0 else -1)) else -2
def lotN (a : Nat) : Nat := a * 48271 % 2147483647
theorem lotN_b (a : Nat) : lotN a < 2147483647 := Nat.mod_lt _ (by decide)
def drL (B : BK) (nj nh : Nat) : Nat → Nat → VW → Int32 → Int32
  | 0, _, _, s => s
  | m + 1, a, V, s => drL B nj nh m (lotN a) (tellV B V (lotN a % nj) (lotN a / nj % nh)) (s + yF B V (lotN a % nj) (lotN a / nj % nh))
def drS (B : BK) (V : VW) (nj nh sd n : Nat) : Int32 := drL B nj nh n (sd + 1) V 0
def drawnF (B : BK) (V : VW) (nj nh : Nat) (sd n : Int32) : Int32 := if inF sd 0 99999 && inF n 0 50 then (if canF nj nh then drS B V nj nh (cl sd) (cl n) else -1) else -2
def gcL (a b : Nat) : Nat → Nat
  | 0 => 1
  | d + 1 => if d = 0 then 1 else if a % (d + 1) = 0 then (if b % (d + 1) = 0 then d + 1 else gcL a b d) else gcL a b d
theorem gcL_pos (a b : Nat) : ∀ d, 1 ≤ gcL a b d ∧ gcL a b d ≤ max 1 d
  | 0 => ⟨Nat.le_refl _, Nat.le_max_left _ _⟩
  | d + 1 => by
    have h := gcL_pos a b d
    unfold gcL
    split
    · omega
    · split
      · split
        · omega
        · omega
      · omega
def abL (B : BK) (V : VW) (nj nh sd many : Nat) (much : Int32) : Nat → Nat → Nat → Nat
  | 0, _, a => a
  | m + 1, k, a => abL B V nj nh sd many much m (k + 1) (if drS B V nj nh (sd + k) many < much then a else a + 1)
theorem abL_b {B : BK} {V : VW} {nj nh sd many : Nat} {much : Int32} : ∀ (m k a : Nat), abL B V nj nh sd many much m k a ≤ a + m
  | 0, _, _ => Nat.le_refl _
  | m + 1, k, a => by
    have h := abL_b (B := B) (V := V) (nj := nj) (nh := nh) (sd := sd) (many := many) (much := much) m (k + 1) (if drS B V nj nh (sd + k) many < much then a else a + 1)
    refine Nat.le_trans h ?_
    split <;> omega
def odA (B : BK) (V : VW) (nj nh sd ms : Nat) (much : Int32) : Nat := abL B V nj nh sd (ms / 100) much (ms % 100) 0 0
def odF (B : BK) (V : VW) (nj nh sd ms : Nat) (much part : Int32) : Int64 := if ms / 100 ≤ 50 ∧ 1 ≤ ms % 100 ∧ ms % 100 ≤ 50 then lN ((if part = 0 then odA B V nj nh sd ms much else ms % 100) / gcL (odA B V nj nh sd ms much) (ms % 100) (ms % 100)) else NOL
def oddsF (B : BK) (V : VW) (nj nh : Nat) (sd ms much part : Int32) : Int64 := if (inF sd 0 99999 && (inF much 0 9999 && inF part 0 1)) && (!(decide (ms < 0)) && canF nj nh) then odF B V nj nh (cl sd) (cl ms) much part else NOL
theorem lN_ne {n : Nat} (h0 : 0 < n) (h : n < 2 ^ 31) : ¬ lN n = 0 := by
  intro e
  have := (lN_eq (b := 0) h (by decide)).mp e
  omega
theorem max1 {n : Nat} (h0 : 0 < n) (h : n < 2 ^ 31) : (if (1 : Int32) < nI n then nI n else 1) = nI n := by
  split
  · rfl
  · rename_i q
    have : n = 1 := by
      rcases Nat.lt_or_ge 1 n with g | g
      · exact absurd (nI_lt (a := 1) g h) q
      · omega
    rw [this]; rfl
theorem canN {l : Launch} {μ : PM} {V T : VW} {nm sk : Nat → Int32} {nj nh : Nat} (h1 : V 0 1 = nI nj) (h5 : V 0 5 = nI nh) (hj5 : nj ≤ 5) (hh6 : nh ≤ 6) : CT l SC yX6_canTell cX6_canTell 1 (some .boolean) 1 [.ref 22] (sc (wr (wr μ 22 V) 32 T) nm sk) (QI fun x m => x = b2 (decide (0 < nj) && decide (0 < nh)) ∧ m = sc (wr (wr μ 22 V) 32 T) nm sk) := by
  have q := T_X6_canTell (l := l) (μ := wr μ 32 T) (V := V) (nm := nm) (sk := sk) w22 h1 h5 hj5 hh6
  rw [wr_comm] at q
  exact q
theorem dea2 {l : Launch} {μ : PM} {V T : VW} {nm sk : Nat → Int32} {nj nh : Nat} (hc : okC μ T) (h1 : T 0 1 = nI nj) (h5 : T 0 5 = nI nh) (hj5 : nj ≤ 5) (hh6 : nh ≤ 6) : CT l SC yX6_dearest cX6_dearest 6 (some .int) 6 [.ref 32] (sc (wr (wr μ 22 V) 32 T) nm sk) (QI fun x m => x = nI (cdF nh (deF (bk μ) T nj nh)) ∧ ∃ nm2 sk2, m = sc (wr (wr μ 22 V) 32 T) nm2 sk2) := by
  have q := T_X6_dearest (l := l) (μ := wr μ 22 V) (V := T) (nm := nm) (sk := sk) w32 (okC_wr w22 hc) h1 h5 hj5 hh6
  rw [bk_wr w22] at q
  exact q
theorem okb {a b : Nat} {U V : VW} {n : Nat} (e : EqV a b U V) (h : V 0 5 = nI n) : U 0 5 = nI n := e.1.2.1.trans h
theorem inF_up {n M : Int32} (h : inF n 1 M = true) : inF n 0 M = true := by
  unfold inF at h ⊢
  simp only [Bool.and_eq_true, decide_eq_true_eq] at h ⊢
  exact ⟨Int32.le_trans (by decide) h.1, h.2⟩
theorem inI1 {z : Nat} (h1 : 1 ≤ z) (h2 : z ≤ 50) : inF (nI z) 1 50 = true := by
  unfold inF
  rw [decide_eq_true (show (1 : Int32) ≤ nI z from nI_le (a := 1) h1 (by omega)), decide_eq_true (show nI z ≤ (50 : Int32) from nI_le (b := 50) h2 (by decide))]
  rfl
theorem rd42 {μ : PM} {V K : VW} {nm sk : Nat → Int32} : (sc (wr (wr μ 22 V) 42 K) nm sk).1 42 = K 0 := rdw0 w42
theorem i42_22 : apW 42 22 := ⟨w42, w22, by decide⟩
theorem i22_42 : apW 22 42 := ⟨w22, w42, by decide⟩
set_option maxHeartbeats 4000000 in
set_option maxRecDepth 100000 in
theorem T_X7_greedy {l : Launch} {μ : PM} {V T : VW} {nm sk : Nat → Int32} {nj nh : Nat} {n wh : Int32} (hc : okC μ V) (h1 : V 0 1 = nI nj) (hj5 : nj ≤ 5) (h5 : V 0 5 = nI nh) (hh6 : nh ≤ 6) : CT l SC yX7_greedy cX7_greedy 7 (some .int) 7 [.ref 0, .int n, .int wh] (sc (wr (wr μ 22 V) 32 T) nm sk) (QI fun x m => x = greedyF (bk μ) V nj nh n wh ∧ ∃ T2 nm2 sk2, m = sc (wr (wr μ 22 V) 32 T2) nm2 sk2) := by
  refine CT.of rfl (Nat.le_of_ble_eq_true rfl) ?_
  show PW l SC RX7 cX7_greedy 7 (some .int) 7 _ 0 [(0, .ref 0), (1, .int n), (2, .int wh)] [] (sc (wr (wr μ 22 V) 32 T) nm sk)
  refine pw_iload_n dX7_greedy_0 rfl rfl ?_
  refine pw_iconst (v := 1) dX7_greedy_1 rfl ?_
  refine pw_bipush (v := 20) dX7_greedy_2 rfl ?_
  refine pw_cSi dX7_greedy_4 ms_X7_116 T_X7_within rfl rfl (Nat.le_of_ble_eq_true rfl) (by decide) (fun x_4 m_4 h_4 => ?_)
  obtain ⟨rfl, rfl⟩ := h_4
  refine pw_if_eq (tgt := 19) dX7_greedy_7 (by decide) (fun c_7 => ?_) (fun c_7 => ?_)
  · skip
    have hb_7 := b2_0 c_7
    refine pw_bipush (v := (-2)) dX7_greedy_19 rfl ?_
    refine pw_iret dX7_greedy_21 rfl ?_
    exact ⟨by unfold greedyF; rw [hb_7]; rfl, _, _, _, rfl⟩
  · skip
    have hb_7 := b2_n c_7
    refine pw_iload_n dX7_greedy_10 rfl rfl ?_
    refine pw_iconst (v := 0) dX7_greedy_11 rfl ?_
    refine pw_iconst (v := 1) dX7_greedy_12 rfl ?_
    refine pw_cSi dX7_greedy_13 ms_X7_116 T_X7_within rfl rfl (Nat.le_of_ble_eq_true rfl) (by decide) (fun x_13 m_13 h_13 => ?_)
    obtain ⟨rfl, rfl⟩ := h_13
    refine pw_if_ne (tgt := 22) dX7_greedy_16 (by decide) (fun c_16 => ?_) (fun c_16 => ?_)
    · skip
      have hb_16 := b2_n c_16
      refine pw_aload_n dX7_greedy_22 rfl rfl ?_
      refine pw_getR dX7_greedy_23 fa_X7_28 rfl ?_
      refine pw_cVi dX7_greedy_26 mv_X7_194 ckNow (canN h1 h5 hj5 hh6) rfl rfl (Nat.le_of_ble_eq_true rfl) (by decide) (fun x_26 m_26 h_26 => ?_)
      obtain ⟨rfl, rfl⟩ := h_26
      refine pw_if_ne (tgt := 42) dX7_greedy_29 (by decide) (fun c_29 => ?_) (fun c_29 => ?_)
      · skip
        have hb_29 := b2_n c_29
        refine pw_aload_n dX7_greedy_42 rfl rfl ?_
        refine pw_getR dX7_greedy_43 fa_X7_32 rfl ?_
        refine pw_aload_n dX7_greedy_46 rfl rfl ?_
        refine pw_getR dX7_greedy_47 fa_X7_28 rfl ?_
        have hcan := canF_p hb_29
        refine pw_cVv dX7_greedy_50 mv_X7_197 ckThought (T_X6_copyFrom i32_22) rfl rfl (Nat.le_of_ble_eq_true rfl) (by decide) (fun m_50 h_50 => ?_)
        obtain rfl := h_50
        refine pw_aload_n dX7_greedy_53 rfl rfl ?_
        refine pw_getR dX7_greedy_54 fa_X7_32 rfl ?_
        refine pw_cVi dX7_greedy_57 mv_X7_209 ckThought (dea2 (okC_V hc rfl) h1 h5 hj5 hh6) rfl rfl (Nat.le_of_ble_eq_true rfl) (by decide) (fun x_57 m_57 h_57 => ?_)
        obtain ⟨rfl, nm3, sk3, rfl⟩ := h_57
        have hd0 : deF (bk μ) (cpV V T) nj nh = deF (bk μ) V nj nh := deF_c (EqV_mono hj5 hh6 cp_E)
        rw [hd0]
        refine pw_istore_n (ls2 := [(3, _), (0, _), (1, _), (2, _)]) dX7_greedy_60 rfl (by decide) rfl ?_
        refine pw_iload_n dX7_greedy_61 rfl rfl ?_
        refine pw_iconst (v := 1) dX7_greedy_62 rfl ?_
        refine pw_icmp_ne (tgt := 68) dX7_greedy_63 (by decide) (fun c_63 => ?_) (fun c_63 => ?_)
        · skip
          obtain ⟨n, hn1, rfl⟩ := in_trueL (n := 20) (inF_up hb_7) (by decide)
          refine pw_iconst (v := 0) dX7_greedy_68 rfl ?_
          refine pw_istore (ls2 := [(4, _), (3, _), (0, _), (1, _), (2, _)]) dX7_greedy_69 (by decide) rfl ?_
          refine pw_iconst (v := 0) dX7_greedy_71 rfl ?_
          refine pw_istore (ls2 := [(5, _), (4, _), (3, _), (0, _), (1, _), (2, _)]) dX7_greedy_72 (by decide) rfl ?_
          have L_74 : ∀ (fu_74 : Nat) (i : Nat) (s : Int32) (U X : VW) (nm sk : Nat → Int32), (i ≤ n) → (U 0 13 = V 0 13) → (U 0 1 = nI nj) → (U 0 5 = nI nh) → (EqV nj nh U X) → (grL (bk μ) nj nh (n - i) X s = grL (bk μ) nj nh n V 0) → n - i < fu_74 → PW l SC RX7 cX7_greedy 7 (some .int) 7 (QI fun x m => x = greedyF (bk μ) V nj nh (nI n) wh ∧ ∃ T2 nm2 sk2, m = sc (wr (wr μ 22 V) 32 T2) nm2 sk2) 74 [(0, .ref 0), (1, .int (nI n)), (4, .int s), (5, .int (nI i))] [] (sc (wr (wr μ 22 V) 32 U) nm sk) := by
            intro fu_74
            induction fu_74 with
            | zero =>
              intro i s U X nm sk hi hE0 hE1 hE5 hE hx hm_74
              exact absurd hm_74 (Nat.not_lt_zero _)
            | succ fu_74 ih_74 =>
              intro i s U X nm sk hi hE0 hE1 hE5 hE hx hm_74
              refine pw_iload dX7_greedy_74 rfl ?_
              refine pw_iload_n dX7_greedy_76 rfl rfl ?_
              refine pw_icmp_ge (tgt := 117) dX7_greedy_77 (by decide) (fun c_77 => ?_) (fun c_77 => ?_)
              · skip
                have hge := nI_geD (by omega) c_77
                refine pw_iload dX7_greedy_117 rfl ?_
                refine pw_iret dX7_greedy_119 rfl ?_
                have e0 : n - i = 0 := by omega
                rw [e0] at hx
                change s = _ at hx
                exact ⟨by unfold greedyF canF; rw [hb_7, hb_16, hb_29, if_pos (by rfl), if_pos rfl, if_neg c_63, cl_nI (show n < 2 ^ 31 by omega), hx], _, _, _, rfl⟩
              · skip
                have hlt := nI_ltD (by omega) c_77
                have hcU : okC μ U := okC_V hc hE0
                have hdl := deF_lt (B := bk μ) (V := U) hcan.1 hcan.2
                have hdc := deF_c (B := bk μ) hE
                have h10 := cdF_10 (nh := nh) (i := (deF (bk μ) U nj nh)) (by omega)
                refine pw_aload_n dX7_greedy_80 rfl rfl ?_
                refine pw_getR dX7_greedy_81 fa_X7_32 rfl ?_
                refine pw_cVi dX7_greedy_84 mv_X7_209 ckThought (dea2 hcU hE1 hE5 hj5 hh6) rfl rfl (Nat.le_of_ble_eq_true rfl) (by decide) (fun x_84 m_84 h_84 => ?_)
                obtain ⟨rfl, nm1, sk1, rfl⟩ := h_84
                refine pw_istore (ls2 := [(6, _), (0, _), (1, _), (4, _), (5, _)]) dX7_greedy_87 (by decide) rfl ?_
                refine pw_iload dX7_greedy_89 rfl ?_
                refine pw_aload_n dX7_greedy_91 rfl rfl ?_
                refine pw_getR dX7_greedy_92 fa_X7_32 rfl ?_
                refine pw_iload dX7_greedy_95 rfl ?_
                refine pw_bipush (v := 10) dX7_greedy_97 rfl ?_
                refine pw_idiv dX7_greedy_99 (by decide) ?_
                refine pw_top (y := nI ((deF (bk μ) U nj nh) / nh)) ((pk_div (by have := h10.1; omega) (by decide) (by decide)).trans (by rw [h10.1])) ?_
                refine pw_iload dX7_greedy_100 rfl ?_
                refine pw_bipush (v := 10) dX7_greedy_102 rfl ?_
                refine pw_irem dX7_greedy_104 (by decide) ?_
                refine pw_top (y := nI ((deF (bk μ) U nj nh) % nh)) ((pk_rem (by have := h10.1; omega) (by decide) (by decide)).trans (by rw [h10.2])) ?_
                refine pw_cVi dX7_greedy_105 mv_X7_184 ckThought (tel2 (T := U) (j := (deF (bk μ) U nj nh) / nh) (h := (deF (bk μ) U nj nh) % nh) hcU (by omega) (by omega)) rfl rfl (Nat.le_of_ble_eq_true rfl) (by decide) (fun x_105 m_105 h_105 => ?_)
                obtain ⟨rfl, nm4, sk4, rfl⟩ := h_105
                refine pw_iadd dX7_greedy_108 ?_
                refine pw_istore (ls2 := [(4, _), (6, _), (0, _), (1, _), (5, _)]) dX7_greedy_109 (by decide) rfl ?_
                refine pw_iinc (ls2 := [(5, _), (4, _), (6, _), (0, _), (1, _)]) (v := nI (i + 1)) dX7_greedy_111 rfl (inc1 i) (by decide) rfl ?_
                refine pw_goto (tgt := 74) dX7_greedy_114 (by decide) ?_
                refine pw_sub [3, 4, 1, 0] rfl ?_
                exact ih_74 (i + 1) _ _ _ nm4 sk4 hlt hE0 hE1 hE5 (tellV_c (B := bk μ) hE hdl.1 hdl.2) (by rw [← hx, show n - i = (n - (i + 1)) + 1 by omega]; show _ = grL (bk μ) nj nh _ (tellV (bk μ) X (deF (bk μ) X nj nh / nh) (deF (bk μ) X nj nh % nh)) (s + yF (bk μ) X (deF (bk μ) X nj nh / nh) (deF (bk μ) X nj nh % nh)); rw [← hdc, yF_c hE hdl.1 hdl.2]) (by omega)
          refine pw_sub [3, 4, 1, 0] rfl ?_
          exact L_74 (n + 1) 0 0 _ V nm3 sk3 (Nat.zero_le _) rfl h1 h5 (EqV_mono hj5 hh6 cp_E) rfl (by omega)
        · skip
          refine pw_iload_n dX7_greedy_66 rfl rfl ?_
          refine pw_iret dX7_greedy_67 rfl ?_
          exact ⟨by unfold greedyF canF; rw [hb_7, hb_16, hb_29, if_pos (by rfl), if_pos rfl, if_pos c_63], _, _, _, rfl⟩
      · skip
        have hb_29 := b2_0 c_29
        refine pw_iload_n dX7_greedy_32 rfl rfl ?_
        refine pw_if_ne (tgt := 40) dX7_greedy_33 (by decide) (fun c_33 => ?_) (fun c_33 => ?_)
        · skip
          refine pw_iconst (v := (-1)) dX7_greedy_40 rfl ?_
          refine pw_iret dX7_greedy_41 rfl ?_
          exact ⟨by unfold greedyF canF; rw [hb_7, hb_16, hb_29, if_pos (by rfl), if_neg Bool.false_ne_true, if_neg c_33], _, _, _, rfl⟩
        · skip
          refine pw_iconst (v := 0) dX7_greedy_36 rfl ?_
          refine pw_goto (tgt := 41) dX7_greedy_37 (by decide) ?_
          refine pw_iret dX7_greedy_41 rfl ?_
          exact ⟨by unfold greedyF canF; rw [hb_7, hb_16, hb_29, if_pos (by rfl), if_neg Bool.false_ne_true, if_pos c_33], _, _, _, rfl⟩
    · skip
      have hb_16 := b2_0 c_16
      refine pw_bipush (v := (-2)) dX7_greedy_19 rfl ?_
      refine pw_iret dX7_greedy_21 rfl ?_
      exact ⟨by unfold greedyF; rw [hb_7, hb_16]; rfl, _, _, _, rfl⟩

set_option maxHeartbeats 4000000 in
set_option maxRecDepth 100000 in
theorem T_X7_drawnSum {l : Launch} {μ : PM} {V T : VW} {nm sk : Nat → Int32} {nj nh sd n : Nat} (hc : okC μ V) (h1 : V 0 1 = nI nj) (hj5 : nj ≤ 5) (h5 : V 0 5 = nI nh) (hh6 : nh ≤ 6) (hj0 : 0 < nj) (hh0 : 0 < nh) (hsd : sd ≤ 200000) (hn : n ≤ 50) : CT l SC yX7_drawnSum cX7_drawnSum 9 (some .int) 7 [.ref 0, .int (nI sd), .int (nI n)] (sc (wr (wr μ 22 V) 32 T) nm sk) (QI fun x m => x = drS (bk μ) V nj nh sd n ∧ ∃ T2 nm2 sk2, m = sc (wr (wr μ 22 V) 32 T2) nm2 sk2) := by
  refine CT.of rfl (Nat.le_of_ble_eq_true rfl) ?_
  show PW l SC RX7 cX7_drawnSum 9 (some .int) 7 _ 0 [(0, .ref 0), (1, .int (nI sd)), (2, .int (nI n))] [] (sc (wr (wr μ 22 V) 32 T) nm sk)
  refine pw_aload_n dX7_drawnSum_0 rfl rfl ?_
  refine pw_getR dX7_drawnSum_1 fa_X7_32 rfl ?_
  refine pw_aload_n dX7_drawnSum_4 rfl rfl ?_
  refine pw_getR dX7_drawnSum_5 fa_X7_28 rfl ?_
  refine pw_cVv dX7_drawnSum_8 mv_X7_197 ckThought (T_X6_copyFrom i32_22) rfl rfl (Nat.le_of_ble_eq_true rfl) (by decide) (fun m_8 h_8 => ?_)
  obtain rfl := h_8
  refine pw_iconst (v := 1) dX7_drawnSum_11 rfl ?_
  refine pw_aload_n dX7_drawnSum_12 rfl rfl ?_
  refine pw_getR dX7_drawnSum_13 fa_X7_32 rfl ?_
  refine pw_getI dX7_drawnSum_16 fa_X7_99 rfl ?_
  refine pw_top (y := nI nj) (by rw [rdw0 w32]; exact h1) ?_
  refine pw_imax dX7_drawnSum_19 lnk_X7_313 (by decide) (Nat.le_of_ble_eq_true rfl) ?_
  refine pw_top (y := nI nj) (max1 hj0 (by omega)) ?_
  refine pw_istore_n (ls2 := [(3, _), (0, _), (1, _), (2, _)]) dX7_drawnSum_22 rfl (by decide) rfl ?_
  refine pw_iconst (v := 1) dX7_drawnSum_23 rfl ?_
  refine pw_aload_n dX7_drawnSum_24 rfl rfl ?_
  refine pw_getR dX7_drawnSum_25 fa_X7_32 rfl ?_
  refine pw_getI dX7_drawnSum_28 fa_X7_103 rfl ?_
  refine pw_top (y := nI nh) (by rw [rdw0 w32]; exact h5) ?_
  refine pw_imax dX7_drawnSum_31 lnk_X7_313 (by decide) (Nat.le_of_ble_eq_true rfl) ?_
  refine pw_top (y := nI nh) (max1 hh0 (by omega)) ?_
  refine pw_istore (ls2 := [(4, _), (3, _), (0, _), (1, _), (2, _)]) dX7_drawnSum_34 (by decide) rfl ?_
  refine pw_iload_n dX7_drawnSum_36 rfl rfl ?_
  refine pw_iconst (v := 1) dX7_drawnSum_37 rfl ?_
  refine pw_iadd dX7_drawnSum_38 ?_
  refine pw_i2l dX7_drawnSum_39 ?_
  refine pw_topl (y := lN (sd + 1)) (by rw [nI_1, nI_l (by omega)]) ?_
  refine pw_lstore (ls2 := [(5, _), (4, _), (3, _), (0, _), (1, _), (2, _)]) dX7_drawnSum_40 (by decide) rfl ?_
  refine pw_iconst (v := 0) dX7_drawnSum_42 rfl ?_
  refine pw_istore (ls2 := [(7, _), (5, _), (4, _), (3, _), (0, _), (1, _), (2, _)]) dX7_drawnSum_43 (by decide) rfl ?_
  refine pw_iconst (v := 0) dX7_drawnSum_45 rfl ?_
  refine pw_istore (ls2 := [(8, _), (7, _), (5, _), (4, _), (3, _), (0, _), (1, _), (2, _)]) dX7_drawnSum_46 (by decide) rfl ?_
  have L_48 : ∀ (fu_48 : Nat) (i a : Nat) (s : Int32) (U X : VW) (nm sk : Nat → Int32), (i ≤ n) → (a ≤ 2147483647) → (U 0 13 = V 0 13) → (EqV nj nh U X) → (drL (bk μ) nj nh (n - i) a X s = drS (bk μ) V nj nh sd n) → n - i < fu_48 → PW l SC RX7 cX7_drawnSum 9 (some .int) 7 (QI fun x m => x = drS (bk μ) V nj nh sd n ∧ ∃ T2 nm2 sk2, m = sc (wr (wr μ 22 V) 32 T2) nm2 sk2) 48 [(0, .ref 0), (2, .int (nI n)), (3, .int (nI nj)), (4, .int (nI nh)), (5, .long (lN a)), (7, .int s), (8, .int (nI i))] [] (sc (wr (wr μ 22 V) 32 U) nm sk) := by
    intro fu_48
    induction fu_48 with
    | zero =>
      intro i a s U X nm sk hi hal hE0 hE hx hm_48
      exact absurd hm_48 (Nat.not_lt_zero _)
    | succ fu_48 ih_48 =>
      intro i a s U X nm sk hi hal hE0 hE hx hm_48
      refine pw_iload dX7_drawnSum_48 rfl ?_
      refine pw_iload_n dX7_drawnSum_50 rfl rfl ?_
      refine pw_icmp_ge (tgt := 100) dX7_drawnSum_51 (by decide) (fun c_51 => ?_) (fun c_51 => ?_)
      · skip
        have hge := nI_geD (by omega) c_51
        refine pw_iload dX7_drawnSum_100 rfl ?_
        refine pw_iret dX7_drawnSum_102 rfl ?_
        have e0 : n - i = 0 := by omega
        rw [e0] at hx
        change s = _ at hx
        exact ⟨hx, _, _, _, rfl⟩
      · skip
        have hlt := nI_ltD (by omega) c_51
        have hcU : okC μ U := okC_V hc hE0
        have hL := lotN_b a
        have hm1 : lotN a % nj < nj := Nat.mod_lt _ hj0
        have hm2 : lotN a / nj % nh < nh := Nat.mod_lt _ hh0
        have hm3 : lotN a / nj ≤ lotN a := Nat.div_le_self _ _
        refine pw_lload dX7_drawnSum_54 rfl ?_
        refine pw_ldc2 dX7_drawnSum_56 k_X7_316 ?_
        refine pw_lmul dX7_drawnSum_59 ?_
        refine pw_topl (y := lN (a * 48271)) (lN_mul a 48271) ?_
        refine pw_ldc2 dX7_drawnSum_60 k_X7_318 ?_
        refine pw_lrem dX7_drawnSum_63 (by decide) ?_
        refine pw_topl (y := lN (lotN a)) (pk_lRem (b := 2147483647) (by omega) (by decide) (by decide)) ?_
        refine pw_lstore (ls2 := [(5, _), (0, _), (2, _), (3, _), (4, _), (7, _), (8, _)]) dX7_drawnSum_64 (by decide) rfl ?_
        refine pw_iload dX7_drawnSum_66 rfl ?_
        refine pw_aload_n dX7_drawnSum_68 rfl rfl ?_
        refine pw_getR dX7_drawnSum_69 fa_X7_32 rfl ?_
        refine pw_lload dX7_drawnSum_72 rfl ?_
        refine pw_iload_n dX7_drawnSum_74 rfl rfl ?_
        refine pw_i2l dX7_drawnSum_75 ?_
        refine pw_topl (y := lN nj) (nI_l (by omega)) ?_
        refine pw_lrem dX7_drawnSum_76 (lN_ne hj0 (by omega)) ?_
        refine pw_topl (y := lN (lotN a % nj)) (pk_lRem (by omega) hj0 (by omega)) ?_
        refine pw_l2i dX7_drawnSum_77 ?_
        refine pw_top (y := nI (lotN a % nj)) (lN_i _) ?_
        refine pw_lload dX7_drawnSum_78 rfl ?_
        refine pw_iload_n dX7_drawnSum_80 rfl rfl ?_
        refine pw_i2l dX7_drawnSum_81 ?_
        refine pw_topl (y := lN nj) (nI_l (by omega)) ?_
        refine pw_ldiv dX7_drawnSum_82 (lN_ne hj0 (by omega)) ?_
        refine pw_topl (y := lN (lotN a / nj)) (pk_lDiv (by omega) hj0 (by omega)) ?_
        refine pw_iload dX7_drawnSum_83 rfl ?_
        refine pw_i2l dX7_drawnSum_85 ?_
        refine pw_topl (y := lN nh) (nI_l (by omega)) ?_
        refine pw_lrem dX7_drawnSum_86 (lN_ne hh0 (by omega)) ?_
        refine pw_topl (y := lN (lotN a / nj % nh)) (pk_lRem (by omega) hh0 (by omega)) ?_
        refine pw_l2i dX7_drawnSum_87 ?_
        refine pw_top (y := nI (lotN a / nj % nh)) (lN_i _) ?_
        refine pw_cVi dX7_drawnSum_88 mv_X7_184 ckThought (tel2 (T := U) (j := lotN a % nj) (h := lotN a / nj % nh) hcU (by omega) (by omega)) rfl rfl (Nat.le_of_ble_eq_true rfl) (by decide) (fun x_88 m_88 h_88 => ?_)
        obtain ⟨rfl, nm1, sk1, rfl⟩ := h_88
        refine pw_iadd dX7_drawnSum_91 ?_
        refine pw_istore (ls2 := [(7, _), (5, _), (0, _), (2, _), (3, _), (4, _), (8, _)]) dX7_drawnSum_92 (by decide) rfl ?_
        refine pw_iinc (ls2 := [(8, _), (7, _), (5, _), (0, _), (2, _), (3, _), (4, _)]) (v := nI (i + 1)) dX7_drawnSum_94 rfl (inc1 i) (by decide) rfl ?_
        refine pw_goto (tgt := 48) dX7_drawnSum_97 (by decide) ?_
        refine pw_sub [3, 4, 5, 6, 2, 1, 0] rfl ?_
        exact ih_48 (i + 1) (lotN a) _ _ _ nm1 sk1 hlt (by omega) hE0 (tellV_c (B := bk μ) hE hm1 hm2) (by rw [← hx, show n - i = (n - (i + 1)) + 1 by omega]; show _ = drL (bk μ) nj nh _ (lotN a) (tellV (bk μ) X (lotN a % nj) (lotN a / nj % nh)) (s + yF (bk μ) X (lotN a % nj) (lotN a / nj % nh)); rw [yF_c hE hm1 hm2]) (by omega)
  refine pw_sub [5, 7, 4, 3, 2, 1, 0] rfl ?_
  exact L_48 (n + 1) 0 (sd + 1) 0 _ V nm sk (Nat.zero_le _) (by omega) rfl (EqV_mono hj5 hh6 cp_E) rfl (by omega)

set_option maxHeartbeats 4000000 in
set_option maxRecDepth 100000 in
theorem T_X7_drawn {l : Launch} {μ : PM} {V T : VW} {nm sk : Nat → Int32} {nj nh : Nat} {sd n : Int32} (hc : okC μ V) (h1 : V 0 1 = nI nj) (hj5 : nj ≤ 5) (h5 : V 0 5 = nI nh) (hh6 : nh ≤ 6) : CT l SC yX7_drawn cX7_drawn 3 (some .int) 8 [.ref 0, .int sd, .int n] (sc (wr (wr μ 22 V) 32 T) nm sk) (QI fun x m => x = drawnF (bk μ) V nj nh sd n ∧ ∃ T2 nm2 sk2, m = sc (wr (wr μ 22 V) 32 T2) nm2 sk2) := by
  refine CT.of rfl (Nat.le_of_ble_eq_true rfl) ?_
  show PW l SC RX7 cX7_drawn 3 (some .int) 8 _ 0 [(0, .ref 0), (1, .int sd), (2, .int n)] [] (sc (wr (wr μ 22 V) 32 T) nm sk)
  refine pw_iload_n dX7_drawn_0 rfl rfl ?_
  refine pw_iconst (v := 0) dX7_drawn_1 rfl ?_
  refine pw_ldcw dX7_drawn_2 k_X7_306 ?_
  refine pw_cSi dX7_drawn_5 ms_X7_116 T_X7_within rfl rfl (Nat.le_of_ble_eq_true rfl) (by decide) (fun x_5 m_5 h_5 => ?_)
  obtain ⟨rfl, rfl⟩ := h_5
  refine pw_if_eq (tgt := 21) dX7_drawn_8 (by decide) (fun c_8 => ?_) (fun c_8 => ?_)
  · skip
    have hb_8 := b2_0 c_8
    refine pw_bipush (v := (-2)) dX7_drawn_21 rfl ?_
    refine pw_iret dX7_drawn_23 rfl ?_
    exact ⟨by unfold drawnF; rw [hb_8]; rfl, _, _, _, rfl⟩
  · skip
    have hb_8 := b2_n c_8
    refine pw_iload_n dX7_drawn_11 rfl rfl ?_
    refine pw_iconst (v := 0) dX7_drawn_12 rfl ?_
    refine pw_bipush (v := 50) dX7_drawn_13 rfl ?_
    refine pw_cSi dX7_drawn_15 ms_X7_116 T_X7_within rfl rfl (Nat.le_of_ble_eq_true rfl) (by decide) (fun x_15 m_15 h_15 => ?_)
    obtain ⟨rfl, rfl⟩ := h_15
    refine pw_if_ne (tgt := 24) dX7_drawn_18 (by decide) (fun c_18 => ?_) (fun c_18 => ?_)
    · skip
      have hb_18 := b2_n c_18
      refine pw_aload_n dX7_drawn_24 rfl rfl ?_
      refine pw_getR dX7_drawn_25 fa_X7_28 rfl ?_
      refine pw_cVi dX7_drawn_28 mv_X7_194 ckNow (canN h1 h5 hj5 hh6) rfl rfl (Nat.le_of_ble_eq_true rfl) (by decide) (fun x_28 m_28 h_28 => ?_)
      obtain ⟨rfl, rfl⟩ := h_28
      refine pw_if_eq (tgt := 43) dX7_drawn_31 (by decide) (fun c_31 => ?_) (fun c_31 => ?_)
      · skip
        have hb_31 := b2_0 c_31
        refine pw_iconst (v := (-1)) dX7_drawn_43 rfl ?_
        refine pw_iret dX7_drawn_44 rfl ?_
        exact ⟨by unfold drawnF canF; rw [hb_8, hb_18, hb_31]; rfl, _, _, _, rfl⟩
      · skip
        have hb_31 := b2_n c_31
        refine pw_aload_n dX7_drawn_34 rfl rfl ?_
        refine pw_iload_n dX7_drawn_35 rfl rfl ?_
        refine pw_iload_n dX7_drawn_36 rfl rfl ?_
        have hcan := canF_p hb_31
        obtain ⟨sd, hsd, rfl⟩ := in_trueL (n := 99999) hb_8 (by decide)
        obtain ⟨n, hn, rfl⟩ := in_trueL (n := 50) hb_18 (by decide)
        refine pw_cVi dX7_drawn_37 mv_X7_307 ckMain (T_X7_drawnSum hc h1 hj5 h5 hh6 hcan.1 hcan.2 (by omega) hn) rfl rfl (Nat.le_of_ble_eq_true rfl) (by decide) (fun x_37 m_37 h_37 => ?_)
        obtain ⟨rfl, T1, nm1, sk1, rfl⟩ := h_37
        refine pw_goto (tgt := 44) dX7_drawn_40 (by decide) ?_
        refine pw_iret dX7_drawn_44 rfl ?_
        exact ⟨by unfold drawnF canF; rw [show inF (nI sd) 0 99999 = true from hb_8, show inF (nI n) 0 50 = true from hb_18, hb_31, cl_nI (by omega), cl_nI (by omega)]; rfl, _, _, _, rfl⟩
    · skip
      have hb_18 := b2_0 c_18
      refine pw_bipush (v := (-2)) dX7_drawn_21 rfl ?_
      refine pw_iret dX7_drawn_23 rfl ?_
      exact ⟨by unfold drawnF; rw [hb_8, hb_18]; rfl, _, _, _, rfl⟩

set_option maxHeartbeats 4000000 in
set_option maxRecDepth 100000 in
theorem T_X7_commonDivisor {l : Launch} {Ω : SH} {μ : PM} {a b : Nat} (ha : a ≤ 1000) (hb0 : 0 < b) (hb : b ≤ 1000) : CT l Ω yX7_commonDivisor cX7_commonDivisor 3 (some .int) 2 [.int (nI a), .int (nI b)] μ (QI fun x m => x = nI (gcL a b b) ∧ m = μ) := by
  refine CT.of rfl (Nat.le_of_ble_eq_true rfl) ?_
  show PW l Ω RX7 cX7_commonDivisor 3 (some .int) 2 _ 0 [(0, .int (nI a)), (1, .int (nI b))] [] μ
  refine pw_iconst (v := 1) dX7_commonDivisor_0 rfl ?_
  refine pw_iload_n dX7_commonDivisor_1 rfl rfl ?_
  refine pw_imax dX7_commonDivisor_2 lnk_X7_313 (by decide) (Nat.le_of_ble_eq_true rfl) ?_
  refine pw_top (y := nI b) (max1 hb0 (by omega)) ?_
  refine pw_istore_n (ls2 := [(2, _), (0, _), (1, _)]) dX7_commonDivisor_5 rfl (by decide) rfl ?_
  have L_6 : ∀ (fu_6 : Nat) (d : Nat), (1 ≤ d) → (d ≤ b) → (gcL a b d = gcL a b b) → d < fu_6 → PW l Ω RX7 cX7_commonDivisor 3 (some .int) 2 (QI fun x m => x = nI (gcL a b b) ∧ m = μ) 6 [(0, .int (nI a)), (1, .int (nI b)), (2, .int (nI d))] [] (μ) := by
    intro fu_6
    induction fu_6 with
    | zero =>
      intro d hd1 hd2 hx hm_6
      exact absurd hm_6 (Nat.not_lt_zero _)
    | succ fu_6 ih_6 =>
      intro d hd1 hd2 hx hm_6
      refine pw_iload_n dX7_commonDivisor_6 rfl rfl ?_
      refine pw_iconst (v := 1) dX7_commonDivisor_7 rfl ?_
      refine pw_icmp_le (tgt := 31) dX7_commonDivisor_8 (by decide) (fun c_8 => ?_) (fun c_8 => ?_)
      · skip
        have h1d : d ≤ 1 := (nI_leI (b := 1) (by omega) (by decide)).mp c_8
        refine pw_iconst (v := 1) dX7_commonDivisor_31 rfl ?_
        refine pw_iret dX7_commonDivisor_32 rfl ?_
        exact ⟨by rw [← hx, show d = 1 by omega]; rfl, rfl⟩
      · skip
        have h1d : 1 < d := by
          rcases Nat.lt_or_ge 1 d with q | q
          · exact q
          · exact absurd (nI_le (b := 1) q (by decide)) c_8
        refine pw_iload_n dX7_commonDivisor_11 rfl rfl ?_
        refine pw_iload_n dX7_commonDivisor_12 rfl rfl ?_
        refine pw_irem dX7_commonDivisor_13 (nI_ne0 (by omega) (by omega)) ?_
        refine pw_top (y := nI (a % d)) (pk_rem (by omega) (by omega) (by omega)) ?_
        refine pw_if_ne (tgt := 25) dX7_commonDivisor_14 (by decide) (fun c_14 => ?_) (fun c_14 => ?_)
        · skip
          have hm : ¬ a % d = 0 := fun h => c_14 (by rw [h]; rfl)
          refine pw_iinc (ls2 := [(2, _), (0, _), (1, _)]) (v := nI (d - 1)) dX7_commonDivisor_25 rfl (by rw [show d = (d - 1) + 1 by omega]; exact pk_m1 _) (by decide) rfl ?_
          refine pw_goto (tgt := 6) dX7_commonDivisor_28 (by decide) ?_
          refine pw_sub [1, 2, 0] rfl ?_
          exact ih_6 (d - 1) (by omega) (by omega) (by rw [← hx]; obtain ⟨e, rfl⟩ : ∃ e, d = e + 1 := ⟨d - 1, by omega⟩; show gcL a b e = if _ then _ else if _ then (if _ then _ else _) else _; rw [if_neg (by omega), if_neg hm]) (by omega)
        · skip
          have hm : a % d = 0 := (nI_eq (b := 0) (by have := Nat.mod_le a d; omega) (by decide)).mp c_14
          refine pw_iload_n dX7_commonDivisor_17 rfl rfl ?_
          refine pw_iload_n dX7_commonDivisor_18 rfl rfl ?_
          refine pw_irem dX7_commonDivisor_19 (nI_ne0 (by omega) (by omega)) ?_
          refine pw_top (y := nI (b % d)) (pk_rem (by omega) (by omega) (by omega)) ?_
          refine pw_if_ne (tgt := 25) dX7_commonDivisor_20 (by decide) (fun c_20 => ?_) (fun c_20 => ?_)
          · skip
            have hm2 : ¬ b % d = 0 := fun h => c_20 (by rw [h]; rfl)
            refine pw_iinc (ls2 := [(2, _), (0, _), (1, _)]) (v := nI (d - 1)) dX7_commonDivisor_25 rfl (by rw [show d = (d - 1) + 1 by omega]; exact pk_m1 _) (by decide) rfl ?_
            refine pw_goto (tgt := 6) dX7_commonDivisor_28 (by decide) ?_
            refine pw_sub [1, 2, 0] rfl ?_
            exact ih_6 (d - 1) (by omega) (by omega) (by rw [← hx]; obtain ⟨e, rfl⟩ : ∃ e, d = e + 1 := ⟨d - 1, by omega⟩; show gcL a b e = if _ then _ else if _ then (if _ then _ else _) else _; rw [if_neg (by omega), if_pos hm, if_neg hm2]) (by omega)
          · skip
            have hm2 : b % d = 0 := (nI_eq (b := 0) (by have := Nat.mod_le b d; omega) (by decide)).mp c_20
            refine pw_iload_n dX7_commonDivisor_23 rfl rfl ?_
            refine pw_iret dX7_commonDivisor_24 rfl ?_
            refine ⟨?_, rfl⟩
            rw [← hx]
            obtain ⟨e, rfl⟩ : ∃ e, d = e + 1 := ⟨d - 1, by omega⟩
            show _ = nI (if _ then _ else if _ then (if _ then _ else _) else _)
            rw [if_neg (by omega), if_pos hm, if_pos hm2]
  refine pw_sub [1, 2, 0] rfl ?_
  exact L_6 (b + 1) b hb0 (Nat.le_refl _) rfl (by omega)

set_option maxHeartbeats 4000000 in
set_option maxRecDepth 100000 in
theorem T_X7_odds {l : Launch} {μ : PM} {V T : VW} {nm sk : Nat → Int32} {nj nh : Nat} {sd ms mu pa : Int32} (hc : okC μ V) (h1 : V 0 1 = nI nj) (hj5 : nj ≤ 5) (h5 : V 0 5 = nI nh) (hh6 : nh ≤ 6) : CT l SC yX7_odds cX7_odds 10 (some .long) 8 [.ref 0, .int sd, .int ms, .int mu, .int pa] (sc (wr (wr μ 22 V) 32 T) nm sk) (QL fun x m => x = oddsF (bk μ) V nj nh sd ms mu pa ∧ ∃ T2 nm2 sk2, m = sc (wr (wr μ 22 V) 32 T2) nm2 sk2) := by
  refine CT.of rfl (Nat.le_of_ble_eq_true rfl) ?_
  show PW l SC RX7 cX7_odds 10 (some .long) 8 _ 0 [(0, .ref 0), (1, .int sd), (2, .int ms), (3, .int mu), (4, .int pa)] [] (sc (wr (wr μ 22 V) 32 T) nm sk)
  refine pw_iload_n dX7_odds_0 rfl rfl ?_
  refine pw_iconst (v := 0) dX7_odds_1 rfl ?_
  refine pw_ldcw dX7_odds_2 k_X7_306 ?_
  refine pw_cSi dX7_odds_5 ms_X7_116 T_X7_within rfl rfl (Nat.le_of_ble_eq_true rfl) (by decide) (fun x_5 m_5 h_5 => ?_)
  obtain ⟨rfl, rfl⟩ := h_5
  refine pw_if_eq (tgt := 36) dX7_odds_8 (by decide) (fun c_8 => ?_) (fun c_8 => ?_)
  · skip
    have hb_8 := b2_0 c_8
    refine pw_iconst (v := 0) dX7_odds_36 rfl ?_
    refine pw_istore (ls2 := [(5, _), (0, _), (1, _), (2, _), (3, _), (4, _)]) dX7_odds_37 (by decide) rfl ?_
    refine pw_iload dX7_odds_39 rfl ?_
    refine pw_if_eq (tgt := 58) dX7_odds_41 (by decide) (fun c_41 => ?_) (fun c_41 => ?_)
    · skip
      refine pw_ldc2 dX7_odds_58 k_X7_245 ?_
      refine pw_lret dX7_odds_61 rfl ?_
      exact ⟨by unfold oddsF canF; rw [hb_8]; rfl, _, _, _, rfl⟩
    · skip
      exact absurd rfl c_41
  · skip
    have hb_8 := b2_n c_8
    refine pw_iload_n dX7_odds_11 rfl rfl ?_
    refine pw_iconst (v := 0) dX7_odds_12 rfl ?_
    refine pw_sipush (v := 9999) dX7_odds_13 rfl ?_
    refine pw_cSi dX7_odds_16 ms_X7_116 T_X7_within rfl rfl (Nat.le_of_ble_eq_true rfl) (by decide) (fun x_16 m_16 h_16 => ?_)
    obtain ⟨rfl, rfl⟩ := h_16
    refine pw_if_eq (tgt := 36) dX7_odds_19 (by decide) (fun c_19 => ?_) (fun c_19 => ?_)
    · skip
      have hb_19 := b2_0 c_19
      refine pw_iconst (v := 0) dX7_odds_36 rfl ?_
      refine pw_istore (ls2 := [(5, _), (0, _), (1, _), (2, _), (3, _), (4, _)]) dX7_odds_37 (by decide) rfl ?_
      refine pw_iload dX7_odds_39 rfl ?_
      refine pw_if_eq (tgt := 58) dX7_odds_41 (by decide) (fun c_41 => ?_) (fun c_41 => ?_)
      · skip
        refine pw_ldc2 dX7_odds_58 k_X7_245 ?_
        refine pw_lret dX7_odds_61 rfl ?_
        exact ⟨by unfold oddsF canF; rw [hb_8, hb_19]; rfl, _, _, _, rfl⟩
      · skip
        exact absurd rfl c_41
    · skip
      have hb_19 := b2_n c_19
      refine pw_iload dX7_odds_22 rfl ?_
      refine pw_iconst (v := 0) dX7_odds_24 rfl ?_
      refine pw_iconst (v := 1) dX7_odds_25 rfl ?_
      refine pw_cSi dX7_odds_26 ms_X7_116 T_X7_within rfl rfl (Nat.le_of_ble_eq_true rfl) (by decide) (fun x_26 m_26 h_26 => ?_)
      obtain ⟨rfl, rfl⟩ := h_26
      refine pw_if_eq (tgt := 36) dX7_odds_29 (by decide) (fun c_29 => ?_) (fun c_29 => ?_)
      · skip
        have hb_29 := b2_0 c_29
        refine pw_iconst (v := 0) dX7_odds_36 rfl ?_
        refine pw_istore (ls2 := [(5, _), (0, _), (1, _), (2, _), (3, _), (4, _)]) dX7_odds_37 (by decide) rfl ?_
        refine pw_iload dX7_odds_39 rfl ?_
        refine pw_if_eq (tgt := 58) dX7_odds_41 (by decide) (fun c_41 => ?_) (fun c_41 => ?_)
        · skip
          refine pw_ldc2 dX7_odds_58 k_X7_245 ?_
          refine pw_lret dX7_odds_61 rfl ?_
          exact ⟨by unfold oddsF canF; rw [hb_8, hb_19, hb_29]; rfl, _, _, _, rfl⟩
        · skip
          exact absurd rfl c_41
      · skip
        have hb_29 := b2_n c_29
        refine pw_iconst (v := 1) dX7_odds_32 rfl ?_
        refine pw_goto (tgt := 37) dX7_odds_33 (by decide) ?_
        refine pw_istore (ls2 := [(5, _), (0, _), (1, _), (2, _), (3, _), (4, _)]) dX7_odds_37 (by decide) rfl ?_
        refine pw_iload dX7_odds_39 rfl ?_
        refine pw_if_eq (tgt := 58) dX7_odds_41 (by decide) (fun c_41 => ?_) (fun c_41 => ?_)
        · skip
          exact absurd c_41 (by decide)
        · skip
          refine pw_iload_n dX7_odds_44 rfl rfl ?_
          refine pw_if_lt (tgt := 58) dX7_odds_45 (by decide) (fun c_45 => ?_) (fun c_45 => ?_)
          · skip
            refine pw_ldc2 dX7_odds_58 k_X7_245 ?_
            refine pw_lret dX7_odds_61 rfl ?_
            exact ⟨by unfold oddsF canF; rw [hb_8, hb_19, hb_29, decide_eq_true c_45]; rfl, _, _, _, rfl⟩
          · skip
            refine pw_aload_n dX7_odds_48 rfl rfl ?_
            refine pw_getR dX7_odds_49 fa_X7_28 rfl ?_
            refine pw_cVi dX7_odds_52 mv_X7_194 ckNow (canN h1 h5 hj5 hh6) rfl rfl (Nat.le_of_ble_eq_true rfl) (by decide) (fun x_52 m_52 h_52 => ?_)
            obtain ⟨rfl, rfl⟩ := h_52
            refine pw_if_ne (tgt := 62) dX7_odds_55 (by decide) (fun c_55 => ?_) (fun c_55 => ?_)
            · skip
              have hb_55 := b2_n c_55
              have hcan := canF_p hb_55
              obtain ⟨sd, hsd, rfl⟩ := in_trueL (n := 99999) hb_8 (by decide)
              obtain ⟨q, hq, rfl⟩ := nI_of c_45
              have hok : oddsF (bk μ) V nj nh (nI sd) (nI q) mu pa = odF (bk μ) V nj nh sd q mu pa := by
                unfold oddsF canF
                rw [show inF (nI sd) 0 99999 = true from hb_8, hb_19, hb_29, hb_55, decide_eq_false c_45, cl_nI (by omega), cl_nI hq]
                rfl
              refine pw_iload_n dX7_odds_62 rfl rfl ?_
              refine pw_bipush (v := 100) dX7_odds_63 rfl ?_
              refine pw_idiv dX7_odds_65 (by decide) ?_
              refine pw_top (y := nI (q / 100)) (pk_div hq (by decide) (by decide)) ?_
              refine pw_istore (ls2 := [(6, _), (5, _), (0, _), (1, _), (2, _), (3, _), (4, _)]) dX7_odds_66 (by decide) rfl ?_
              refine pw_iload_n dX7_odds_68 rfl rfl ?_
              refine pw_bipush (v := 100) dX7_odds_69 rfl ?_
              refine pw_irem dX7_odds_71 (by decide) ?_
              refine pw_top (y := nI (q % 100)) (pk_rem hq (by decide) (by decide)) ?_
              refine pw_istore (ls2 := [(7, _), (6, _), (5, _), (0, _), (1, _), (2, _), (3, _), (4, _)]) dX7_odds_72 (by decide) rfl ?_
              refine pw_iload dX7_odds_74 rfl ?_
              refine pw_bipush (v := 50) dX7_odds_76 rfl ?_
              refine pw_icmp_gt (tgt := 92) dX7_odds_78 (by decide) (fun c_78 => ?_) (fun c_78 => ?_)
              · skip
                have hg50 : 50 < q / 100 := (nI_ltI (a := 50) (by decide) (by omega)).mp c_78
                refine pw_ldc2 dX7_odds_92 k_X7_245 ?_
                refine pw_lret dX7_odds_95 rfl ?_
                exact ⟨by rw [hok]; unfold odF; rw [if_neg (by omega)]; rfl, _, _, _, rfl⟩
              · skip
                have hl50 : q / 100 ≤ 50 := by
                  rcases Nat.lt_or_ge 50 (q / 100) with g | g
                  · exact absurd (nI_lt (a := 50) g (by omega)) c_78
                  · exact g
                refine pw_iload dX7_odds_81 rfl ?_
                refine pw_iconst (v := 1) dX7_odds_83 rfl ?_
                refine pw_bipush (v := 50) dX7_odds_84 rfl ?_
                refine pw_cSi dX7_odds_86 ms_X7_116 T_X7_within rfl rfl (Nat.le_of_ble_eq_true rfl) (by decide) (fun x_86 m_86 h_86 => ?_)
                obtain ⟨rfl, rfl⟩ := h_86
                refine pw_if_ne (tgt := 96) dX7_odds_89 (by decide) (fun c_89 => ?_) (fun c_89 => ?_)
                · skip
                  have hb_89 := b2_n c_89
                  have hsc1 : q % 100 ≤ 50 := by
                    obtain ⟨z, hz, ez⟩ := in_trueL (n := 50) (inF_up hb_89) (by decide)
                    have := (nI_eq (by omega) (by omega)).mp ez
                    omega
                  have hsc0 : 1 ≤ q % 100 := by
                    rcases Nat.eq_zero_or_pos (q % 100) with g | g
                    · rw [g] at hb_89; exact absurd hb_89 (by decide)
                    · exact g
                  refine pw_iconst (v := 0) dX7_odds_96 rfl ?_
                  refine pw_istore (ls2 := [(8, _), (7, _), (6, _), (5, _), (0, _), (1, _), (2, _), (3, _), (4, _)]) dX7_odds_97 (by decide) rfl ?_
                  refine pw_iconst (v := 0) dX7_odds_99 rfl ?_
                  refine pw_istore (ls2 := [(9, _), (8, _), (7, _), (6, _), (5, _), (0, _), (1, _), (2, _), (3, _), (4, _)]) dX7_odds_100 (by decide) rfl ?_
                  have L_102 : ∀ (fu_102 : Nat) (k ab : Nat) (T : VW) (nm sk : Nat → Int32), (k ≤ q % 100) → (ab ≤ k) → (abL (bk μ) V nj nh sd (q / 100) mu (q % 100 - k) k ab = odA (bk μ) V nj nh sd q mu) → q % 100 - k < fu_102 → PW l SC RX7 cX7_odds 10 (some .long) 8 (QL fun x m => x = oddsF (bk μ) V nj nh (nI sd) (nI q) mu pa ∧ ∃ T2 nm2 sk2, m = sc (wr (wr μ 22 V) 32 T2) nm2 sk2) 102 [(0, .ref 0), (1, .int (nI sd)), (3, .int mu), (4, .int pa), (6, .int (nI (q / 100))), (7, .int (nI (q % 100))), (8, .int (nI ab)), (9, .int (nI k))] [] (sc (wr (wr μ 22 V) 32 T) nm sk) := by
                    intro fu_102
                    induction fu_102 with
                    | zero =>
                      intro k ab T nm sk hk hab hx hm_102
                      exact absurd hm_102 (Nat.not_lt_zero _)
                    | succ fu_102 ih_102 =>
                      intro k ab T nm sk hk hab hx hm_102
                      refine pw_iload dX7_odds_102 rfl ?_
                      refine pw_iload dX7_odds_104 rfl ?_
                      refine pw_icmp_ge (tgt := 132) dX7_odds_106 (by decide) (fun c_106 => ?_) (fun c_106 => ?_)
                      · skip
                        have hge := nI_geD (by omega) c_106
                        have e0 : q % 100 - k = 0 := by omega
                        rw [e0] at hx
                        change ab = _ at hx
                        subst hx
                        have hod : odF (bk μ) V nj nh sd q mu pa = lN ((if pa = 0 then odA (bk μ) V nj nh sd q mu else q % 100) / gcL (odA (bk μ) V nj nh sd q mu) (q % 100) (q % 100)) := by
                          unfold odF
                          rw [if_pos ⟨hl50, hsc0, hsc1⟩]
                        have hgc := gcL_pos (odA (bk μ) V nj nh sd q mu) (q % 100) (q % 100)
                        rw [Nat.max_eq_right hsc0] at hgc
                        refine pw_iload dX7_odds_132 rfl ?_
                        refine pw_iload dX7_odds_134 rfl ?_
                        refine pw_cSi dX7_odds_136 ms_X7_310 (T_X7_commonDivisor (by omega) (by omega) (by omega)) rfl rfl (Nat.le_of_ble_eq_true rfl) (by decide) (fun x_136 m_136 h_136 => ?_)
                        obtain ⟨rfl, rfl⟩ := h_136
                        refine pw_istore (ls2 := [(9, _), (0, _), (1, _), (3, _), (4, _), (6, _), (7, _), (8, _)]) dX7_odds_139 (by decide) rfl ?_
                        refine pw_iload dX7_odds_141 rfl ?_
                        refine pw_if_ne (tgt := 151) dX7_odds_143 (by decide) (fun c_143 => ?_) (fun c_143 => ?_)
                        · skip
                          refine pw_iload dX7_odds_151 rfl ?_
                          refine pw_iload dX7_odds_153 rfl ?_
                          refine pw_idiv dX7_odds_155 (nI_ne0 (by omega) (by omega)) ?_
                          refine pw_top (y := nI (q % 100 / gcL (odA (bk μ) V nj nh sd q mu) (q % 100) (q % 100))) (pk_div (by omega) (by omega) (by omega)) ?_
                          refine pw_i2l dX7_odds_156 ?_
                          refine pw_topl (y := lN (q % 100 / gcL (odA (bk μ) V nj nh sd q mu) (q % 100) (q % 100))) (nI_l (by have := Nat.div_le_self (q % 100) (gcL (odA (bk μ) V nj nh sd q mu) (q % 100) (q % 100)); omega)) ?_
                          refine pw_lret dX7_odds_157 rfl ?_
                          exact ⟨by rw [hok, hod, if_neg c_143], _, _, _, rfl⟩
                        · skip
                          refine pw_iload dX7_odds_146 rfl ?_
                          refine pw_goto (tgt := 153) dX7_odds_148 (by decide) ?_
                          refine pw_iload dX7_odds_153 rfl ?_
                          refine pw_idiv dX7_odds_155 (nI_ne0 (by omega) (by omega)) ?_
                          refine pw_top (y := nI (odA (bk μ) V nj nh sd q mu / gcL (odA (bk μ) V nj nh sd q mu) (q % 100) (q % 100))) (pk_div (by omega) (by omega) (by omega)) ?_
                          refine pw_i2l dX7_odds_156 ?_
                          refine pw_topl (y := lN (odA (bk μ) V nj nh sd q mu / gcL (odA (bk μ) V nj nh sd q mu) (q % 100) (q % 100))) (nI_l (by have := Nat.div_le_self (odA (bk μ) V nj nh sd q mu) (gcL (odA (bk μ) V nj nh sd q mu) (q % 100) (q % 100)); omega)) ?_
                          refine pw_lret dX7_odds_157 rfl ?_
                          exact ⟨by rw [hok, hod, if_pos c_143], _, _, _, rfl⟩
                      · skip
                        have hlt := nI_ltD (by omega) c_106
                        refine pw_aload_n dX7_odds_109 rfl rfl ?_
                        refine pw_iload_n dX7_odds_110 rfl rfl ?_
                        refine pw_iload dX7_odds_111 rfl ?_
                        refine pw_iadd dX7_odds_113 ?_
                        refine pw_top (y := nI (sd + k)) (nI_add _ _) ?_
                        refine pw_iload dX7_odds_114 rfl ?_
                        refine pw_cVi dX7_odds_116 mv_X7_307 ckMain (T_X7_drawnSum (sd := sd + k) (n := q / 100) hc h1 hj5 h5 hh6 hcan.1 hcan.2 (by omega) hl50) rfl rfl (Nat.le_of_ble_eq_true rfl) (by decide) (fun x_116 m_116 h_116 => ?_)
                        obtain ⟨rfl, T1, nm1, sk1, rfl⟩ := h_116
                        refine pw_iload_n dX7_odds_119 rfl rfl ?_
                        refine pw_icmp_lt (tgt := 126) dX7_odds_120 (by decide) (fun c_120 => ?_) (fun c_120 => ?_)
                        · skip
                          refine pw_iinc (ls2 := [(9, _), (0, _), (1, _), (3, _), (4, _), (6, _), (7, _), (8, _)]) (v := nI (k + 1)) dX7_odds_126 rfl (inc1 k) (by decide) rfl ?_
                          refine pw_goto (tgt := 102) dX7_odds_129 (by decide) ?_
                          refine pw_sub [1, 2, 3, 4, 5, 6, 7, 0] rfl ?_
                          exact ih_102 (k + 1) ab T1 nm1 sk1 hlt (by omega) (by rw [← hx, show q % 100 - k = (q % 100 - (k + 1)) + 1 by omega]; show _ = abL (bk μ) V nj nh sd _ mu _ (k + 1) (if _ then _ else _); rw [if_pos c_120]) (by omega)
                        · skip
                          refine pw_iinc (ls2 := [(8, _), (0, _), (1, _), (3, _), (4, _), (6, _), (7, _), (9, _)]) (v := nI (ab + 1)) dX7_odds_123 rfl (inc1 ab) (by decide) rfl ?_
                          refine pw_iinc (ls2 := [(9, _), (8, _), (0, _), (1, _), (3, _), (4, _), (6, _), (7, _)]) (v := nI (k + 1)) dX7_odds_126 rfl (inc1 k) (by decide) rfl ?_
                          refine pw_goto (tgt := 102) dX7_odds_129 (by decide) ?_
                          refine pw_sub [2, 3, 4, 5, 6, 7, 1, 0] rfl ?_
                          exact ih_102 (k + 1) (ab + 1) T1 nm1 sk1 hlt (by omega) (by rw [← hx, show q % 100 - k = (q % 100 - (k + 1)) + 1 by omega]; show _ = abL (bk μ) V nj nh sd _ mu _ (k + 1) (if _ then _ else _); rw [if_neg c_120]) (by omega)
                  refine pw_sub [5, 6, 8, 9, 3, 2, 1, 0] rfl ?_
                  exact L_102 (q % 100 + 1) 0 0 T nm sk (Nat.zero_le _) (Nat.le_refl _) rfl (by omega)
                · skip
                  have hb_89 := b2_0 c_89
                  refine pw_ldc2 dX7_odds_92 k_X7_245 ?_
                  refine pw_lret dX7_odds_95 rfl ?_
                  exact ⟨by rw [hok]; unfold odF; rw [if_neg (fun h => by rw [inI1 h.2.1 h.2.2] at hb_89; exact absurd hb_89 (by decide))]; rfl, _, _, _, rfl⟩
            · skip
              have hb_55 := b2_0 c_55
              refine pw_ldc2 dX7_odds_58 k_X7_245 ?_
              refine pw_lret dX7_odds_61 rfl ?_
              exact ⟨by unfold oddsF canF; rw [hb_8, hb_19, hb_29, decide_eq_false c_45, hb_55]; rfl, _, _, _, rfl⟩

set_option maxHeartbeats 4000000 in
set_option maxRecDepth 100000 in
theorem T_X7_image {l : Launch} {μ : PM} {V K : VW} {nm sk : Nat → Int32} : CT l SC yX7_image cX7_image 1 (some .int) 2 [.ref 0] (sc (wr (wr μ 22 V) 42 K) nm sk) (QI fun x m => x = V 0 1 ∧ m = si (sc (wr (wr μ 22 V) 42 (cpV V K)) nm sk) 0 5 1) := by
  refine CT.of rfl (Nat.le_of_ble_eq_true rfl) ?_
  show PW l SC RX7 cX7_image 1 (some .int) 2 _ 0 [(0, .ref 0)] [] (sc (wr (wr μ 22 V) 42 K) nm sk)
  refine pw_aload_n dX7_image_0 rfl rfl ?_
  refine pw_getR dX7_image_1 fa_X7_35 rfl ?_
  refine pw_aload_n dX7_image_4 rfl rfl ?_
  refine pw_getR dX7_image_5 fa_X7_28 rfl ?_
  refine pw_cVv dX7_image_8 mv_X7_197 ckKept (T_X6_copyFrom i42_22) rfl rfl (Nat.le_of_ble_eq_true rfl) (by decide) (fun m_8 h_8 => ?_)
  obtain rfl := h_8
  refine pw_aload_n dX7_image_11 rfl rfl ?_
  refine pw_iconst (v := 1) dX7_image_12 rfl ?_
  refine pw_putZ dX7_image_13 fa_X7_38 (Or.inr rfl) rfl ?_
  refine pw_aload_n dX7_image_16 rfl rfl ?_
  refine pw_getR dX7_image_17 fa_X7_35 rfl ?_
  refine pw_getI dX7_image_20 fa_X7_99 rfl ?_
  refine pw_top (y := V 0 1) (by rw [si_other _ _ _ _ (by decide), rd42]; rfl) ?_
  refine pw_iret dX7_image_23 rfl ?_
  exact ⟨rfl, rfl⟩

set_option maxHeartbeats 4000000 in
set_option maxRecDepth 100000 in
theorem T_X7_back {l : Launch} {μ : PM} {V K : VW} {nm sk : Nat → Int32} : CT l SC yX7_back cX7_back 1 (some .int) 2 [.ref 0] (sc (wr (wr μ 42 K) 22 V) nm sk) (QI fun x m => x = (if μ.1 0 5 = 0 then -3 else K 0 1) ∧ m = (if μ.1 0 5 = 0 then sc (wr (wr μ 42 K) 22 V) nm sk else sc (wr (wr μ 42 K) 22 (cpV K V)) nm sk)) := by
  refine CT.of rfl (Nat.le_of_ble_eq_true rfl) ?_
  show PW l SC RX7 cX7_back 1 (some .int) 2 _ 0 [(0, .ref 0)] [] (sc (wr (wr μ 42 K) 22 V) nm sk)
  refine pw_aload_n dX7_back_0 rfl rfl ?_
  refine pw_getI dX7_back_1 fa_X7_38 rfl ?_
  refine pw_top (y := μ.1 0 5) rfl ?_
  refine pw_if_ne (tgt := 10) dX7_back_4 (by decide) (fun c_4 => ?_) (fun c_4 => ?_)
  · skip
    refine pw_aload_n dX7_back_10 rfl rfl ?_
    refine pw_getR dX7_back_11 fa_X7_28 rfl ?_
    refine pw_aload_n dX7_back_14 rfl rfl ?_
    refine pw_getR dX7_back_15 fa_X7_35 rfl ?_
    refine pw_cVv dX7_back_18 mv_X7_197 ckNow (T_X6_copyFrom i22_42) rfl rfl (Nat.le_of_ble_eq_true rfl) (by decide) (fun m_18 h_18 => ?_)
    obtain rfl := h_18
    refine pw_aload_n dX7_back_21 rfl rfl ?_
    refine pw_getR dX7_back_22 fa_X7_28 rfl ?_
    refine pw_getI dX7_back_25 fa_X7_99 rfl ?_
    refine pw_top (y := K 0 1) (by rw [rdw0 w22]; rfl) ?_
    refine pw_iret dX7_back_28 rfl ?_
    exact ⟨by rw [if_neg c_4], by rw [if_neg c_4]⟩
  · skip
    refine pw_bipush (v := (-3)) dX7_back_7 rfl ?_
    refine pw_iret dX7_back_9 rfl ?_
    exact ⟨by rw [if_pos c_4], by rw [if_pos c_4]⟩

