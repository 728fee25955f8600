/-! CONTRACTS OF THE TWO CONSTRUCTORS -/
def ZX (below : List Frame) (X : CX) (h0 : Nat) (Ω : SH) (Q : PM → Prop) (args : Array Value) (s : State) (mc ms : Nat) (A : Nat → Prop) : State → Prop := MQ below (va_Qv (fun u : List Nat × PM => Q u.2) (fun u U => va_P X.1 vwCl (wsO Ω X.2.1 (adX Ω.1 (h0 :: u.1) X.2.2.1) u.2) U.heap ∧ va_D A (wsO Ω X.2.1 (adX Ω.1 (h0 :: u.1) X.2.2.1) u.2)) A) args s mc ms A
/-- over a fresh object h0 it comes back with a whole world Ω at some new addresses, of which Q holds -/
def BX (l : Launch) (y : MethodName) (cc : ByteArray) (maxL k mc ms : Nat) (h0 : Nat) (e0 : va_E) (Ω : SH) (Q : PM → Prop) : Prop :=
  ∀ (X : CX) (sz : Nat), Met l y (.code y cc maxL none :: TB) (rmb k mc ms) (va_Pc [.ref h0] (fun U => U.heap.size = sz ∧ va_P X.1 vwCl [(h0, e0)] U.heap ∧ va_K X.1 vwCl [(X.2.1, .int)] U ∧ va_D (fun _ => True) [(h0, e0)] ∧ EX X (va_A [(h0, e0)] sz) U U.heap)) (va_Qv (fun u : List Nat × PM => Q u.2) (fun u U => va_P X.1 vwCl (wsO Ω X.2.1 (adX Ω.1 (h0 :: u.1) X.2.2.1) u.2) U.heap ∧ va_D (va_A [(h0, e0)] sz) (wsO Ω X.2.1 (adX Ω.1 (h0 :: u.1) X.2.2.1) u.2)) (va_A [(h0, e0)] sz)) mc ms (va_A [(h0, e0)] sz)
theorem BX.of {l : Launch} {y : MethodName} {cc : ByteArray} {maxL k mc ms h0 : Nat} {e0 : va_E} {Ω : SH} {Q : PM → Prop} (hy : plainName y.cls = true) (hi : y.name = "<init>") (hn : 1 ≤ maxL)
    (h : ∀ (X : CX) (p : Program) (e : Env) (s : State) (m : MethodId) (args : Array Value) (below : List Frame) (meth : Method) (c : Code) (A : Nat → Prop), BC y.cls cc maxL p s m args meth c X.1 X.2.1 A → EX X A s s.heap → meth.sig.returnType = none → meth.locks = false → BW p l e (rmb k mc ms) s m args below meth c X.1 A (ZX below X h0 Ω Q args s mc ms A) maxL 0 [(0, .ref h0)] [] [(h0, e0)] 0 0) : BX l y cc maxL k mc ms h0 e0 Ω Q := by
  intro X sz
  refine Met.ofW (cc := cc) (maxL := maxL) (ret := none) hy rfl ?_
  intro p e s m args below meth c s₁ B hml hv
  obtain ⟨rfl, hsz, hP, hK, hD0, hE⟩ := hv
  have hts := atoms_spec (ws := .code y cc maxL none :: TB) B.pre
  have hin : meth.name = "<init>" := ((name_of_methodNamed B.named B.method).1).trans hi
  subst hsz
  have hD := hD0.self (sz := s.heap.size)
  have hl := lv_entry [.ref h0] (n := maxL) hn
  rw [lg_entry_eq]
  exact h X p e s m _ below meth c (va_A [(h0, e0)] s.heap.size) ⟨B.exec, B.bytes, hml, findClass_of_methodNamed B.named, fun w hw => hts w (List.mem_cons_of_mem _ hw), hK, fun q hq => Or.inr hq, Or.inr hin, hE.2.2.2.2⟩ hE B.returns B.notSynchronized s.heap [] _ hP hD va_S.rf hl
theorem bx_vret {p : Program} {l : Launch} {e : Env} {R : Room} {s : State} {m : MethodId} {args : Array Value} {below : List Frame} {meth : Method} {c : Code} {X : CX} {h0 : Nat} {Ω : SH} {Q : PM → Prop} {μ : PM} {A : Nat → Prop} {own : String} {cc : ByteArray} {maxL pc : Nat} {ls : PL} {nc ns mc ms : Nat} (C : BC own cc maxL p s m args meth c X.1 X.2.1 A) (hr : meth.sig.returnType = none) (hlocks : meth.locks = false) (hd : decode cc pc = .ok (.return_, 1)) (hc : nc ≤ mc) (hs : ns ≤ ms) (u : List Nat) (hq : Q μ) : BW p l e R s m args below meth c X.1 A (ZX below X h0 Ω Q args s mc ms A) maxL pc ls [] (wsO Ω X.2.1 (adX Ω.1 (h0 :: u) X.2.2.1) μ) nc ns := by
  intro H locs lz hP hD hS hl
  refine W.widen hc hs ?_
  exact W.vret C.1 C.2.1 hr (fun t ht _ => ⟨⟨(u, μ), rfl, hq, by rw [ht]; exact hP, hD⟩, hS.F ht⟩) hS.2.2 hd hlocks
def QC0 (m : PM) : Prop := TC (tp 45) (fun r => muC0.1 (22 + r)) 0 true (txA (aL mwds) (aL lawL) 45) m
def U0 : VW := fun r => if r = 9 then muM0.1 5 else fun _ => 0
def QM0 (m : PM) : Prop := ∃ ν2 nm sk st, m = mm ν2 U0 nm sk st 0 ∧ TN muM0 0 true (txA (aL mwds) (aL lawL) 45) ν2
theorem mm_0 : mm muM0 U0 (fun _ => 0) (fun _ => 0) (fun _ => 0) 0 = muM0 := by
  refine PM_ext (fun c => ?_) rfl
  show (if c = 0 then c0 (muM0.1 0) U0 0 else if c = 1 then U0 1 else if c = 2 then U0 2 else if c = 3 then U0 3 else if c = 4 then hl U0 else if c = 5 then U0 9 else if c = 16 then (fun _ => 0) else if c = 17 then (fun _ => 0) else if c = 18 then (fun _ => 0) else muM0.1 c) = muM0.1 c
  by_cases h0 : c = 0
  · subst h0
    rw [if_pos rfl]
    funext j
    show (if j = 0 then (0 : Int32) else if j = 4 then 0 else if j = 6 then 0 else if j = 13 then 0 else if j = 36 then 0 else if j = 9 then 45 else 0) = if j = 9 then 45 else 0
    by_cases h : j = 9
    · subst h
      rfl
    · rw [if_neg h]
      simp
  rw [if_neg h0]
  by_cases h1 : c = 1
  · subst h1
    rfl
  rw [if_neg h1]
  by_cases h2 : c = 2
  · subst h2
    rfl
  rw [if_neg h2]
  by_cases h3 : c = 3
  · subst h3
    rfl
  rw [if_neg h3]
  by_cases h4 : c = 4
  · subst h4
    rw [if_pos rfl]
    funext x
    show (if 4 + x % 5 = 9 then muM0.1 5 else fun _ => (0 : Int32)) (x / 5) = 0
    rw [if_neg (by omega)]
  rw [if_neg h4]
  by_cases h5 : c = 5
  · subst h5
    rfl
  rw [if_neg h5]
  by_cases h6 : c = 16
  · subst h6
    rfl
  rw [if_neg h6]
  by_cases h7 : c = 17
  · subst h7
    rfl
  rw [if_neg h7]
  by_cases h8 : c = 18
  · subst h8
    rfl
  rw [if_neg h8]
set_option maxHeartbeats 8000000 in
set_option maxRecDepth 100000 in
theorem B_7 {l : Launch} {h0 : Nat} : BX l yX7_init cX7_init 2 60 51 2371 h0 (.inr (6, [.null, .null, .null, .null, .null, .int 0, .null, .null, .null])) SC QC0 := by
  refine BX.of rfl rfl (by decide) ?_
  intro X p e s m args below meth c A C hE hr hlocks
  refine P_X7 C (Nat.le_of_ble_eq_true rfl) (Nat.le_of_ble_eq_true rfl) (Nat.le_refl _) (Nat.le_refl _) (fun q5 u9 q16 u20 q27 u35 q42 u50 q57 u65 q77 u85 q92 u100 q107 u111 => ?_)
  refine bw_perm ordC (W_X7_m (a0 := X.2.2.1)) ordC_nd ?_
  have hE2 := EX_ad (N := 52) (L := [h0, q5, (u9.getD 0 0), (u9.getD 1 0), (u9.getD 2 0), (u9.getD 3 0), q16, (u20.getD 0 0), (u20.getD 1 0), (u20.getD 2 0), (u20.getD 3 0), (u20.getD 4 0), (u20.getD 5 0), q77, (u85.getD 0 0), (u85.getD 1 0), (u85.getD 2 0), q92, q107, (u111.getD 0 0), (u111.getD 1 0), (u111.getD 2 0), q27, (u35.getD 0 0), (u35.getD 1 0), (u35.getD 2 0), (u35.getD 3 0), (u35.getD 4 0), (u35.getD 5 0), (u35.getD 6 0), (u35.getD 7 0), (u35.getD 8 0), q42, (u50.getD 0 0), (u50.getD 1 0), (u50.getD 2 0), (u50.getD 3 0), (u50.getD 4 0), (u50.getD 5 0), (u50.getD 6 0), (u50.getD 7 0), (u50.getD 8 0), q57, (u65.getD 0 0), (u65.getD 1 0), (u65.getD 2 0), (u65.getD 3 0), (u65.getD 4 0), (u65.getD 5 0), (u65.getD 6 0), (u65.getD 7 0), (u65.getD 8 0)]) (by decide) hE
  have Y := T7_tail (l := l) (e := e) (R := rmb 60 51 2371) (below := below) (Z := ZX below X h0 SC QC0 args s 51 2371 A) (nc := 51) (ns := 2371) (X := (X.1, X.2.1, adX 52 [h0, q5, (u9.getD 0 0), (u9.getD 1 0), (u9.getD 2 0), (u9.getD 3 0), q16, (u20.getD 0 0), (u20.getD 1 0), (u20.getD 2 0), (u20.getD 3 0), (u20.getD 4 0), (u20.getD 5 0), q77, (u85.getD 0 0), (u85.getD 1 0), (u85.getD 2 0), q92, q107, (u111.getD 0 0), (u111.getD 1 0), (u111.getD 2 0), q27, (u35.getD 0 0), (u35.getD 1 0), (u35.getD 2 0), (u35.getD 3 0), (u35.getD 4 0), (u35.getD 5 0), (u35.getD 6 0), (u35.getD 7 0), (u35.getD 8 0), q42, (u50.getD 0 0), (u50.getD 1 0), (u50.getD 2 0), (u50.getD 3 0), (u50.getD 4 0), (u50.getD 5 0), (u50.getD 6 0), (u50.getD 7 0), (u50.getD 8 0), q57, (u65.getD 0 0), (u65.getD 1 0), (u65.getD 2 0), (u65.getD 3 0), (u65.getD 4 0), (u65.getD 5 0), (u65.getD 6 0), (u65.getD 7 0), (u65.getD 8 0)] X.2.2.1, X.2.2.2)) C hE2 ⟨Nat.le_of_ble_eq_true rfl, Nat.le_of_ble_eq_true rfl⟩ ⟨Nat.le_refl _, Nat.le_refl _⟩ (fun μ' hq => ?_)
  · exact Y
  · exact bx_vret (Ω := SC) (Q := QC0) C hr hlocks dX7_init_184 (Nat.le_refl _) (Nat.le_refl _) [q5, (u9.getD 0 0), (u9.getD 1 0), (u9.getD 2 0), (u9.getD 3 0), q16, (u20.getD 0 0), (u20.getD 1 0), (u20.getD 2 0), (u20.getD 3 0), (u20.getD 4 0), (u20.getD 5 0), q77, (u85.getD 0 0), (u85.getD 1 0), (u85.getD 2 0), q92, q107, (u111.getD 0 0), (u111.getD 1 0), (u111.getD 2 0), q27, (u35.getD 0 0), (u35.getD 1 0), (u35.getD 2 0), (u35.getD 3 0), (u35.getD 4 0), (u35.getD 5 0), (u35.getD 6 0), (u35.getD 7 0), (u35.getD 8 0), q42, (u50.getD 0 0), (u50.getD 1 0), (u50.getD 2 0), (u50.getD 3 0), (u50.getD 4 0), (u50.getD 5 0), (u50.getD 6 0), (u50.getD 7 0), (u50.getD 8 0), q57, (u65.getD 0 0), (u65.getD 1 0), (u65.getD 2 0), (u65.getD 3 0), (u65.getD 4 0), (u65.getD 5 0), (u65.getD 6 0), (u65.getD 7 0), (u65.getD 8 0)] hq
set_option maxHeartbeats 8000000 in
set_option maxRecDepth 100000 in
theorem B_8 {l : Launch} {h0 : Nat} : BX l yX8_init cX8_init 2 60 19 2714 h0 (.inr (7, [.int 0, .null, .null, .null, .int 0, .null, .int 0, .null, .null, .int 0, .null, .null, .int 0, .int 0, .int 0, .int 0, .int 0, .int 0, .int 0, .null, .null, .null, .null, .null, .int 0, .int 0, .int 0, .int 0, .null, .null, .int 0, .int 0, .int 0, .null, .null, .null, .int 0, .null, .int 0, .long 0, .int 0])) SM QM0 := by
  refine BX.of rfl rfl (by decide) ?_
  intro X p e s m args below meth c A C hE hr hlocks
  refine L_X8 C (Nat.le_of_ble_eq_true rfl) (Nat.le_of_ble_eq_true rfl) (Nat.le_refl _) (Nat.le_refl _) (fun q6 q13 q20 q28 q36 q135 q144 q152 q160 q167 q190 q199 q207 q479 q1058 q1067 q1075 q1084 q1091 => ?_)
  rw [W_X8T_eq (a0 := X.2.2.1), ← mm_0]
  have hE2 := EX_ad (N := 20) (L := [h0, q6, q13, q20, q28, q36, q135, q144, q152, q160, q167, q190, q199, q207, q479, q1058, q1067, q1075, q1084, q1091]) (by decide) hE
  refine bw_aload_n (i := 0) (x := h0) C dX8_init_1140 rfl rfl ?_
  refine bw_c1 (X := (X.1, X.2.1, adX 20 [h0, q6, q13, q20, q28, q36, q135, q144, q152, q160, q167, q190, q199, q207, q479, q1058, q1067, q1075, q1084, q1091] X.2.2.1, X.2.2.2)) (as := []) (rest := []) (c0 := 0) C hE2 dX8_init_1141 mv_X8_71 (T_X8_text (t := 0) (n := 45) rfl (by decide) rfl (by decide)) ckModel rfl rfl (Nat.le_of_ble_eq_true rfl) ⟨Nat.le_of_ble_eq_true rfl, Nat.le_of_ble_eq_true rfl⟩ ⟨Nat.le_refl _, Nat.le_refl _⟩ (fun r μ' h => ?_)
  obtain ⟨x, rfl, -, g⟩ := h
  have g2 := (g (by decide)).2
  rw [muM0_14, muM0_6] at g2
  show BW p l e _ s m args below meth c X.1 A _ 2 1144 _ [.int x] _ 19 2714
  refine bw_pop C dX8_init_1144 rfl ?_
  refine bx_vret (Ω := SM) (Q := QM0) C hr hlocks dX8_init_1145 (Nat.le_refl _) (Nat.le_refl _) [q6, q13, q20, q28, q36, q135, q144, q152, q160, q167, q190, q199, q207, q479, q1058, q1067, q1075, q1084, q1091] ?_
  obtain ⟨S, a, b, tk, v, h, o, u, H, C, e1, e2, e3, e4, e5⟩ := g2
  rw [muM0_14, muM0_6, txG_0] at e1 e4
  exact ⟨_, _, _, _, e1, TN_txM rfl e2 e3 e4⟩
