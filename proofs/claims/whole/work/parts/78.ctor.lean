/-! CONSTRUCTORS OF THE CLASSES -/
def rmb (k mc ms : Nat) : Room := { frames := k, cells := mc, slots := ms, locals := 64 * k }
def ZB (below : List Frame) (G : va_G) (W1 : List Nat → va_W) (args : Array Value) (s : State) (mc ms : Nat) (A : Nat → Prop) : State → Prop := MQ below (va_Qv (fun _ : List Nat => True) (fun u U => va_P G vwCl (W1 u) U.heap ∧ va_D A (W1 u)) A) args s mc ms A
/-- A CONSTRUCTOR'S CONTRACT: over the world w0 it comes back with some new addresses and the world W1 of them -/
def BT (l : Launch) (y : MethodName) (cc : ByteArray) (maxL k mc ms : Nat) (as : List Value) (w0 : va_W) (W1 : ClassId → List Nat → va_W) : Prop :=
  ∀ (G : va_G) (cA : ClassId) (sz : Nat), Met l y (.code y cc maxL none :: TB) (rmb k mc ms) (va_Pc as (fun U => U.heap.size = sz ∧ va_P G vwCl w0 U.heap ∧ va_K G vwCl [(cA, .int)] U ∧ va_D (fun _ => True) w0 ∧ ∀ w ∈ NB, va_Nw w U)) (va_Qv (fun _ : List Nat => True) (fun u U => va_P G vwCl (W1 cA u) U.heap ∧ va_D (va_A w0 sz) (W1 cA u)) (va_A w0 sz)) mc ms (va_A w0 sz)
theorem BT.of {l : Launch} {y : MethodName} {cc : ByteArray} {maxL k mc ms : Nat} {as : List Value} {w0 : va_W} {W1 : ClassId → List Nat → va_W} (hy : plainName y.cls = true) (hi : y.name = "<init>") (hn : (lg_sl as).length ≤ maxL)
    (h : ∀ (G : va_G) (cA : ClassId) (p : Program) (e : Env) (s : State) (m : MethodId) (args : Array Value) (below : List Frame) (meth : Method) (c : Code) (A : Nat → Prop), BC y.cls cc maxL p s m args meth c G cA A → meth.sig.returnType = none → meth.locks = false → BW p l e (rmb k mc ms) s m args below meth c G A (ZB below G (W1 cA) args s mc ms A) maxL 0 (lv_args 0 as) [] w0 0 0) : BT l y cc maxL k mc ms as w0 W1 := by
  intro G cA sz
  refine Met.ofW (cc := cc) (maxL := maxL) (ret := none) hy rfl ?_
  intro p e s m args below meth c s₁ B hml hv
  obtain ⟨rfl, hsz, hP, hK, hD0, hN⟩ := hv
  have hts := atoms_spec (ws := .code y cc maxL none :: TB) B.pre
  have hin : meth.name = "<init>" := ((name_of_methodNamed B.named B.method).1).trans hi
  subst hsz
  have hD := hD0.self (sz := s.heap.size)
  have hl := lv_entry as (n := maxL) hn
  rw [lg_entry_eq]
  exact h G cA p e s m _ below meth c (va_A w0 s.heap.size) ⟨B.exec, B.bytes, hml, findClass_of_methodNamed B.named, fun w hw => hts w (List.mem_cons_of_mem _ hw), hK, fun q hq => Or.inr hq, Or.inr hin, hN⟩ B.returns B.notSynchronized s.heap [] _ hP hD va_S.rf hl
theorem bw_vret {p : Program} {l : Launch} {e : Env} {R : Room} {s : State} {m : MethodId} {args : Array Value} {below : List Frame} {meth : Method} {c : Code} {G : va_G} {cA : ClassId} {A : Nat → Prop} {own : String} {cc : ByteArray} {maxL pc : Nat} {ls : PL} {ws : va_W} {nc ns mc ms : Nat} {W1 : List Nat → va_W} (C : BC own cc maxL p s m args meth c G cA A) (hr : meth.sig.returnType = none) (hlocks : meth.locks = false) (hd : decode cc pc = .ok (.return_, 1)) (hc : nc ≤ mc) (hs : ns ≤ ms) (u : List Nat) (hw : W1 u = ws) : BW p l e R s m args below meth c G A (ZB below G W1 args s mc ms A) maxL pc ls [] ws nc ns := by
  intro H locs lz hP hD hS hl
  refine W.widen hc hs ?_
  exact W.vret C.1 C.2.1 hr (fun t ht _ => ⟨⟨u, rfl, trivial, by rw [ht, hw]; exact hP, by rw [hw]; exact hD⟩, hS.F ht⟩) hS.2.2 hd hlocks
theorem bw_call {p : Program} {l : Launch} {e : Env} {R : Room} {s : State} {m : MethodId} {args : Array Value} {below : List Frame} {meth : Method} {c : Code} {G : va_G} {cA : ClassId} {A : Nat → Prop} {Z : State → Prop} {own : String} {cc : ByteArray} {maxL pc : Nat} {ls : PL} {ws : va_W} {nc ns : Nat} {index n k' mL mc' ms' b : Nat} {y : MethodName} {bytes : ByteArray} {as rest st0 : List Value} {w0 wr : va_W} {W1 : ClassId → List Nat → va_W} (C : BC own cc maxL p s m args meth c G cA A)
    (hd : decode cc pc = .ok (.invokespecial index, 3)) (hlk : Cond.methodLink own index y ∈ TB ∨ ∃ host, Cond.methodLinkNest own index y host ∈ NB) (hcode : Cond.code y bytes mL none ∈ TB) (hini : Cond.initialized y.cls ∈ TB) (hins : Cond.instanceMethod y ∈ TB) (hname : y.name = "<init>") (hnm : y.cls ≠ "java/lang/invoke/MethodHandle" ∧ y.cls ≠ "java/lang/invoke/VarHandle") (hpar : (parseMethodDescriptor y.desc).map (fun d => d.parameters.length) = some n) (hM : BT l y bytes mL k' mc' ms' (.ref b :: as) w0 W1) (hmL : mL ≤ 40)
    (hn : as.length = n) (hst : as.reverse ++ .ref b :: rest = st0) (hr : wsum rest ≤ 8) (hR : k' + 1 ≤ R.frames ∧ 64 * k' + 60 ≤ R.locals) (isC isR : List Nat) (hCf : isC.filterMap (fun i => ws[i]?) = w0) (hC : isC.map (fun i => ws[i]?) = w0.map some) (hRr : isR.map (fun i => ws[i]?) = wr.map some) (hnd : va_nd isR = true) (hnc : va_nd isC = true) (hdis : ∀ i ∈ isR, i ∉ isC) (hc : nc + mc' ≤ R.cells) (hs : ns + ms' ≤ R.slots)
    (kk : ∀ u, BW p l e R s m args below meth c G A Z maxL (pc + 3) ls rest (wr ++ W1 cA u) (nc + mc') (ns + ms')) : BW p l e R s m args below meth c G A Z maxL pc ls st0 ws nc ns := by
  intro H locs lz hP hD hS hl
  obtain ⟨h1, h2, h3, h4, h5, h6, h7, h8, h9⟩ := C
  have hPc := hP.sub (ws' := w0) isC hCf
  have hDc := hD.sub (ws' := w0) isC hnc hC
  have hF := va_free (wc := w0) hD hS h7 isC hC
  have hRm : (rmb k' mc' ms').frames + 1 ≤ R.frames ∧ 8 + (mL + 11) + (rmb k' mc' ms').locals ≤ R.locals := ⟨hR.1, by show 8 + (mL + 11) + 64 * k' ≤ R.locals; omega⟩
  have hpre : PreS s H (va_Pc (.ref b :: as) (fun U => U.heap.size = H.size ∧ va_P G vwCl w0 U.heap ∧ va_K G vwCl [(cA, .int)] U ∧ va_D (fun _ => True) w0 ∧ ∀ w ∈ NB, va_Nw w U)) (.ref b :: as) := ⟨fun a U g mk q => by
    obtain ⟨q0, q1, qP, qK, qD, qN⟩ := q
    exact ⟨q0, q1, qP, va_K.moved (u := U) (U := U.calling g mk a) (Vm.Alike.refl U.vm) qK, qD, fun w hw => va_Nw.same (NB_on hw) (show U.vm = (U.calling g mk a).vm from rfl) (qN w hw)⟩, fun U hU hW => ⟨rfl, by rw [hU], by rw [hU]; exact hPc, va_K.moved hW.alike h6, hDc.weaken (fun _ _ _ _ => trivial), NB_warm hW h9⟩⟩
  have hfin : ∀ (u : List Nat) (t : State) (H1 : Heap) (locs1 : List Loc), t.heap = H1 → s.vm.Alike t.vm → True → (va_P G vwCl (W1 cA u) t.heap ∧ va_D (va_A w0 H.size) (W1 cA u)) → H.size ≤ H1.size → (∀ q : Nat, q < H.size → ¬ va_A w0 H.size q → H1[q]? = H[q]?) → va_S A s.heap H1 locs1 → W p l e R s m args below meth c H1 locs1 (nc + mc') (ns + ms') Z (F0 m (pc + 3) lz rest) := by
    intro u t H1 locs1 ht hvm _ hB hz hk1 hS1
    obtain ⟨hP1, hD1⟩ := hB
    rw [ht] at hP1
    obtain ⟨hPj, hDj⟩ := va_join (wc := w0) (wr := wr) (w1 := W1 cA u) hP hD isC isR hC hRr hnd hdis hk1 hF hP1 hD1
    exact kk u H1 locs1 lz hPj hDj hS1 hl
  have hstk : st0 = as.reverse ++ .ref b :: rest := hst.symm
  rcases hlk with hlk | ⟨host, hlk⟩
  · exact va_callv (va_runI (As := as) (rest := rest) ⟨h1, h2, h3, h4, h5⟩ (hM G cA H.size) (cwI n h5 (TB_in hcode) rfl rfl rfl (h5 _ hini) (h5 _ hlk) (h5 _ hins) hname ⟨hnm.1, hnm.2, hpar⟩ hRm) hpre rfl hn hl.1 hstk (lv_room hr) hd ⟨hc, hs⟩) hS (fun q _ h => hF q h) hF hfin
  · exact va_callv (va_runIN (As := as) (rest := rest) ⟨h1, h2, h3, h4, h5⟩ (hM G cA H.size) ⟨va_cnB (maxL := mL) (ret := none) n h5 (TB_in hcode) rfl rfl rfl (h9 _ hlk) (h5 _ hini) ⟨hnm.1, hnm.2, hpar⟩ hRm, hname, h5 _ hins⟩ hpre rfl hn hl.1 hstk (lv_room hr) hd ⟨hc, hs⟩) hS (fun q _ h => hF q h) hF hfin
def W_X1 (h0 : Nat) (cA : ClassId) (u : List Nat) : va_W := [(h0, .inr (0, [.int 0, .ref (u.getD 0 0), .ref (u.getD 1 0), .ref (u.getD 2 0), .ref (u.getD 3 0)])), ((u.getD 0 0), .inl (cA, 960, .inl fun _ => 0)), ((u.getD 1 0), .inl (cA, 18, .inl fun _ => 0)), ((u.getD 2 0), .inl (cA, 6, .inl fun _ => 0)), ((u.getD 3 0), .inl (cA, 64, .inl fun _ => 0))]
set_option maxHeartbeats 4000000 in
set_option maxRecDepth 100000 in
theorem B_X1 {l : Launch} {h0 : Nat} : BT l yX1_init cX1_init 1 1 4 1048 [.ref h0] [(h0, .inr (0, [.int 0, .null, .null, .null, .null]))] (W_X1 h0) := by
  refine BT.of rfl rfl (Nat.le_of_ble_eq_true rfl) ?_
  intro G cA p e s m args below meth c A C hr hlocks
  show BW p l e (rmb 1 4 1048) s m args below meth c G A (ZB below G (W_X1 h0 cA) args s 4 1048 A) 1 0 [(0, .ref h0)] [] [(h0, .inr (0, [.int 0, .null, .null, .null, .null]))] 0 0
  refine bw_aload_n (i := 0) (x := h0) C dX1_init_0 rfl rfl ?_
  show BW p l e (rmb 1 4 1048) s m args below meth c G A (ZB below G (W_X1 h0 cA) args s 4 1048 A) 1 1 [(0, .ref h0)] [.ref h0] [(h0, .inr (0, [.int 0, .null, .null, .null, .null]))] 0 0
  refine bw_obj C dX1_init_1 (mT1 31 rfl rfl) (by decide) ⟨Nat.le_of_ble_eq_true rfl, Nat.le_of_ble_eq_true rfl⟩ ?_
  show BW p l e (rmb 1 4 1048) s m args below meth c G A (ZB below G (W_X1 h0 cA) args s 4 1048 A) 1 4 [(0, .ref h0)] [] [(h0, .inr (0, [.int 0, .null, .null, .null, .null]))] 0 0
  refine bw_aload_n (i := 0) (x := h0) C dX1_init_4 rfl rfl ?_
  show BW p l e (rmb 1 4 1048) s m args below meth c G A (ZB below G (W_X1 h0 cA) args s 4 1048 A) 1 5 [(0, .ref h0)] [.ref h0] [(h0, .inr (0, [.int 0, .null, .null, .null, .null]))] 0 0
  refine bw_iconst (v := 0) C dX1_init_5 rfl ?_
  show BW p l e (rmb 1 4 1048) s m args below meth c G A (ZB below G (W_X1 h0 cA) args s 4 1048 A) 1 6 [(0, .ref h0)] [.int 0, .ref h0] [(h0, .inr (0, [.int 0, .null, .null, .null, .null]))] 0 0
  refine bw_put (q0 := 0) C dX1_init_6 fa_X1_11 rfl rfl rfl (Nat.le_of_ble_eq_true rfl) ?_
  show BW p l e (rmb 1 4 1048) s m args below meth c G A (ZB below G (W_X1 h0 cA) args s 4 1048 A) 1 9 [(0, .ref h0)] [] [(h0, .inr (0, [.int 0, .null, .null, .null, .null]))] 0 0
  refine bw_aload_n (i := 0) (x := h0) C dX1_init_9 rfl rfl ?_
  show BW p l e (rmb 1 4 1048) s m args below meth c G A (ZB below G (W_X1 h0 cA) args s 4 1048 A) 1 10 [(0, .ref h0)] [.ref h0] [(h0, .inr (0, [.int 0, .null, .null, .null, .null]))] 0 0
  refine bw_sipush (v := 960) C dX1_init_10 rfl ?_
  show BW p l e (rmb 1 4 1048) s m args below meth c G A (ZB below G (W_X1 h0 cA) args s 4 1048 A) 1 13 [(0, .ref h0)] [.int 960, .ref h0] [(h0, .inr (0, [.int 0, .null, .null, .null, .null]))] 0 0
  refine bw_newa (N := 960) C dX1_init_13 rfl (by decide) (Nat.le_of_ble_eq_true rfl) (Nat.le_of_ble_eq_true rfl) (fun q13 => ?_)
  show BW p l e (rmb 1 4 1048) s m args below meth c G A (ZB below G (W_X1 h0 cA) args s 4 1048 A) 1 15 [(0, .ref h0)] [.ref q13, .ref h0] [(h0, .inr (0, [.int 0, .null, .null, .null, .null])), (q13, .inl (cA, 960, .inl fun _ => 0))] 1 960
  refine bw_putF (q0 := 0) C dX1_init_15 fa_X1_15 (fun r h => by cases h; rfl) (fun r h => by cases h; exact mT1 34 rfl rfl) rfl rfl rfl (Nat.le_of_ble_eq_true rfl) ?_
  show BW p l e (rmb 1 4 1048) s m args below meth c G A (ZB below G (W_X1 h0 cA) args s 4 1048 A) 1 18 [(0, .ref h0)] [] [(h0, .inr (0, [.int 0, .ref q13, .null, .null, .null])), (q13, .inl (cA, 960, .inl fun _ => 0))] 1 960
  refine bw_aload_n (i := 0) (x := h0) C dX1_init_18 rfl rfl ?_
  show BW p l e (rmb 1 4 1048) s m args below meth c G A (ZB below G (W_X1 h0 cA) args s 4 1048 A) 1 19 [(0, .ref h0)] [.ref h0] [(h0, .inr (0, [.int 0, .ref q13, .null, .null, .null])), (q13, .inl (cA, 960, .inl fun _ => 0))] 1 960
  refine bw_bipush (v := 18) C dX1_init_19 rfl ?_
  show BW p l e (rmb 1 4 1048) s m args below meth c G A (ZB below G (W_X1 h0 cA) args s 4 1048 A) 1 21 [(0, .ref h0)] [.int 18, .ref h0] [(h0, .inr (0, [.int 0, .ref q13, .null, .null, .null])), (q13, .inl (cA, 960, .inl fun _ => 0))] 1 960
  refine bw_newa (N := 18) C dX1_init_21 rfl (by decide) (Nat.le_of_ble_eq_true rfl) (Nat.le_of_ble_eq_true rfl) (fun q21 => ?_)
  show BW p l e (rmb 1 4 1048) s m args below meth c G A (ZB below G (W_X1 h0 cA) args s 4 1048 A) 1 23 [(0, .ref h0)] [.ref q21, .ref h0] [(h0, .inr (0, [.int 0, .ref q13, .null, .null, .null])), (q13, .inl (cA, 960, .inl fun _ => 0)), (q21, .inl (cA, 18, .inl fun _ => 0))] 2 978
  refine bw_putF (q0 := 0) C dX1_init_23 fa_X1_19 (fun r h => by cases h; rfl) (fun r h => by cases h; exact mT1 35 rfl rfl) rfl rfl rfl (Nat.le_of_ble_eq_true rfl) ?_
  show BW p l e (rmb 1 4 1048) s m args below meth c G A (ZB below G (W_X1 h0 cA) args s 4 1048 A) 1 26 [(0, .ref h0)] [] [(h0, .inr (0, [.int 0, .ref q13, .ref q21, .null, .null])), (q13, .inl (cA, 960, .inl fun _ => 0)), (q21, .inl (cA, 18, .inl fun _ => 0))] 2 978
  refine bw_aload_n (i := 0) (x := h0) C dX1_init_26 rfl rfl ?_
  show BW p l e (rmb 1 4 1048) s m args below meth c G A (ZB below G (W_X1 h0 cA) args s 4 1048 A) 1 27 [(0, .ref h0)] [.ref h0] [(h0, .inr (0, [.int 0, .ref q13, .ref q21, .null, .null])), (q13, .inl (cA, 960, .inl fun _ => 0)), (q21, .inl (cA, 18, .inl fun _ => 0))] 2 978
  refine bw_bipush (v := 6) C dX1_init_27 rfl ?_
  show BW p l e (rmb 1 4 1048) s m args below meth c G A (ZB below G (W_X1 h0 cA) args s 4 1048 A) 1 29 [(0, .ref h0)] [.int 6, .ref h0] [(h0, .inr (0, [.int 0, .ref q13, .ref q21, .null, .null])), (q13, .inl (cA, 960, .inl fun _ => 0)), (q21, .inl (cA, 18, .inl fun _ => 0))] 2 978
  refine bw_newa (N := 6) C dX1_init_29 rfl (by decide) (Nat.le_of_ble_eq_true rfl) (Nat.le_of_ble_eq_true rfl) (fun q29 => ?_)
  show BW p l e (rmb 1 4 1048) s m args below meth c G A (ZB below G (W_X1 h0 cA) args s 4 1048 A) 1 31 [(0, .ref h0)] [.ref q29, .ref h0] [(h0, .inr (0, [.int 0, .ref q13, .ref q21, .null, .null])), (q13, .inl (cA, 960, .inl fun _ => 0)), (q21, .inl (cA, 18, .inl fun _ => 0)), (q29, .inl (cA, 6, .inl fun _ => 0))] 3 984
  refine bw_putF (q0 := 0) C dX1_init_31 fa_X1_22 (fun r h => by cases h; rfl) (fun r h => by cases h; exact mT1 36 rfl rfl) rfl rfl rfl (Nat.le_of_ble_eq_true rfl) ?_
  show BW p l e (rmb 1 4 1048) s m args below meth c G A (ZB below G (W_X1 h0 cA) args s 4 1048 A) 1 34 [(0, .ref h0)] [] [(h0, .inr (0, [.int 0, .ref q13, .ref q21, .ref q29, .null])), (q13, .inl (cA, 960, .inl fun _ => 0)), (q21, .inl (cA, 18, .inl fun _ => 0)), (q29, .inl (cA, 6, .inl fun _ => 0))] 3 984
  refine bw_aload_n (i := 0) (x := h0) C dX1_init_34 rfl rfl ?_
  show BW p l e (rmb 1 4 1048) s m args below meth c G A (ZB below G (W_X1 h0 cA) args s 4 1048 A) 1 35 [(0, .ref h0)] [.ref h0] [(h0, .inr (0, [.int 0, .ref q13, .ref q21, .ref q29, .null])), (q13, .inl (cA, 960, .inl fun _ => 0)), (q21, .inl (cA, 18, .inl fun _ => 0)), (q29, .inl (cA, 6, .inl fun _ => 0))] 3 984
  refine bw_bipush (v := 64) C dX1_init_35 rfl ?_
  show BW p l e (rmb 1 4 1048) s m args below meth c G A (ZB below G (W_X1 h0 cA) args s 4 1048 A) 1 37 [(0, .ref h0)] [.int 64, .ref h0] [(h0, .inr (0, [.int 0, .ref q13, .ref q21, .ref q29, .null])), (q13, .inl (cA, 960, .inl fun _ => 0)), (q21, .inl (cA, 18, .inl fun _ => 0)), (q29, .inl (cA, 6, .inl fun _ => 0))] 3 984
  refine bw_newa (N := 64) C dX1_init_37 rfl (by decide) (Nat.le_of_ble_eq_true rfl) (Nat.le_of_ble_eq_true rfl) (fun q37 => ?_)
  show BW p l e (rmb 1 4 1048) s m args below meth c G A (ZB below G (W_X1 h0 cA) args s 4 1048 A) 1 39 [(0, .ref h0)] [.ref q37, .ref h0] [(h0, .inr (0, [.int 0, .ref q13, .ref q21, .ref q29, .null])), (q13, .inl (cA, 960, .inl fun _ => 0)), (q21, .inl (cA, 18, .inl fun _ => 0)), (q29, .inl (cA, 6, .inl fun _ => 0)), (q37, .inl (cA, 64, .inl fun _ => 0))] 4 1048
  refine bw_putF (q0 := 0) C dX1_init_39 fa_X1_25 (fun r h => by cases h; rfl) (fun r h => by cases h; exact mT1 38 rfl rfl) rfl rfl rfl (Nat.le_of_ble_eq_true rfl) ?_
  show BW p l e (rmb 1 4 1048) s m args below meth c G A (ZB below G (W_X1 h0 cA) args s 4 1048 A) 1 42 [(0, .ref h0)] [] [(h0, .inr (0, [.int 0, .ref q13, .ref q21, .ref q29, .ref q37])), (q13, .inl (cA, 960, .inl fun _ => 0)), (q21, .inl (cA, 18, .inl fun _ => 0)), (q29, .inl (cA, 6, .inl fun _ => 0)), (q37, .inl (cA, 64, .inl fun _ => 0))] 4 1048
  exact bw_vret C hr hlocks dX1_init_42 (Nat.le_of_ble_eq_true rfl) (Nat.le_of_ble_eq_true rfl) [q13, q21, q29, q37] rfl
def W_X2 (h0 : Nat) (cA : ClassId) (u : List Nat) : va_W := [(h0, .inr (1, [.int 0, .ref (u.getD 0 0), .int 0, .ref (u.getD 1 0), .ref (u.getD 2 0), .ref (u.getD 3 0), .int 0, .int 0, .ref (u.getD 4 0), .ref (u.getD 5 0)])), ((u.getD 0 0), .inl (cA, 160, .inl fun _ => 0)), ((u.getD 1 0), .inl (cA, 161, .inl fun _ => 0)), ((u.getD 2 0), .inl (cA, 161, .inl fun _ => 0)), ((u.getD 3 0), .inl (cA, 161, .inl fun _ => 0)), ((u.getD 4 0), .inl (cA, 160, .inl fun _ => 0)), ((u.getD 5 0), .inl (cA, 3, .inl fun _ => 0))]
set_option maxHeartbeats 4000000 in
set_option maxRecDepth 100000 in
theorem B_X2 {l : Launch} {h0 : Nat} : BT l yX2_init cX2_init 1 1 6 806 [.ref h0] [(h0, .inr (1, [.int 0, .null, .int 0, .null, .null, .null, .int 0, .int 0, .null, .null]))] (W_X2 h0) := by
  refine BT.of rfl rfl (Nat.le_of_ble_eq_true rfl) ?_
  intro G cA p e s m args below meth c A C hr hlocks
  show BW p l e (rmb 1 6 806) s m args below meth c G A (ZB below G (W_X2 h0 cA) args s 6 806 A) 1 0 [(0, .ref h0)] [] [(h0, .inr (1, [.int 0, .null, .int 0, .null, .null, .null, .int 0, .int 0, .null, .null]))] 0 0
  refine bw_aload_n (i := 0) (x := h0) C dX2_init_0 rfl rfl ?_
  show BW p l e (rmb 1 6 806) s m args below meth c G A (ZB below G (W_X2 h0 cA) args s 6 806 A) 1 1 [(0, .ref h0)] [.ref h0] [(h0, .inr (1, [.int 0, .null, .int 0, .null, .null, .null, .int 0, .int 0, .null, .null]))] 0 0
  refine bw_obj C dX2_init_1 (mT1 56 rfl rfl) (by decide) ⟨Nat.le_of_ble_eq_true rfl, Nat.le_of_ble_eq_true rfl⟩ ?_
  show BW p l e (rmb 1 6 806) s m args below meth c G A (ZB below G (W_X2 h0 cA) args s 6 806 A) 1 4 [(0, .ref h0)] [] [(h0, .inr (1, [.int 0, .null, .int 0, .null, .null, .null, .int 0, .int 0, .null, .null]))] 0 0
  refine bw_aload_n (i := 0) (x := h0) C dX2_init_4 rfl rfl ?_
  show BW p l e (rmb 1 6 806) s m args below meth c G A (ZB below G (W_X2 h0 cA) args s 6 806 A) 1 5 [(0, .ref h0)] [.ref h0] [(h0, .inr (1, [.int 0, .null, .int 0, .null, .null, .null, .int 0, .int 0, .null, .null]))] 0 0
  refine bw_iconst (v := 0) C dX2_init_5 rfl ?_
  show BW p l e (rmb 1 6 806) s m args below meth c G A (ZB below G (W_X2 h0 cA) args s 6 806 A) 1 6 [(0, .ref h0)] [.int 0, .ref h0] [(h0, .inr (1, [.int 0, .null, .int 0, .null, .null, .null, .int 0, .int 0, .null, .null]))] 0 0
  refine bw_put (q0 := 0) C dX2_init_6 fa_X2_9 rfl rfl rfl (Nat.le_of_ble_eq_true rfl) ?_
  show BW p l e (rmb 1 6 806) s m args below meth c G A (ZB below G (W_X2 h0 cA) args s 6 806 A) 1 9 [(0, .ref h0)] [] [(h0, .inr (1, [.int 0, .null, .int 0, .null, .null, .null, .int 0, .int 0, .null, .null]))] 0 0
  refine bw_aload_n (i := 0) (x := h0) C dX2_init_9 rfl rfl ?_
  show BW p l e (rmb 1 6 806) s m args below meth c G A (ZB below G (W_X2 h0 cA) args s 6 806 A) 1 10 [(0, .ref h0)] [.ref h0] [(h0, .inr (1, [.int 0, .null, .int 0, .null, .null, .null, .int 0, .int 0, .null, .null]))] 0 0
  refine bw_sipush (v := 160) C dX2_init_10 rfl ?_
  show BW p l e (rmb 1 6 806) s m args below meth c G A (ZB below G (W_X2 h0 cA) args s 6 806 A) 1 13 [(0, .ref h0)] [.int 160, .ref h0] [(h0, .inr (1, [.int 0, .null, .int 0, .null, .null, .null, .int 0, .int 0, .null, .null]))] 0 0
  refine bw_newa (N := 160) C dX2_init_13 rfl (by decide) (Nat.le_of_ble_eq_true rfl) (Nat.le_of_ble_eq_true rfl) (fun q13 => ?_)
  show BW p l e (rmb 1 6 806) s m args below meth c G A (ZB below G (W_X2 h0 cA) args s 6 806 A) 1 15 [(0, .ref h0)] [.ref q13, .ref h0] [(h0, .inr (1, [.int 0, .null, .int 0, .null, .null, .null, .int 0, .int 0, .null, .null])), (q13, .inl (cA, 160, .inl fun _ => 0))] 1 160
  refine bw_putF (q0 := 0) C dX2_init_15 fa_X2_15 (fun r h => by cases h; rfl) (fun r h => by cases h; exact mT1 59 rfl rfl) rfl rfl rfl (Nat.le_of_ble_eq_true rfl) ?_
  show BW p l e (rmb 1 6 806) s m args below meth c G A (ZB below G (W_X2 h0 cA) args s 6 806 A) 1 18 [(0, .ref h0)] [] [(h0, .inr (1, [.int 0, .ref q13, .int 0, .null, .null, .null, .int 0, .int 0, .null, .null])), (q13, .inl (cA, 160, .inl fun _ => 0))] 1 160
  refine bw_aload_n (i := 0) (x := h0) C dX2_init_18 rfl rfl ?_
  show BW p l e (rmb 1 6 806) s m args below meth c G A (ZB below G (W_X2 h0 cA) args s 6 806 A) 1 19 [(0, .ref h0)] [.ref h0] [(h0, .inr (1, [.int 0, .ref q13, .int 0, .null, .null, .null, .int 0, .int 0, .null, .null])), (q13, .inl (cA, 160, .inl fun _ => 0))] 1 160
  refine bw_iconst (v := 0) C dX2_init_19 rfl ?_
  show BW p l e (rmb 1 6 806) s m args below meth c G A (ZB below G (W_X2 h0 cA) args s 6 806 A) 1 20 [(0, .ref h0)] [.int 0, .ref h0] [(h0, .inr (1, [.int 0, .ref q13, .int 0, .null, .null, .null, .int 0, .int 0, .null, .null])), (q13, .inl (cA, 160, .inl fun _ => 0))] 1 160
  refine bw_put (q0 := 0) C dX2_init_20 fa_X2_19 rfl rfl rfl (Nat.le_of_ble_eq_true rfl) ?_
  show BW p l e (rmb 1 6 806) s m args below meth c G A (ZB below G (W_X2 h0 cA) args s 6 806 A) 1 23 [(0, .ref h0)] [] [(h0, .inr (1, [.int 0, .ref q13, .int 0, .null, .null, .null, .int 0, .int 0, .null, .null])), (q13, .inl (cA, 160, .inl fun _ => 0))] 1 160
  refine bw_aload_n (i := 0) (x := h0) C dX2_init_23 rfl rfl ?_
  show BW p l e (rmb 1 6 806) s m args below meth c G A (ZB below G (W_X2 h0 cA) args s 6 806 A) 1 24 [(0, .ref h0)] [.ref h0] [(h0, .inr (1, [.int 0, .ref q13, .int 0, .null, .null, .null, .int 0, .int 0, .null, .null])), (q13, .inl (cA, 160, .inl fun _ => 0))] 1 160
  refine bw_sipush (v := 161) C dX2_init_24 rfl ?_
  show BW p l e (rmb 1 6 806) s m args below meth c G A (ZB below G (W_X2 h0 cA) args s 6 806 A) 1 27 [(0, .ref h0)] [.int 161, .ref h0] [(h0, .inr (1, [.int 0, .ref q13, .int 0, .null, .null, .null, .int 0, .int 0, .null, .null])), (q13, .inl (cA, 160, .inl fun _ => 0))] 1 160
  refine bw_newa (N := 161) C dX2_init_27 rfl (by decide) (Nat.le_of_ble_eq_true rfl) (Nat.le_of_ble_eq_true rfl) (fun q27 => ?_)
  show BW p l e (rmb 1 6 806) s m args below meth c G A (ZB below G (W_X2 h0 cA) args s 6 806 A) 1 29 [(0, .ref h0)] [.ref q27, .ref h0] [(h0, .inr (1, [.int 0, .ref q13, .int 0, .null, .null, .null, .int 0, .int 0, .null, .null])), (q13, .inl (cA, 160, .inl fun _ => 0)), (q27, .inl (cA, 161, .inl fun _ => 0))] 2 321
  refine bw_putF (q0 := 0) C dX2_init_29 fa_X2_22 (fun r h => by cases h; rfl) (fun r h => by cases h; exact mT1 61 rfl rfl) rfl rfl rfl (Nat.le_of_ble_eq_true rfl) ?_
  show BW p l e (rmb 1 6 806) s m args below meth c G A (ZB below G (W_X2 h0 cA) args s 6 806 A) 1 32 [(0, .ref h0)] [] [(h0, .inr (1, [.int 0, .ref q13, .int 0, .ref q27, .null, .null, .int 0, .int 0, .null, .null])), (q13, .inl (cA, 160, .inl fun _ => 0)), (q27, .inl (cA, 161, .inl fun _ => 0))] 2 321
  refine bw_aload_n (i := 0) (x := h0) C dX2_init_32 rfl rfl ?_
  show BW p l e (rmb 1 6 806) s m args below meth c G A (ZB below G (W_X2 h0 cA) args s 6 806 A) 1 33 [(0, .ref h0)] [.ref h0] [(h0, .inr (1, [.int 0, .ref q13, .int 0, .ref q27, .null, .null, .int 0, .int 0, .null, .null])), (q13, .inl (cA, 160, .inl fun _ => 0)), (q27, .inl (cA, 161, .inl fun _ => 0))] 2 321
  refine bw_sipush (v := 161) C dX2_init_33 rfl ?_
  show BW p l e (rmb 1 6 806) s m args below meth c G A (ZB below G (W_X2 h0 cA) args s 6 806 A) 1 36 [(0, .ref h0)] [.int 161, .ref h0] [(h0, .inr (1, [.int 0, .ref q13, .int 0, .ref q27, .null, .null, .int 0, .int 0, .null, .null])), (q13, .inl (cA, 160, .inl fun _ => 0)), (q27, .inl (cA, 161, .inl fun _ => 0))] 2 321
  refine bw_newa (N := 161) C dX2_init_36 rfl (by decide) (Nat.le_of_ble_eq_true rfl) (Nat.le_of_ble_eq_true rfl) (fun q36 => ?_)
  show BW p l e (rmb 1 6 806) s m args below meth c G A (ZB below G (W_X2 h0 cA) args s 6 806 A) 1 38 [(0, .ref h0)] [.ref q36, .ref h0] [(h0, .inr (1, [.int 0, .ref q13, .int 0, .ref q27, .null, .null, .int 0, .int 0, .null, .null])), (q13, .inl (cA, 160, .inl fun _ => 0)), (q27, .inl (cA, 161, .inl fun _ => 0)), (q36, .inl (cA, 161, .inl fun _ => 0))] 3 482
  refine bw_putF (q0 := 0) C dX2_init_38 fa_X2_25 (fun r h => by cases h; rfl) (fun r h => by cases h; exact mT1 62 rfl rfl) rfl rfl rfl (Nat.le_of_ble_eq_true rfl) ?_
  show BW p l e (rmb 1 6 806) s m args below meth c G A (ZB below G (W_X2 h0 cA) args s 6 806 A) 1 41 [(0, .ref h0)] [] [(h0, .inr (1, [.int 0, .ref q13, .int 0, .ref q27, .ref q36, .null, .int 0, .int 0, .null, .null])), (q13, .inl (cA, 160, .inl fun _ => 0)), (q27, .inl (cA, 161, .inl fun _ => 0)), (q36, .inl (cA, 161, .inl fun _ => 0))] 3 482
  refine bw_aload_n (i := 0) (x := h0) C dX2_init_41 rfl rfl ?_
  show BW p l e (rmb 1 6 806) s m args below meth c G A (ZB below G (W_X2 h0 cA) args s 6 806 A) 1 42 [(0, .ref h0)] [.ref h0] [(h0, .inr (1, [.int 0, .ref q13, .int 0, .ref q27, .ref q36, .null, .int 0, .int 0, .null, .null])), (q13, .inl (cA, 160, .inl fun _ => 0)), (q27, .inl (cA, 161, .inl fun _ => 0)), (q36, .inl (cA, 161, .inl fun _ => 0))] 3 482
  refine bw_sipush (v := 161) C dX2_init_42 rfl ?_
  show BW p l e (rmb 1 6 806) s m args below meth c G A (ZB below G (W_X2 h0 cA) args s 6 806 A) 1 45 [(0, .ref h0)] [.int 161, .ref h0] [(h0, .inr (1, [.int 0, .ref q13, .int 0, .ref q27, .ref q36, .null, .int 0, .int 0, .null, .null])), (q13, .inl (cA, 160, .inl fun _ => 0)), (q27, .inl (cA, 161, .inl fun _ => 0)), (q36, .inl (cA, 161, .inl fun _ => 0))] 3 482
  refine bw_newa (N := 161) C dX2_init_45 rfl (by decide) (Nat.le_of_ble_eq_true rfl) (Nat.le_of_ble_eq_true rfl) (fun q45 => ?_)
  show BW p l e (rmb 1 6 806) s m args below meth c G A (ZB below G (W_X2 h0 cA) args s 6 806 A) 1 47 [(0, .ref h0)] [.ref q45, .ref h0] [(h0, .inr (1, [.int 0, .ref q13, .int 0, .ref q27, .ref q36, .null, .int 0, .int 0, .null, .null])), (q13, .inl (cA, 160, .inl fun _ => 0)), (q27, .inl (cA, 161, .inl fun _ => 0)), (q36, .inl (cA, 161, .inl fun _ => 0)), (q45, .inl (cA, 161, .inl fun _ => 0))] 4 643
  refine bw_putF (q0 := 0) C dX2_init_47 fa_X2_28 (fun r h => by cases h; rfl) (fun r h => by cases h; exact mT1 63 rfl rfl) rfl rfl rfl (Nat.le_of_ble_eq_true rfl) ?_
  show BW p l e (rmb 1 6 806) s m args below meth c G A (ZB below G (W_X2 h0 cA) args s 6 806 A) 1 50 [(0, .ref h0)] [] [(h0, .inr (1, [.int 0, .ref q13, .int 0, .ref q27, .ref q36, .ref q45, .int 0, .int 0, .null, .null])), (q13, .inl (cA, 160, .inl fun _ => 0)), (q27, .inl (cA, 161, .inl fun _ => 0)), (q36, .inl (cA, 161, .inl fun _ => 0)), (q45, .inl (cA, 161, .inl fun _ => 0))] 4 643
  refine bw_aload_n (i := 0) (x := h0) C dX2_init_50 rfl rfl ?_
  show BW p l e (rmb 1 6 806) s m args below meth c G A (ZB below G (W_X2 h0 cA) args s 6 806 A) 1 51 [(0, .ref h0)] [.ref h0] [(h0, .inr (1, [.int 0, .ref q13, .int 0, .ref q27, .ref q36, .ref q45, .int 0, .int 0, .null, .null])), (q13, .inl (cA, 160, .inl fun _ => 0)), (q27, .inl (cA, 161, .inl fun _ => 0)), (q36, .inl (cA, 161, .inl fun _ => 0)), (q45, .inl (cA, 161, .inl fun _ => 0))] 4 643
  refine bw_iconst (v := 0) C dX2_init_51 rfl ?_
  show BW p l e (rmb 1 6 806) s m args below meth c G A (ZB below G (W_X2 h0 cA) args s 6 806 A) 1 52 [(0, .ref h0)] [.int 0, .ref h0] [(h0, .inr (1, [.int 0, .ref q13, .int 0, .ref q27, .ref q36, .ref q45, .int 0, .int 0, .null, .null])), (q13, .inl (cA, 160, .inl fun _ => 0)), (q27, .inl (cA, 161, .inl fun _ => 0)), (q36, .inl (cA, 161, .inl fun _ => 0)), (q45, .inl (cA, 161, .inl fun _ => 0))] 4 643
  refine bw_put (q0 := 0) C dX2_init_52 fa_X2_31 rfl rfl rfl (Nat.le_of_ble_eq_true rfl) ?_
  show BW p l e (rmb 1 6 806) s m args below meth c G A (ZB below G (W_X2 h0 cA) args s 6 806 A) 1 55 [(0, .ref h0)] [] [(h0, .inr (1, [.int 0, .ref q13, .int 0, .ref q27, .ref q36, .ref q45, .int 0, .int 0, .null, .null])), (q13, .inl (cA, 160, .inl fun _ => 0)), (q27, .inl (cA, 161, .inl fun _ => 0)), (q36, .inl (cA, 161, .inl fun _ => 0)), (q45, .inl (cA, 161, .inl fun _ => 0))] 4 643
  refine bw_aload_n (i := 0) (x := h0) C dX2_init_55 rfl rfl ?_
  show BW p l e (rmb 1 6 806) s m args below meth c G A (ZB below G (W_X2 h0 cA) args s 6 806 A) 1 56 [(0, .ref h0)] [.ref h0] [(h0, .inr (1, [.int 0, .ref q13, .int 0, .ref q27, .ref q36, .ref q45, .int 0, .int 0, .null, .null])), (q13, .inl (cA, 160, .inl fun _ => 0)), (q27, .inl (cA, 161, .inl fun _ => 0)), (q36, .inl (cA, 161, .inl fun _ => 0)), (q45, .inl (cA, 161, .inl fun _ => 0))] 4 643
  refine bw_iconst (v := 0) C dX2_init_56 rfl ?_
  show BW p l e (rmb 1 6 806) s m args below meth c G A (ZB below G (W_X2 h0 cA) args s 6 806 A) 1 57 [(0, .ref h0)] [.int 0, .ref h0] [(h0, .inr (1, [.int 0, .ref q13, .int 0, .ref q27, .ref q36, .ref q45, .int 0, .int 0, .null, .null])), (q13, .inl (cA, 160, .inl fun _ => 0)), (q27, .inl (cA, 161, .inl fun _ => 0)), (q36, .inl (cA, 161, .inl fun _ => 0)), (q45, .inl (cA, 161, .inl fun _ => 0))] 4 643
  refine bw_put (q0 := 0) C dX2_init_57 fa_X2_34 rfl rfl rfl (Nat.le_of_ble_eq_true rfl) ?_
  show BW p l e (rmb 1 6 806) s m args below meth c G A (ZB below G (W_X2 h0 cA) args s 6 806 A) 1 60 [(0, .ref h0)] [] [(h0, .inr (1, [.int 0, .ref q13, .int 0, .ref q27, .ref q36, .ref q45, .int 0, .int 0, .null, .null])), (q13, .inl (cA, 160, .inl fun _ => 0)), (q27, .inl (cA, 161, .inl fun _ => 0)), (q36, .inl (cA, 161, .inl fun _ => 0)), (q45, .inl (cA, 161, .inl fun _ => 0))] 4 643
  refine bw_aload_n (i := 0) (x := h0) C dX2_init_60 rfl rfl ?_
  show BW p l e (rmb 1 6 806) s m args below meth c G A (ZB below G (W_X2 h0 cA) args s 6 806 A) 1 61 [(0, .ref h0)] [.ref h0] [(h0, .inr (1, [.int 0, .ref q13, .int 0, .ref q27, .ref q36, .ref q45, .int 0, .int 0, .null, .null])), (q13, .inl (cA, 160, .inl fun _ => 0)), (q27, .inl (cA, 161, .inl fun _ => 0)), (q36, .inl (cA, 161, .inl fun _ => 0)), (q45, .inl (cA, 161, .inl fun _ => 0))] 4 643
  refine bw_sipush (v := 160) C dX2_init_61 rfl ?_
  show BW p l e (rmb 1 6 806) s m args below meth c G A (ZB below G (W_X2 h0 cA) args s 6 806 A) 1 64 [(0, .ref h0)] [.int 160, .ref h0] [(h0, .inr (1, [.int 0, .ref q13, .int 0, .ref q27, .ref q36, .ref q45, .int 0, .int 0, .null, .null])), (q13, .inl (cA, 160, .inl fun _ => 0)), (q27, .inl (cA, 161, .inl fun _ => 0)), (q36, .inl (cA, 161, .inl fun _ => 0)), (q45, .inl (cA, 161, .inl fun _ => 0))] 4 643
  refine bw_newa (N := 160) C dX2_init_64 rfl (by decide) (Nat.le_of_ble_eq_true rfl) (Nat.le_of_ble_eq_true rfl) (fun q64 => ?_)
  show BW p l e (rmb 1 6 806) s m args below meth c G A (ZB below G (W_X2 h0 cA) args s 6 806 A) 1 66 [(0, .ref h0)] [.ref q64, .ref h0] [(h0, .inr (1, [.int 0, .ref q13, .int 0, .ref q27, .ref q36, .ref q45, .int 0, .int 0, .null, .null])), (q13, .inl (cA, 160, .inl fun _ => 0)), (q27, .inl (cA, 161, .inl fun _ => 0)), (q36, .inl (cA, 161, .inl fun _ => 0)), (q45, .inl (cA, 161, .inl fun _ => 0)), (q64, .inl (cA, 160, .inl fun _ => 0))] 5 803
  refine bw_putF (q0 := 0) C dX2_init_66 fa_X2_37 (fun r h => by cases h; rfl) (fun r h => by cases h; exact mT1 66 rfl rfl) rfl rfl rfl (Nat.le_of_ble_eq_true rfl) ?_
  show BW p l e (rmb 1 6 806) s m args below meth c G A (ZB below G (W_X2 h0 cA) args s 6 806 A) 1 69 [(0, .ref h0)] [] [(h0, .inr (1, [.int 0, .ref q13, .int 0, .ref q27, .ref q36, .ref q45, .int 0, .int 0, .ref q64, .null])), (q13, .inl (cA, 160, .inl fun _ => 0)), (q27, .inl (cA, 161, .inl fun _ => 0)), (q36, .inl (cA, 161, .inl fun _ => 0)), (q45, .inl (cA, 161, .inl fun _ => 0)), (q64, .inl (cA, 160, .inl fun _ => 0))] 5 803
  refine bw_aload_n (i := 0) (x := h0) C dX2_init_69 rfl rfl ?_
  show BW p l e (rmb 1 6 806) s m args below meth c G A (ZB below G (W_X2 h0 cA) args s 6 806 A) 1 70 [(0, .ref h0)] [.ref h0] [(h0, .inr (1, [.int 0, .ref q13, .int 0, .ref q27, .ref q36, .ref q45, .int 0, .int 0, .ref q64, .null])), (q13, .inl (cA, 160, .inl fun _ => 0)), (q27, .inl (cA, 161, .inl fun _ => 0)), (q36, .inl (cA, 161, .inl fun _ => 0)), (q45, .inl (cA, 161, .inl fun _ => 0)), (q64, .inl (cA, 160, .inl fun _ => 0))] 5 803
  refine bw_iconst (v := 3) C dX2_init_70 rfl ?_
  show BW p l e (rmb 1 6 806) s m args below meth c G A (ZB below G (W_X2 h0 cA) args s 6 806 A) 1 71 [(0, .ref h0)] [.int 3, .ref h0] [(h0, .inr (1, [.int 0, .ref q13, .int 0, .ref q27, .ref q36, .ref q45, .int 0, .int 0, .ref q64, .null])), (q13, .inl (cA, 160, .inl fun _ => 0)), (q27, .inl (cA, 161, .inl fun _ => 0)), (q36, .inl (cA, 161, .inl fun _ => 0)), (q45, .inl (cA, 161, .inl fun _ => 0)), (q64, .inl (cA, 160, .inl fun _ => 0))] 5 803
  refine bw_newa (N := 3) C dX2_init_71 rfl (by decide) (Nat.le_of_ble_eq_true rfl) (Nat.le_of_ble_eq_true rfl) (fun q71 => ?_)
  show BW p l e (rmb 1 6 806) s m args below meth c G A (ZB below G (W_X2 h0 cA) args s 6 806 A) 1 73 [(0, .ref h0)] [.ref q71, .ref h0] [(h0, .inr (1, [.int 0, .ref q13, .int 0, .ref q27, .ref q36, .ref q45, .int 0, .int 0, .ref q64, .null])), (q13, .inl (cA, 160, .inl fun _ => 0)), (q27, .inl (cA, 161, .inl fun _ => 0)), (q36, .inl (cA, 161, .inl fun _ => 0)), (q45, .inl (cA, 161, .inl fun _ => 0)), (q64, .inl (cA, 160, .inl fun _ => 0)), (q71, .inl (cA, 3, .inl fun _ => 0))] 6 806
  refine bw_putF (q0 := 0) C dX2_init_73 fa_X2_40 (fun r h => by cases h; rfl) (fun r h => by cases h; exact mT1 68 rfl rfl) rfl rfl rfl (Nat.le_of_ble_eq_true rfl) ?_
  show BW p l e (rmb 1 6 806) s m args below meth c G A (ZB below G (W_X2 h0 cA) args s 6 806 A) 1 76 [(0, .ref h0)] [] [(h0, .inr (1, [.int 0, .ref q13, .int 0, .ref q27, .ref q36, .ref q45, .int 0, .int 0, .ref q64, .ref q71])), (q13, .inl (cA, 160, .inl fun _ => 0)), (q27, .inl (cA, 161, .inl fun _ => 0)), (q36, .inl (cA, 161, .inl fun _ => 0)), (q45, .inl (cA, 161, .inl fun _ => 0)), (q64, .inl (cA, 160, .inl fun _ => 0)), (q71, .inl (cA, 3, .inl fun _ => 0))] 6 806
  exact bw_vret C hr hlocks dX2_init_76 (Nat.le_of_ble_eq_true rfl) (Nat.le_of_ble_eq_true rfl) [q13, q27, q36, q45, q64, q71] rfl
def W_X3 (h0 w : Nat) (cA : ClassId) (u : List Nat) : va_W := [(h0, .inr (2, [.ref w, .int 0, .long 0, .int 0]))]
set_option maxHeartbeats 4000000 in
set_option maxRecDepth 100000 in
theorem B_X3 {l : Launch} {h0 w : Nat} : BT l yX3_init cX3_init 2 1 0 0 [.ref h0, .ref w] [(h0, .inr (2, [.null, .int 0, .long 0, .int 0]))] (W_X3 h0 w) := by
  refine BT.of rfl rfl (Nat.le_of_ble_eq_true rfl) ?_
  intro G cA p e s m args below meth c A C hr hlocks
  show BW p l e (rmb 1 0 0) s m args below meth c G A (ZB below G (W_X3 h0 w cA) args s 0 0 A) 2 0 [(0, .ref h0), (1, .ref w)] [] [(h0, .inr (2, [.null, .int 0, .long 0, .int 0]))] 0 0
  refine bw_aload_n (i := 0) (x := h0) C dX3_init_0 rfl rfl ?_
  show BW p l e (rmb 1 0 0) s m args below meth c G A (ZB below G (W_X3 h0 w cA) args s 0 0 A) 2 1 [(0, .ref h0), (1, .ref w)] [.ref h0] [(h0, .inr (2, [.null, .int 0, .long 0, .int 0]))] 0 0
  refine bw_obj C dX3_init_1 (mT1 187 rfl rfl) (by decide) ⟨Nat.le_of_ble_eq_true rfl, Nat.le_of_ble_eq_true rfl⟩ ?_
  show BW p l e (rmb 1 0 0) s m args below meth c G A (ZB below G (W_X3 h0 w cA) args s 0 0 A) 2 4 [(0, .ref h0), (1, .ref w)] [] [(h0, .inr (2, [.null, .int 0, .long 0, .int 0]))] 0 0
  refine bw_aload_n (i := 0) (x := h0) C dX3_init_4 rfl rfl ?_
  show BW p l e (rmb 1 0 0) s m args below meth c G A (ZB below G (W_X3 h0 w cA) args s 0 0 A) 2 5 [(0, .ref h0), (1, .ref w)] [.ref h0] [(h0, .inr (2, [.null, .int 0, .long 0, .int 0]))] 0 0
  refine bw_iconst (v := 0) C dX3_init_5 rfl ?_
  show BW p l e (rmb 1 0 0) s m args below meth c G A (ZB below G (W_X3 h0 w cA) args s 0 0 A) 2 6 [(0, .ref h0), (1, .ref w)] [.int 0, .ref h0] [(h0, .inr (2, [.null, .int 0, .long 0, .int 0]))] 0 0
  refine bw_put (q0 := 0) C dX3_init_6 fa_X3_9 rfl rfl rfl (Nat.le_of_ble_eq_true rfl) ?_
  show BW p l e (rmb 1 0 0) s m args below meth c G A (ZB below G (W_X3 h0 w cA) args s 0 0 A) 2 9 [(0, .ref h0), (1, .ref w)] [] [(h0, .inr (2, [.null, .int 0, .long 0, .int 0]))] 0 0
  refine bw_aload_n (i := 0) (x := h0) C dX3_init_9 rfl rfl ?_
  show BW p l e (rmb 1 0 0) s m args below meth c G A (ZB below G (W_X3 h0 w cA) args s 0 0 A) 2 10 [(0, .ref h0), (1, .ref w)] [.ref h0] [(h0, .inr (2, [.null, .int 0, .long 0, .int 0]))] 0 0
  refine bw_lconst (v := 0) C dX3_init_10 rfl ?_
  show BW p l e (rmb 1 0 0) s m args below meth c G A (ZB below G (W_X3 h0 w cA) args s 0 0 A) 2 11 [(0, .ref h0), (1, .ref w)] [.long 0, .ref h0] [(h0, .inr (2, [.null, .int 0, .long 0, .int 0]))] 0 0
  refine bw_put (q0 := 0) C dX3_init_11 fa_X3_15 rfl rfl rfl (Nat.le_of_ble_eq_true rfl) ?_
  show BW p l e (rmb 1 0 0) s m args below meth c G A (ZB below G (W_X3 h0 w cA) args s 0 0 A) 2 14 [(0, .ref h0), (1, .ref w)] [] [(h0, .inr (2, [.null, .int 0, .long 0, .int 0]))] 0 0
  refine bw_aload_n (i := 0) (x := h0) C dX3_init_14 rfl rfl ?_
  show BW p l e (rmb 1 0 0) s m args below meth c G A (ZB below G (W_X3 h0 w cA) args s 0 0 A) 2 15 [(0, .ref h0), (1, .ref w)] [.ref h0] [(h0, .inr (2, [.null, .int 0, .long 0, .int 0]))] 0 0
  refine bw_iconst (v := 0) C dX3_init_15 rfl ?_
  show BW p l e (rmb 1 0 0) s m args below meth c G A (ZB below G (W_X3 h0 w cA) args s 0 0 A) 2 16 [(0, .ref h0), (1, .ref w)] [.int 0, .ref h0] [(h0, .inr (2, [.null, .int 0, .long 0, .int 0]))] 0 0
  refine bw_put (q0 := 0) C dX3_init_16 fa_X3_19 rfl rfl rfl (Nat.le_of_ble_eq_true rfl) ?_
  show BW p l e (rmb 1 0 0) s m args below meth c G A (ZB below G (W_X3 h0 w cA) args s 0 0 A) 2 19 [(0, .ref h0), (1, .ref w)] [] [(h0, .inr (2, [.null, .int 0, .long 0, .int 0]))] 0 0
  refine bw_aload_n (i := 0) (x := h0) C dX3_init_19 rfl rfl ?_
  show BW p l e (rmb 1 0 0) s m args below meth c G A (ZB below G (W_X3 h0 w cA) args s 0 0 A) 2 20 [(0, .ref h0), (1, .ref w)] [.ref h0] [(h0, .inr (2, [.null, .int 0, .long 0, .int 0]))] 0 0
  refine bw_aload_n (i := 1) (x := w) C dX3_init_20 rfl rfl ?_
  show BW p l e (rmb 1 0 0) s m args below meth c G A (ZB below G (W_X3 h0 w cA) args s 0 0 A) 2 21 [(0, .ref h0), (1, .ref w)] [.ref w, .ref h0] [(h0, .inr (2, [.null, .int 0, .long 0, .int 0]))] 0 0
  refine bw_putF (q0 := 0) C dX3_init_21 fa_X3_22 (fun r h => by cases h; rfl) (fun r h => by cases h; exact mT1 188 rfl rfl) rfl rfl rfl (Nat.le_of_ble_eq_true rfl) ?_
  show BW p l e (rmb 1 0 0) s m args below meth c G A (ZB below G (W_X3 h0 w cA) args s 0 0 A) 2 24 [(0, .ref h0), (1, .ref w)] [] [(h0, .inr (2, [.ref w, .int 0, .long 0, .int 0]))] 0 0
  exact bw_vret C hr hlocks dX3_init_24 (Nat.le_of_ble_eq_true rfl) (Nat.le_of_ble_eq_true rfl) [] rfl
def W_X4 (h0 w : Nat) (cA : ClassId) (u : List Nat) : va_W := [(h0, .inr (3, [.ref w, .int 0, .int (-1), .ref (u.getD 0 0), .ref (u.getD 1 0), .ref (u.getD 2 0)])), ((u.getD 0 0), .inl (cA, 3, .inl fun _ => 0)), ((u.getD 1 0), .inl (cA, 3, .inl fun _ => 0)), ((u.getD 2 0), .inl (cA, 90, .inl fun _ => 0))]
set_option maxHeartbeats 4000000 in
set_option maxRecDepth 100000 in
theorem B_X4 {l : Launch} {h0 w : Nat} : BT l yX4_init cX4_init 2 1 3 96 [.ref h0, .ref w] [(h0, .inr (3, [.null, .int 0, .int 0, .null, .null, .null]))] (W_X4 h0 w) := by
  refine BT.of rfl rfl (Nat.le_of_ble_eq_true rfl) ?_
  intro G cA p e s m args below meth c A C hr hlocks
  show BW p l e (rmb 1 3 96) s m args below meth c G A (ZB below G (W_X4 h0 w cA) args s 3 96 A) 2 0 [(0, .ref h0), (1, .ref w)] [] [(h0, .inr (3, [.null, .int 0, .int 0, .null, .null, .null]))] 0 0
  refine bw_aload_n (i := 0) (x := h0) C dX4_init_0 rfl rfl ?_
  show BW p l e (rmb 1 3 96) s m args below meth c G A (ZB below G (W_X4 h0 w cA) args s 3 96 A) 2 1 [(0, .ref h0), (1, .ref w)] [.ref h0] [(h0, .inr (3, [.null, .int 0, .int 0, .null, .null, .null]))] 0 0
  refine bw_obj C dX4_init_1 (mT1 161 rfl rfl) (by decide) ⟨Nat.le_of_ble_eq_true rfl, Nat.le_of_ble_eq_true rfl⟩ ?_
  show BW p l e (rmb 1 3 96) s m args below meth c G A (ZB below G (W_X4 h0 w cA) args s 3 96 A) 2 4 [(0, .ref h0), (1, .ref w)] [] [(h0, .inr (3, [.null, .int 0, .int 0, .null, .null, .null]))] 0 0
  refine bw_aload_n (i := 0) (x := h0) C dX4_init_4 rfl rfl ?_
  show BW p l e (rmb 1 3 96) s m args below meth c G A (ZB below G (W_X4 h0 w cA) args s 3 96 A) 2 5 [(0, .ref h0), (1, .ref w)] [.ref h0] [(h0, .inr (3, [.null, .int 0, .int 0, .null, .null, .null]))] 0 0
  refine bw_iconst (v := 0) C dX4_init_5 rfl ?_
  show BW p l e (rmb 1 3 96) s m args below meth c G A (ZB below G (W_X4 h0 w cA) args s 3 96 A) 2 6 [(0, .ref h0), (1, .ref w)] [.int 0, .ref h0] [(h0, .inr (3, [.null, .int 0, .int 0, .null, .null, .null]))] 0 0
  refine bw_put (q0 := 0) C dX4_init_6 fa_X4_9 rfl rfl rfl (Nat.le_of_ble_eq_true rfl) ?_
  show BW p l e (rmb 1 3 96) s m args below meth c G A (ZB below G (W_X4 h0 w cA) args s 3 96 A) 2 9 [(0, .ref h0), (1, .ref w)] [] [(h0, .inr (3, [.null, .int 0, .int 0, .null, .null, .null]))] 0 0
  refine bw_aload_n (i := 0) (x := h0) C dX4_init_9 rfl rfl ?_
  show BW p l e (rmb 1 3 96) s m args below meth c G A (ZB below G (W_X4 h0 w cA) args s 3 96 A) 2 10 [(0, .ref h0), (1, .ref w)] [.ref h0] [(h0, .inr (3, [.null, .int 0, .int 0, .null, .null, .null]))] 0 0
  refine bw_iconst (v := (-1)) C dX4_init_10 rfl ?_
  show BW p l e (rmb 1 3 96) s m args below meth c G A (ZB below G (W_X4 h0 w cA) args s 3 96 A) 2 11 [(0, .ref h0), (1, .ref w)] [.int (-1), .ref h0] [(h0, .inr (3, [.null, .int 0, .int 0, .null, .null, .null]))] 0 0
  refine bw_put (q0 := 0) C dX4_init_11 fa_X4_15 rfl rfl rfl (Nat.le_of_ble_eq_true rfl) ?_
  show BW p l e (rmb 1 3 96) s m args below meth c G A (ZB below G (W_X4 h0 w cA) args s 3 96 A) 2 14 [(0, .ref h0), (1, .ref w)] [] [(h0, .inr (3, [.null, .int 0, .int (-1), .null, .null, .null]))] 0 0
  refine bw_aload_n (i := 0) (x := h0) C dX4_init_14 rfl rfl ?_
  show BW p l e (rmb 1 3 96) s m args below meth c G A (ZB below G (W_X4 h0 w cA) args s 3 96 A) 2 15 [(0, .ref h0), (1, .ref w)] [.ref h0] [(h0, .inr (3, [.null, .int 0, .int (-1), .null, .null, .null]))] 0 0
  refine bw_iconst (v := 3) C dX4_init_15 rfl ?_
  show BW p l e (rmb 1 3 96) s m args below meth c G A (ZB below G (W_X4 h0 w cA) args s 3 96 A) 2 16 [(0, .ref h0), (1, .ref w)] [.int 3, .ref h0] [(h0, .inr (3, [.null, .int 0, .int (-1), .null, .null, .null]))] 0 0
  refine bw_newa (N := 3) C dX4_init_16 rfl (by decide) (Nat.le_of_ble_eq_true rfl) (Nat.le_of_ble_eq_true rfl) (fun q16 => ?_)
  show BW p l e (rmb 1 3 96) s m args below meth c G A (ZB below G (W_X4 h0 w cA) args s 3 96 A) 2 18 [(0, .ref h0), (1, .ref w)] [.ref q16, .ref h0] [(h0, .inr (3, [.null, .int 0, .int (-1), .null, .null, .null])), (q16, .inl (cA, 3, .inl fun _ => 0))] 1 3
  refine bw_putF (q0 := 0) C dX4_init_18 fa_X4_18 (fun r h => by cases h; rfl) (fun r h => by cases h; exact mT1 166 rfl rfl) rfl rfl rfl (Nat.le_of_ble_eq_true rfl) ?_
  show BW p l e (rmb 1 3 96) s m args below meth c G A (ZB below G (W_X4 h0 w cA) args s 3 96 A) 2 21 [(0, .ref h0), (1, .ref w)] [] [(h0, .inr (3, [.null, .int 0, .int (-1), .ref q16, .null, .null])), (q16, .inl (cA, 3, .inl fun _ => 0))] 1 3
  refine bw_aload_n (i := 0) (x := h0) C dX4_init_21 rfl rfl ?_
  show BW p l e (rmb 1 3 96) s m args below meth c G A (ZB below G (W_X4 h0 w cA) args s 3 96 A) 2 22 [(0, .ref h0), (1, .ref w)] [.ref h0] [(h0, .inr (3, [.null, .int 0, .int (-1), .ref q16, .null, .null])), (q16, .inl (cA, 3, .inl fun _ => 0))] 1 3
  refine bw_iconst (v := 3) C dX4_init_22 rfl ?_
  show BW p l e (rmb 1 3 96) s m args below meth c G A (ZB below G (W_X4 h0 w cA) args s 3 96 A) 2 23 [(0, .ref h0), (1, .ref w)] [.int 3, .ref h0] [(h0, .inr (3, [.null, .int 0, .int (-1), .ref q16, .null, .null])), (q16, .inl (cA, 3, .inl fun _ => 0))] 1 3
  refine bw_newa (N := 3) C dX4_init_23 rfl (by decide) (Nat.le_of_ble_eq_true rfl) (Nat.le_of_ble_eq_true rfl) (fun q23 => ?_)
  show BW p l e (rmb 1 3 96) s m args below meth c G A (ZB below G (W_X4 h0 w cA) args s 3 96 A) 2 25 [(0, .ref h0), (1, .ref w)] [.ref q23, .ref h0] [(h0, .inr (3, [.null, .int 0, .int (-1), .ref q16, .null, .null])), (q16, .inl (cA, 3, .inl fun _ => 0)), (q23, .inl (cA, 3, .inl fun _ => 0))] 2 6
  refine bw_putF (q0 := 0) C dX4_init_25 fa_X4_22 (fun r h => by cases h; rfl) (fun r h => by cases h; exact mT1 167 rfl rfl) rfl rfl rfl (Nat.le_of_ble_eq_true rfl) ?_
  show BW p l e (rmb 1 3 96) s m args below meth c G A (ZB below G (W_X4 h0 w cA) args s 3 96 A) 2 28 [(0, .ref h0), (1, .ref w)] [] [(h0, .inr (3, [.null, .int 0, .int (-1), .ref q16, .ref q23, .null])), (q16, .inl (cA, 3, .inl fun _ => 0)), (q23, .inl (cA, 3, .inl fun _ => 0))] 2 6
  refine bw_aload_n (i := 0) (x := h0) C dX4_init_28 rfl rfl ?_
  show BW p l e (rmb 1 3 96) s m args below meth c G A (ZB below G (W_X4 h0 w cA) args s 3 96 A) 2 29 [(0, .ref h0), (1, .ref w)] [.ref h0] [(h0, .inr (3, [.null, .int 0, .int (-1), .ref q16, .ref q23, .null])), (q16, .inl (cA, 3, .inl fun _ => 0)), (q23, .inl (cA, 3, .inl fun _ => 0))] 2 6
  refine bw_bipush (v := 90) C dX4_init_29 rfl ?_
  show BW p l e (rmb 1 3 96) s m args below meth c G A (ZB below G (W_X4 h0 w cA) args s 3 96 A) 2 31 [(0, .ref h0), (1, .ref w)] [.int 90, .ref h0] [(h0, .inr (3, [.null, .int 0, .int (-1), .ref q16, .ref q23, .null])), (q16, .inl (cA, 3, .inl fun _ => 0)), (q23, .inl (cA, 3, .inl fun _ => 0))] 2 6
  refine bw_newa (N := 90) C dX4_init_31 rfl (by decide) (Nat.le_of_ble_eq_true rfl) (Nat.le_of_ble_eq_true rfl) (fun q31 => ?_)
  show BW p l e (rmb 1 3 96) s m args below meth c G A (ZB below G (W_X4 h0 w cA) args s 3 96 A) 2 33 [(0, .ref h0), (1, .ref w)] [.ref q31, .ref h0] [(h0, .inr (3, [.null, .int 0, .int (-1), .ref q16, .ref q23, .null])), (q16, .inl (cA, 3, .inl fun _ => 0)), (q23, .inl (cA, 3, .inl fun _ => 0)), (q31, .inl (cA, 90, .inl fun _ => 0))] 3 96
  refine bw_putF (q0 := 0) C dX4_init_33 fa_X4_25 (fun r h => by cases h; rfl) (fun r h => by cases h; exact mT1 168 rfl rfl) rfl rfl rfl (Nat.le_of_ble_eq_true rfl) ?_
  show BW p l e (rmb 1 3 96) s m args below meth c G A (ZB below G (W_X4 h0 w cA) args s 3 96 A) 2 36 [(0, .ref h0), (1, .ref w)] [] [(h0, .inr (3, [.null, .int 0, .int (-1), .ref q16, .ref q23, .ref q31])), (q16, .inl (cA, 3, .inl fun _ => 0)), (q23, .inl (cA, 3, .inl fun _ => 0)), (q31, .inl (cA, 90, .inl fun _ => 0))] 3 96
  refine bw_aload_n (i := 0) (x := h0) C dX4_init_36 rfl rfl ?_
  show BW p l e (rmb 1 3 96) s m args below meth c G A (ZB below G (W_X4 h0 w cA) args s 3 96 A) 2 37 [(0, .ref h0), (1, .ref w)] [.ref h0] [(h0, .inr (3, [.null, .int 0, .int (-1), .ref q16, .ref q23, .ref q31])), (q16, .inl (cA, 3, .inl fun _ => 0)), (q23, .inl (cA, 3, .inl fun _ => 0)), (q31, .inl (cA, 90, .inl fun _ => 0))] 3 96
  refine bw_aload_n (i := 1) (x := w) C dX4_init_37 rfl rfl ?_
  show BW p l e (rmb 1 3 96) s m args below meth c G A (ZB below G (W_X4 h0 w cA) args s 3 96 A) 2 38 [(0, .ref h0), (1, .ref w)] [.ref w, .ref h0] [(h0, .inr (3, [.null, .int 0, .int (-1), .ref q16, .ref q23, .ref q31])), (q16, .inl (cA, 3, .inl fun _ => 0)), (q23, .inl (cA, 3, .inl fun _ => 0)), (q31, .inl (cA, 90, .inl fun _ => 0))] 3 96
  refine bw_putF (q0 := 0) C dX4_init_38 fa_X4_28 (fun r h => by cases h; rfl) (fun r h => by cases h; exact mT1 162 rfl rfl) rfl rfl rfl (Nat.le_of_ble_eq_true rfl) ?_
  show BW p l e (rmb 1 3 96) s m args below meth c G A (ZB below G (W_X4 h0 w cA) args s 3 96 A) 2 41 [(0, .ref h0), (1, .ref w)] [] [(h0, .inr (3, [.ref w, .int 0, .int (-1), .ref q16, .ref q23, .ref q31])), (q16, .inl (cA, 3, .inl fun _ => 0)), (q23, .inl (cA, 3, .inl fun _ => 0)), (q31, .inl (cA, 90, .inl fun _ => 0))] 3 96
  exact bw_vret C hr hlocks dX4_init_41 (Nat.le_of_ble_eq_true rfl) (Nat.le_of_ble_eq_true rfl) [q16, q23, q31] rfl
def W_X5 (h0 : Nat) (cA : ClassId) (u : List Nat) : va_W := [(h0, .inr (4, [.ref (u.getD 0 0), .ref (u.getD 1 0), .ref (u.getD 2 0)])), ((u.getD 0 0), .inl (cA, 4, .inl (upd (upd (upd (upd (fun _ => 0) 0 (-1)) 1 (-1)) 2 (-1)) 3 (-1)))), ((u.getD 1 0), .inl (cA, 4, .inl fun _ => 0)), ((u.getD 2 0), .inl (cA, 160, .inl fun _ => 0))]
set_option maxHeartbeats 4000000 in
set_option maxRecDepth 100000 in
theorem B_X5 {l : Launch} {h0 : Nat} : BT l yX5_init cX5_init 1 1 3 168 [.ref h0] [(h0, .inr (4, [.null, .null, .null]))] (W_X5 h0) := by
  refine BT.of rfl rfl (Nat.le_of_ble_eq_true rfl) ?_
  intro G cA p e s m args below meth c A C hr hlocks
  show BW p l e (rmb 1 3 168) s m args below meth c G A (ZB below G (W_X5 h0 cA) args s 3 168 A) 1 0 [(0, .ref h0)] [] [(h0, .inr (4, [.null, .null, .null]))] 0 0
  refine bw_aload_n (i := 0) (x := h0) C dX5_init_0 rfl rfl ?_
  show BW p l e (rmb 1 3 168) s m args below meth c G A (ZB below G (W_X5 h0 cA) args s 3 168 A) 1 1 [(0, .ref h0)] [.ref h0] [(h0, .inr (4, [.null, .null, .null]))] 0 0
  refine bw_obj C dX5_init_1 (mT1 208 rfl rfl) (by decide) ⟨Nat.le_of_ble_eq_true rfl, Nat.le_of_ble_eq_true rfl⟩ ?_
  show BW p l e (rmb 1 3 168) s m args below meth c G A (ZB below G (W_X5 h0 cA) args s 3 168 A) 1 4 [(0, .ref h0)] [] [(h0, .inr (4, [.null, .null, .null]))] 0 0
  refine bw_aload_n (i := 0) (x := h0) C dX5_init_4 rfl rfl ?_
  show BW p l e (rmb 1 3 168) s m args below meth c G A (ZB below G (W_X5 h0 cA) args s 3 168 A) 1 5 [(0, .ref h0)] [.ref h0] [(h0, .inr (4, [.null, .null, .null]))] 0 0
  refine bw_iconst (v := 4) C dX5_init_5 rfl ?_
  show BW p l e (rmb 1 3 168) s m args below meth c G A (ZB below G (W_X5 h0 cA) args s 3 168 A) 1 6 [(0, .ref h0)] [.int 4, .ref h0] [(h0, .inr (4, [.null, .null, .null]))] 0 0
  refine bw_newa (N := 4) C dX5_init_6 rfl (by decide) (Nat.le_of_ble_eq_true rfl) (Nat.le_of_ble_eq_true rfl) (fun q6 => ?_)
  show BW p l e (rmb 1 3 168) s m args below meth c G A (ZB below G (W_X5 h0 cA) args s 3 168 A) 1 8 [(0, .ref h0)] [.ref q6, .ref h0] [(h0, .inr (4, [.null, .null, .null])), (q6, .inl (cA, 4, .inl fun _ => 0))] 1 4
  refine bw_dup C dX5_init_8 rfl ?_
  show BW p l e (rmb 1 3 168) s m args below meth c G A (ZB below G (W_X5 h0 cA) args s 3 168 A) 1 9 [(0, .ref h0)] [.ref q6, .ref q6, .ref h0] [(h0, .inr (4, [.null, .null, .null])), (q6, .inl (cA, 4, .inl fun _ => 0))] 1 4
  refine bw_iconst (v := 0) C dX5_init_9 rfl ?_
  show BW p l e (rmb 1 3 168) s m args below meth c G A (ZB below G (W_X5 h0 cA) args s 3 168 A) 1 10 [(0, .ref h0)] [.int 0, .ref q6, .ref q6, .ref h0] [(h0, .inr (4, [.null, .null, .null])), (q6, .inl (cA, 4, .inl fun _ => 0))] 1 4
  refine bw_iconst (v := (-1)) C dX5_init_10 rfl ?_
  show BW p l e (rmb 1 3 168) s m args below meth c G A (ZB below G (W_X5 h0 cA) args s 3 168 A) 1 11 [(0, .ref h0)] [.int (-1), .int 0, .ref q6, .ref q6, .ref h0] [(h0, .inr (4, [.null, .null, .null])), (q6, .inl (cA, 4, .inl fun _ => 0))] 1 4
  refine bw_iast (q0 := 1) (i := 0) C dX5_init_11 rfl rfl (by decide) (by decide) ?_
  show BW p l e (rmb 1 3 168) s m args below meth c G A (ZB below G (W_X5 h0 cA) args s 3 168 A) 1 12 [(0, .ref h0)] [.ref q6, .ref h0] [(h0, .inr (4, [.null, .null, .null])), (q6, .inl (cA, 4, .inl (upd (fun _ => 0) 0 (-1))))] 1 4
  refine bw_dup C dX5_init_12 rfl ?_
  show BW p l e (rmb 1 3 168) s m args below meth c G A (ZB below G (W_X5 h0 cA) args s 3 168 A) 1 13 [(0, .ref h0)] [.ref q6, .ref q6, .ref h0] [(h0, .inr (4, [.null, .null, .null])), (q6, .inl (cA, 4, .inl (upd (fun _ => 0) 0 (-1))))] 1 4
  refine bw_iconst (v := 1) C dX5_init_13 rfl ?_
  show BW p l e (rmb 1 3 168) s m args below meth c G A (ZB below G (W_X5 h0 cA) args s 3 168 A) 1 14 [(0, .ref h0)] [.int 1, .ref q6, .ref q6, .ref h0] [(h0, .inr (4, [.null, .null, .null])), (q6, .inl (cA, 4, .inl (upd (fun _ => 0) 0 (-1))))] 1 4
  refine bw_iconst (v := (-1)) C dX5_init_14 rfl ?_
  show BW p l e (rmb 1 3 168) s m args below meth c G A (ZB below G (W_X5 h0 cA) args s 3 168 A) 1 15 [(0, .ref h0)] [.int (-1), .int 1, .ref q6, .ref q6, .ref h0] [(h0, .inr (4, [.null, .null, .null])), (q6, .inl (cA, 4, .inl (upd (fun _ => 0) 0 (-1))))] 1 4
  refine bw_iast (q0 := 1) (i := 1) C dX5_init_15 rfl rfl (by decide) (by decide) ?_
  show BW p l e (rmb 1 3 168) s m args below meth c G A (ZB below G (W_X5 h0 cA) args s 3 168 A) 1 16 [(0, .ref h0)] [.ref q6, .ref h0] [(h0, .inr (4, [.null, .null, .null])), (q6, .inl (cA, 4, .inl (upd (upd (fun _ => 0) 0 (-1)) 1 (-1))))] 1 4
  refine bw_dup C dX5_init_16 rfl ?_
  show BW p l e (rmb 1 3 168) s m args below meth c G A (ZB below G (W_X5 h0 cA) args s 3 168 A) 1 17 [(0, .ref h0)] [.ref q6, .ref q6, .ref h0] [(h0, .inr (4, [.null, .null, .null])), (q6, .inl (cA, 4, .inl (upd (upd (fun _ => 0) 0 (-1)) 1 (-1))))] 1 4
  refine bw_iconst (v := 2) C dX5_init_17 rfl ?_
  show BW p l e (rmb 1 3 168) s m args below meth c G A (ZB below G (W_X5 h0 cA) args s 3 168 A) 1 18 [(0, .ref h0)] [.int 2, .ref q6, .ref q6, .ref h0] [(h0, .inr (4, [.null, .null, .null])), (q6, .inl (cA, 4, .inl (upd (upd (fun _ => 0) 0 (-1)) 1 (-1))))] 1 4
  refine bw_iconst (v := (-1)) C dX5_init_18 rfl ?_
  show BW p l e (rmb 1 3 168) s m args below meth c G A (ZB below G (W_X5 h0 cA) args s 3 168 A) 1 19 [(0, .ref h0)] [.int (-1), .int 2, .ref q6, .ref q6, .ref h0] [(h0, .inr (4, [.null, .null, .null])), (q6, .inl (cA, 4, .inl (upd (upd (fun _ => 0) 0 (-1)) 1 (-1))))] 1 4
  refine bw_iast (q0 := 1) (i := 2) C dX5_init_19 rfl rfl (by decide) (by decide) ?_
  show BW p l e (rmb 1 3 168) s m args below meth c G A (ZB below G (W_X5 h0 cA) args s 3 168 A) 1 20 [(0, .ref h0)] [.ref q6, .ref h0] [(h0, .inr (4, [.null, .null, .null])), (q6, .inl (cA, 4, .inl (upd (upd (upd (fun _ => 0) 0 (-1)) 1 (-1)) 2 (-1))))] 1 4
  refine bw_dup C dX5_init_20 rfl ?_
  show BW p l e (rmb 1 3 168) s m args below meth c G A (ZB below G (W_X5 h0 cA) args s 3 168 A) 1 21 [(0, .ref h0)] [.ref q6, .ref q6, .ref h0] [(h0, .inr (4, [.null, .null, .null])), (q6, .inl (cA, 4, .inl (upd (upd (upd (fun _ => 0) 0 (-1)) 1 (-1)) 2 (-1))))] 1 4
  refine bw_iconst (v := 3) C dX5_init_21 rfl ?_
  show BW p l e (rmb 1 3 168) s m args below meth c G A (ZB below G (W_X5 h0 cA) args s 3 168 A) 1 22 [(0, .ref h0)] [.int 3, .ref q6, .ref q6, .ref h0] [(h0, .inr (4, [.null, .null, .null])), (q6, .inl (cA, 4, .inl (upd (upd (upd (fun _ => 0) 0 (-1)) 1 (-1)) 2 (-1))))] 1 4
  refine bw_iconst (v := (-1)) C dX5_init_22 rfl ?_
  show BW p l e (rmb 1 3 168) s m args below meth c G A (ZB below G (W_X5 h0 cA) args s 3 168 A) 1 23 [(0, .ref h0)] [.int (-1), .int 3, .ref q6, .ref q6, .ref h0] [(h0, .inr (4, [.null, .null, .null])), (q6, .inl (cA, 4, .inl (upd (upd (upd (fun _ => 0) 0 (-1)) 1 (-1)) 2 (-1))))] 1 4
  refine bw_iast (q0 := 1) (i := 3) C dX5_init_23 rfl rfl (by decide) (by decide) ?_
  show BW p l e (rmb 1 3 168) s m args below meth c G A (ZB below G (W_X5 h0 cA) args s 3 168 A) 1 24 [(0, .ref h0)] [.ref q6, .ref h0] [(h0, .inr (4, [.null, .null, .null])), (q6, .inl (cA, 4, .inl (upd (upd (upd (upd (fun _ => 0) 0 (-1)) 1 (-1)) 2 (-1)) 3 (-1))))] 1 4
  refine bw_putF (q0 := 0) C dX5_init_24 fa_X5_11 (fun r h => by cases h; rfl) (fun r h => by cases h; exact mT1 209 rfl rfl) rfl rfl rfl (Nat.le_of_ble_eq_true rfl) ?_
  show BW p l e (rmb 1 3 168) s m args below meth c G A (ZB below G (W_X5 h0 cA) args s 3 168 A) 1 27 [(0, .ref h0)] [] [(h0, .inr (4, [.ref q6, .null, .null])), (q6, .inl (cA, 4, .inl (upd (upd (upd (upd (fun _ => 0) 0 (-1)) 1 (-1)) 2 (-1)) 3 (-1))))] 1 4
  refine bw_aload_n (i := 0) (x := h0) C dX5_init_27 rfl rfl ?_
  show BW p l e (rmb 1 3 168) s m args below meth c G A (ZB below G (W_X5 h0 cA) args s 3 168 A) 1 28 [(0, .ref h0)] [.ref h0] [(h0, .inr (4, [.ref q6, .null, .null])), (q6, .inl (cA, 4, .inl (upd (upd (upd (upd (fun _ => 0) 0 (-1)) 1 (-1)) 2 (-1)) 3 (-1))))] 1 4
  refine bw_iconst (v := 4) C dX5_init_28 rfl ?_
  show BW p l e (rmb 1 3 168) s m args below meth c G A (ZB below G (W_X5 h0 cA) args s 3 168 A) 1 29 [(0, .ref h0)] [.int 4, .ref h0] [(h0, .inr (4, [.ref q6, .null, .null])), (q6, .inl (cA, 4, .inl (upd (upd (upd (upd (fun _ => 0) 0 (-1)) 1 (-1)) 2 (-1)) 3 (-1))))] 1 4
  refine bw_newa (N := 4) C dX5_init_29 rfl (by decide) (Nat.le_of_ble_eq_true rfl) (Nat.le_of_ble_eq_true rfl) (fun q29 => ?_)
  show BW p l e (rmb 1 3 168) s m args below meth c G A (ZB below G (W_X5 h0 cA) args s 3 168 A) 1 31 [(0, .ref h0)] [.ref q29, .ref h0] [(h0, .inr (4, [.ref q6, .null, .null])), (q6, .inl (cA, 4, .inl (upd (upd (upd (upd (fun _ => 0) 0 (-1)) 1 (-1)) 2 (-1)) 3 (-1)))), (q29, .inl (cA, 4, .inl fun _ => 0))] 2 8
  refine bw_putF (q0 := 0) C dX5_init_31 fa_X5_15 (fun r h => by cases h; rfl) (fun r h => by cases h; exact mT1 211 rfl rfl) rfl rfl rfl (Nat.le_of_ble_eq_true rfl) ?_
  show BW p l e (rmb 1 3 168) s m args below meth c G A (ZB below G (W_X5 h0 cA) args s 3 168 A) 1 34 [(0, .ref h0)] [] [(h0, .inr (4, [.ref q6, .ref q29, .null])), (q6, .inl (cA, 4, .inl (upd (upd (upd (upd (fun _ => 0) 0 (-1)) 1 (-1)) 2 (-1)) 3 (-1)))), (q29, .inl (cA, 4, .inl fun _ => 0))] 2 8
  refine bw_aload_n (i := 0) (x := h0) C dX5_init_34 rfl rfl ?_
  show BW p l e (rmb 1 3 168) s m args below meth c G A (ZB below G (W_X5 h0 cA) args s 3 168 A) 1 35 [(0, .ref h0)] [.ref h0] [(h0, .inr (4, [.ref q6, .ref q29, .null])), (q6, .inl (cA, 4, .inl (upd (upd (upd (upd (fun _ => 0) 0 (-1)) 1 (-1)) 2 (-1)) 3 (-1)))), (q29, .inl (cA, 4, .inl fun _ => 0))] 2 8
  refine bw_sipush (v := 160) C dX5_init_35 rfl ?_
  show BW p l e (rmb 1 3 168) s m args below meth c G A (ZB below G (W_X5 h0 cA) args s 3 168 A) 1 38 [(0, .ref h0)] [.int 160, .ref h0] [(h0, .inr (4, [.ref q6, .ref q29, .null])), (q6, .inl (cA, 4, .inl (upd (upd (upd (upd (fun _ => 0) 0 (-1)) 1 (-1)) 2 (-1)) 3 (-1)))), (q29, .inl (cA, 4, .inl fun _ => 0))] 2 8
  refine bw_newa (N := 160) C dX5_init_38 rfl (by decide) (Nat.le_of_ble_eq_true rfl) (Nat.le_of_ble_eq_true rfl) (fun q38 => ?_)
  show BW p l e (rmb 1 3 168) s m args below meth c G A (ZB below G (W_X5 h0 cA) args s 3 168 A) 1 40 [(0, .ref h0)] [.ref q38, .ref h0] [(h0, .inr (4, [.ref q6, .ref q29, .null])), (q6, .inl (cA, 4, .inl (upd (upd (upd (upd (fun _ => 0) 0 (-1)) 1 (-1)) 2 (-1)) 3 (-1)))), (q29, .inl (cA, 4, .inl fun _ => 0)), (q38, .inl (cA, 160, .inl fun _ => 0))] 3 168
  refine bw_putF (q0 := 0) C dX5_init_40 fa_X5_18 (fun r h => by cases h; rfl) (fun r h => by cases h; exact mT1 213 rfl rfl) rfl rfl rfl (Nat.le_of_ble_eq_true rfl) ?_
  show BW p l e (rmb 1 3 168) s m args below meth c G A (ZB below G (W_X5 h0 cA) args s 3 168 A) 1 43 [(0, .ref h0)] [] [(h0, .inr (4, [.ref q6, .ref q29, .ref q38])), (q6, .inl (cA, 4, .inl (upd (upd (upd (upd (fun _ => 0) 0 (-1)) 1 (-1)) 2 (-1)) 3 (-1)))), (q29, .inl (cA, 4, .inl fun _ => 0)), (q38, .inl (cA, 160, .inl fun _ => 0))] 3 168
  exact bw_vret C hr hlocks dX5_init_43 (Nat.le_of_ble_eq_true rfl) (Nat.le_of_ble_eq_true rfl) [q6, q29, q38] rfl
