/-! CONSTRUCTORS: a run over an explicit world that grows -/
section BUILD
variable {p : Program} {l : Launch} {e : Env} {R : Room} {s : State} {m : MethodId} {args : Array Value} {below : List Frame} {meth : Method} {c : Code} {G : va_G} {cA : ClassId} {A : Nat → Prop} {Z : State → Prop} {own : String} {cc : ByteArray} {maxL : Nat} {pc : Nat} {ls : PL} {st : List Value} {ws : va_W} {nc ns : Nat}
def BC (own : String) (cc : ByteArray) (maxL : Nat) (p : Program) (s : State) (m : MethodId) (args : Array Value) (meth : Method) (c : Code) (G : va_G) (cA : ClassId) (A : Nat → Prop) : Prop :=
  p.tables.exec = Jvm.exec ∧ c.code = cc ∧ c.maxLocals = maxL ∧ s.vm.findClass own = some m.cls ∧ (∀ w ∈ TB, w.before args s = true) ∧ va_K G vwCl [(cA, .int)] s ∧ (∀ q, s.heap.size ≤ q → A q) ∧ (own = RL ∨ meth.name = "<init>") ∧ ∀ w ∈ NB, va_Nw w s
def isFL : Cond → Bool
  | .fieldLink o _ _ _ _ => o == RL
  | _ => false
theorem no_FLb : lw_tbl.all (fun w => !isFL w) = true := by decide +kernel
/-- the law has no fields of its own -/
theorem no_FL : ∀ w ∈ lw_tbl, isFL w = false := fun w h => by
  have := List.all_eq_true.mp no_FLb w h
  simpa using this
theorem NB_on {w : Cond} (hw : w ∈ NB) : w.onTables = true := by
  have h2 := (List.mem_filter.mp hw).2
  cases w with
  | methodLinkNest a b c d => rfl
  | fieldLinkNest a b c d e f => rfl
  | _ => exact absurd h2 (by simp [isNest])
/-- from here, with this world, the builder comes to Z -/
def BW (p : Program) (l : Launch) (e : Env) (R : Room) (s : State) (m : MethodId) (args : Array Value) (below : List Frame) (meth : Method) (c : Code) (G : va_G) (A : Nat → Prop) (Z : State → Prop) (maxL : Nat) (pc : Nat) (ls : PL) (st : List Value) (ws : va_W) (nc ns : Nat) : Prop :=
  ∀ (H : Heap) (locs : List Loc) (lz : Array Slot), va_P G vwCl ws H → va_D A ws → va_S A s.heap H locs → lv_has lz maxL ls → W p l e R s m args below meth c H locs nc ns Z (F0 m pc lz st)
theorem bl_at {lz : Array Slot} {n : Nat} {r : PL} {i : Nat} {v : Value} (hl : lv_has lz n r) (h : lk r i = some v) : lz[i]? = some (.val v) := hl.2.2 (i, v) (lk_mem h)
theorem bw_iconst {n : Int} {v : Int32} (C : BC own cc maxL p s m args meth c G cA A) (hd : decode cc pc = .ok (.iconst n, 1)) (hv : Int32.ofInt n = v) (kk : BW p l e R s m args below meth c G A Z maxL (pc + 1) ls (.int v :: st) ws nc ns) : BW p l e R s m args below meth c G A Z maxL pc ls st ws nc ns := by
  intro H locs lz hP hD hS hl
  exact lv_iconst C.1 C.2.1 hd hv (kk H locs lz hP hD hS hl)
theorem bw_bipush {n : Int} {v : Int32} (C : BC own cc maxL p s m args meth c G cA A) (hd : decode cc pc = .ok (.bipush n, 2)) (hv : (Int8.ofInt n).toInt32 = v) (kk : BW p l e R s m args below meth c G A Z maxL (pc + 2) ls (.int v :: st) ws nc ns) : BW p l e R s m args below meth c G A Z maxL pc ls st ws nc ns := by
  intro H locs lz hP hD hS hl
  exact lv_bipush C.1 C.2.1 hd hv (kk H locs lz hP hD hS hl)
theorem bw_sipush {n : Int} {v : Int32} (C : BC own cc maxL p s m args meth c G cA A) (hd : decode cc pc = .ok (.sipush n, 3)) (hv : (Int16.ofInt n).toInt32 = v) (kk : BW p l e R s m args below meth c G A Z maxL (pc + 3) ls (.int v :: st) ws nc ns) : BW p l e R s m args below meth c G A Z maxL pc ls st ws nc ns := by
  intro H locs lz hP hD hS hl
  exact lv_sipush C.1 C.2.1 hd hv (kk H locs lz hP hD hS hl)
theorem bw_lconst {n : Fin 2} {v : Int64} (C : BC own cc maxL p s m args meth c G cA A) (hd : decode cc pc = .ok (.lconst n, 1)) (hv : Int64.ofNat (n : Nat) = v) (kk : BW p l e R s m args below meth c G A Z maxL (pc + 1) ls (.long v :: st) ws nc ns) : BW p l e R s m args below meth c G A Z maxL pc ls st ws nc ns := by
  intro H locs lz hP hD hS hl
  exact lv_lconst C.1 C.2.1 hd hv (kk H locs lz hP hD hS hl)
theorem bw_aload_n {j : Fin 4} {i x : Nat} (C : BC own cc maxL p s m args meth c G cA A) (hd : decode cc pc = .ok (.aload_n j, 1)) (hi : (j : Nat) = i) (hx : lk ls i = some (.ref x)) (kk : BW p l e R s m args below meth c G A Z maxL (pc + 1) ls (.ref x :: st) ws nc ns) : BW p l e R s m args below meth c G A Z maxL pc ls st ws nc ns := by
  intro H locs lz hP hD hS hl
  exact lv_aload_n C.1 C.2.1 hd hi (bl_at hl hx) (kk H locs lz hP hD hS hl)
theorem bw_iload_n {j : Fin 4} {i : Nat} {x : Int32} (C : BC own cc maxL p s m args meth c G cA A) (hd : decode cc pc = .ok (.iload_n j, 1)) (hi : (j : Nat) = i) (hx : lk ls i = some (.int x)) (kk : BW p l e R s m args below meth c G A Z maxL (pc + 1) ls (.int x :: st) ws nc ns) : BW p l e R s m args below meth c G A Z maxL pc ls st ws nc ns := by
  intro H locs lz hP hD hS hl
  exact lv_iload_n C.1 C.2.1 hd hi (bl_at hl hx) (kk H locs lz hP hD hS hl)
theorem bw_dup {v : Value} (C : BC own cc maxL p s m args meth c G cA A) (hd : decode cc pc = .ok (.dup, 1)) (hv : v.category = 1) (kk : BW p l e R s m args below meth c G A Z maxL (pc + 1) ls (v :: v :: st) ws nc ns) : BW p l e R s m args below meth c G A Z maxL pc ls (v :: st) ws nc ns := by
  intro H locs lz hP hD hS hl
  exact lv_dup C.1 C.2.1 hd hv (kk H locs lz hP hD hS hl)
theorem bw_pop {v : Value} (C : BC own cc maxL p s m args meth c G cA A) (hd : decode cc pc = .ok (.pop, 1)) (hv : v.category = 1) (kk : BW p l e R s m args below meth c G A Z maxL (pc + 1) ls st ws nc ns) : BW p l e R s m args below meth c G A Z maxL pc ls (v :: st) ws nc ns := by
  intro H locs lz hP hD hS hl
  exact lv_pop C.1 C.2.1 hd hv (kk H locs lz hP hD hS hl)
theorem bw_newa {n : Int32} {N : Nat} (C : BC own cc maxL p s m args meth c G cA A) (hd : decode cc pc = .ok (.newarray .int, 2)) (hn : nI N = n) (hN : N < 100000) (hc : nc + 1 ≤ R.cells) (hs : ns + N ≤ R.slots) (kk : ∀ q, BW p l e R s m args below meth c G A Z maxL (pc + 2) ls (.ref q :: st) (ws ++ [(q, .inl (cA, N, .inl fun _ => 0))]) (nc + 1) (ns + N)) : BW p l e R s m args below meth c G A Z maxL pc ls (.int n :: st) ws nc ns := by
  intro H locs lz hP hD hS hl
  subst hn
  obtain ⟨h1, h2, h3, h4, h5, h6, h7, h8, h9⟩ := C
  refine va_newa (atype := .int) (ty := .int) (a0 := (N, .inl fun _ => 0)) (n := nI N) (N' := N) h1 h2 (h5 _ (mT1 50 rfl rfl)) rfl h6 hP hD hS h7 (fun _ => rfl) (nI_pos (by omega)) (nI_clamp (by omega)) (by show N * 4 ≤ 536870912; omega) hc hs hd (fun q cA' H1 hK' hP' hD' hS' => ?_)
  have e1 : va_RA s cA' .int := (hK'.2 1 (cA', .int) rfl).2
  have e0 : va_RA s cA .int := (h6.2 0 (cA, .int) rfl).2
  have e : cA' = cA := Option.some.inj (Eq.trans (Eq.symm e1) e0)
  subst e
  exact kk q H1 locs lz hP' hD' hS' hl
theorem bw_iast {q0 a n i : Nat} {f : Nat → Int32} {x y : Int32} (C : BC own cc maxL p s m args meth c G cA A) (hd : decode cc pc = .ok (.iastore, 1)) (ha : ws[q0]? = some (a, .inl (cA, n, .inl f))) (hy : nI i = y) (hi : i < n) (hn : n < 100000) (kk : BW p l e R s m args below meth c G A Z maxL (pc + 1) ls st (ws.set q0 (a, .inl (cA, n, .inl (upd f i x)))) nc ns) : BW p l e R s m args below meth c G A Z maxL pc ls (.int x :: .int y :: .ref a :: st) ws nc ns := by
  intro H locs lz hP hD hS hl
  subst hy
  obtain ⟨h1, h2, h3, h4, h5, h6, h7, h8, h9⟩ := C
  refine va_iast h1 h2 h6 hP hD hS q0 0 ha rfl (nI_in hi (by omega)) hd (fun H1 locs1 hP' hD' hS' => ?_)
  rw [nI_clamp (by omega)] at hP' hD'
  exact kk H1 locs1 lz hP' hD' hS' hl
theorem bw_put {index ci j q0 a : Nat} {fs : List Value} {v : Value} {ty : FieldType} (C : BC own cc maxL p s m args meth c G cA A) (hd : decode cc pc = .ok (.putfield index, 3)) (hf : FA own index ci j ty false) (he : ws[q0]? = some (a, .inr (ci, fs))) (hn : narrow ty v = v) (hfit : fits ty v = true) (hl0 : j < fs.length) (kk : BW p l e R s m args below meth c G A Z maxL (pc + 3) ls st (ws.set q0 (a, .inr (ci, fs.set j v))) nc ns) : BW p l e R s m args below meth c G A Z maxL pc ls (v :: .ref a :: st) ws nc ns := by
  intro H locs lz hP hD hS hl
  obtain ⟨h1, h2, h3, h4, h5, h6, h7, h8, h9⟩ := C
  obtain ⟨CC, T, N, tys, f1, f2, f3, f4, f5, f6, f7, f8⟩ := hf
  rcases f4 with f4 | ⟨host, f4⟩
  · exact va_put (D := G) (C := CC) (T := T) (N := N) h1 h2 h5 f2 tys f5 f6 h4 h6 hP hD hS q0 he f1 j f3 (h5 _ f4) (fun _ h9 => h9) f8 (by rw [f5 j f3, f7]) hn hfit hl0 hd (fun H1 locs1 hP' hD' hS' => kk H1 locs1 lz hP' hD' hS' hl)
  · exact va_putN (D := G) (C := CC) (T := T) (N := N) h1 h2 h5 f2 tys f5 f6 h4 h6 hP hD hS q0 he f1 j f3 (va_Nw.use (NB_on f4) (h9 _ f4)) (fun _ h9 => h9) f8 (by rw [f5 j f3, f7]) hn hfit hl0 hd (fun H1 locs1 hP' hD' hS' => kk H1 locs1 lz hP' hD' hS' hl)
theorem bw_putF {index ci j q0 a : Nat} {fs : List Value} {v : Value} {ty : FieldType} (C : BC own cc maxL p s m args meth c G cA A) (hd : decode cc pc = .ok (.putfield index, 3)) (hf : FA own index ci j ty true) (hdecl : ∀ r, vwCl[ci]? = some r → (r.2.1 j).1 = own) (hlk : ∀ (r : vw_C), vwCl[ci]? = some r → Cond.fieldLink own index (r.2.1 j).1 (r.2.1 j).2.1 (r.2.1 j).2.2.1 ∈ TB) (he : ws[q0]? = some (a, .inr (ci, fs))) (hn : narrow ty v = v) (hfit : fits ty v = true) (hl0 : j < fs.length) (kk : BW p l e R s m args below meth c G A Z maxL (pc + 3) ls st (ws.set q0 (a, .inr (ci, fs.set j v))) nc ns) : BW p l e R s m args below meth c G A Z maxL pc ls (v :: .ref a :: st) ws nc ns := by
  intro H locs lz hP hD hS hl
  obtain ⟨h1, h2, h3, h4, h5, h6, h7, h8, h9⟩ := C
  obtain ⟨CC, T, N, tys, f1, f2, f3, f4, f5, f6, f7, f8⟩ := hf
  rcases h8 with h8 | h8
  · have h := no_FL _ (List.mem_filter.mp (hlk _ f1)).1
    rw [h8] at h
    simp [isFL] at h
  exact va_putF (D := G) (C := CC) (T := T) (N := N) h1 h2 h5 f2 tys f5 f6 h4 h6 hP hD hS q0 he f1 j f3 (h5 _ (hlk _ f1)) (fun _ h9 => h9) f8 h8 (hdecl _ f1) (by rw [f5 j f3, f7]) hn hfit hl0 hd (fun H1 locs1 hP' hD' hS' => kk H1 locs1 lz hP' hD' hS' hl)
theorem bw_obj {idx a : Nat} (C : BC own cc maxL p s m args meth c G cA A) (hd : decode cc pc = .ok (.invokespecial idx, 3)) (hm : Cond.methodLink own idx Lib.objectInit ∈ TB) (hst : wsum st ≤ 8) (hR : 1 ≤ R.frames ∧ 20 ≤ R.locals) (kk : BW p l e R s m args below meth c G A Z maxL (pc + 3) ls st ws nc ns) : BW p l e R s m args below meth c G A Z maxL pc ls (.ref a :: st) ws nc ns := by
  intro H locs lz hP hD hS hl
  obtain ⟨h1, h2, h3, h4, h5, h6, h7, h8, h9⟩ := C
  refine W.objInit h1 h2 h4 (h5 _ hm) (h5 _ (mT1 24 rfl rfl)) (h5 _ (mT1 25 rfl rfl)) rfl (by rw [h3]; exact hl.1) rfl hd hR.1 ?_ ?_
  · have hz : 2 * (F0 m pc lz (.ref a :: st)).monitorRoom + (st.map fun v => v.category).sum ≤ 8 := lv_room hst
    omega
  · exact W.eq (g2 := F0 m (pc + 3) lz st) rfl (kk H locs lz hP hD hS hl)
theorem bw_istore_n {j : Fin 4} {i : Nat} {x : Int32} {ls2 : PL} (C : BC own cc maxL p s m args meth c G cA A) (hd : decode cc pc = .ok (.istore_n j, 1)) (hi : (j : Nat) = i) (hn : i < maxL) (hs : s1 ls i (.int x) = ls2) (kk : BW p l e R s m args below meth c G A Z maxL (pc + 1) ls2 st ws nc ns) : BW p l e R s m args below meth c G A Z maxL pc ls (.int x :: st) ws nc ns := by
  intro H locs lz hP hD hS hl
  refine lv_istore_n (lv' := _) C.1 C.2.1 hd hi hl hn (show s1 ls i (.int x) = _ from rfl) (fun lz2 h2 => ?_)
  rw [hs] at h2
  exact kk H locs lz2 hP hD hS h2
theorem bw_iinc {i : Nat} {n : Int} {x v : Int32} {ls2 : PL} (C : BC own cc maxL p s m args meth c G cA A) (hd : decode cc pc = .ok (.iinc i n, 3)) (hx : lk ls i = some (.int x)) (hv : x + Int32.ofInt n = v) (hn : i < maxL) (hs : s1 ls i (.int v) = ls2) (kk : BW p l e R s m args below meth c G A Z maxL (pc + 3) ls2 st ws nc ns) : BW p l e R s m args below meth c G A Z maxL pc ls st ws nc ns := by
  intro H locs lz hP hD hS hl
  obtain ⟨j, hj⟩ := List.getElem?_of_mem (lk_mem hx)
  refine lv_iinc (lv' := _) (k := j) C.1 C.2.1 hd hl hj hv hn (show s1 ls i (.int v) = _ from rfl) (fun lz2 h2 => ?_)
  rw [hs] at h2
  exact kk H locs lz2 hP hD hS h2
theorem bw_icmp_ge {x y : Int32} {off : Int} {tgt : Nat} (C : BC own cc maxL p s m args meth c G cA A) (hd : decode cc pc = .ok (.if_icmp .ge off, 3)) (ht : (pc : Int) + off = (tgt : Int)) (kt : y ≤ x → BW p l e R s m args below meth c G A Z maxL tgt ls st ws nc ns) (kf : ¬ y ≤ x → BW p l e R s m args below meth c G A Z maxL (pc + 3) ls st ws nc ns) : BW p l e R s m args below meth c G A Z maxL pc ls (.int y :: .int x :: st) ws nc ns := by
  intro H locs lz hP hD hS hl
  exact lv_icmp_ge C.1 C.2.1 hd ht (fun h => kt h H locs lz hP hD hS hl) (fun h => kf h H locs lz hP hD hS hl)
theorem bw_goto {off : Int} {tgt : Nat} (C : BC own cc maxL p s m args meth c G cA A) (hd : decode cc pc = .ok (.goto off, 3)) (ht : (pc : Int) + off = (tgt : Int)) (kk : BW p l e R s m args below meth c G A Z maxL tgt ls st ws nc ns) : BW p l e R s m args below meth c G A Z maxL pc ls st ws nc ns := by
  intro H locs lz hP hD hS hl
  exact lv_goto C.1 C.2.1 hd ht (kk H locs lz hP hD hS hl)
theorem bw_get {index ci j q0 a : Nat} {fs : List Value} {v : Value} {ty : FieldType} {fin : Bool} (C : BC own cc maxL p s m args meth c G cA A) (hd : decode cc pc = .ok (.getfield index, 3)) (hf : FA own index ci j ty fin) (he : ws[q0]? = some (a, .inr (ci, fs))) (hv : fs[j]? = some v) (kk : BW p l e R s m args below meth c G A Z maxL (pc + 3) ls (v :: st) ws nc ns) : BW p l e R s m args below meth c G A Z maxL pc ls (.ref a :: st) ws nc ns := by
  intro H locs lz hP hD hS hl
  obtain ⟨h1, h2, h3, h4, h5, h6, h7, h8, h9⟩ := C
  obtain ⟨CC, T, N, tys, f1, f2, f3, f4, f5, f6, f7, f8⟩ := hf
  rcases f4 with f4 | ⟨host, f4⟩
  · exact va_get (D := G) (C := CC) (T := T) (N := N) h1 h2 h5 f2 h4 h6 hP q0 he f1 j f3 (h5 _ f4) (fun _ h9 => h9) hv hd (kk H locs lz hP hD hS hl)
  · exact va_getN (D := G) (C := CC) (T := T) (N := N) h1 h2 h5 f2 h4 h6 hP q0 he f1 j f3 (va_Nw.use (NB_on f4) (h9 _ f4)) (fun _ h9 => h9) hv hd (kk H locs lz hP hD hS hl)
theorem bw_new {index ci N : Nat} {CC : String} {T : u_T} {fs : List Value} (C : BC own cc maxL p s m args meth c G cA A) (ty : Nat → FieldType) (hd : decode cc pc = .ok (.new index, 3)) (hcl : vwCl[ci]? = some (CC, T, N)) (hu : ∀ w ∈ u_ws CC T N, w ∈ TB) (hty : ∀ k, k < N → parseFieldDescriptor (T k).2.2.1 = some (ty k)) (hlk : Cond.classLink own index CC ∈ TB) (hin : Cond.instantiable CC N ∈ TB) (hini : Cond.initialized CC ∈ TB) (hfs : ∀ j, j < N → defaultValue (ty j) = vp_V fs j) (hc : nc + 1 ≤ R.cells) (hs : ns + N ≤ R.slots) (kk : ∀ q, BW p l e R s m args below meth c G A Z maxL (pc + 3) ls (.ref q :: st) (ws ++ [(q, .inr (ci, fs))]) (nc + 1) (ns + N)) : BW p l e R s m args below meth c G A Z maxL pc ls st ws nc ns := by
  intro H locs lz hP hD hS hl
  obtain ⟨h1, h2, h3, h4, h5, h6, h7, h8, h9⟩ := C
  exact va_new (ci := ci) (fs := fs) (C := CC) (T := T) (N := N) h1 h2 h5 hu ty hty h4 (h5 _ hlk) (h5 _ hin) (h5 _ hini) h6 hP hD hS h7 hcl hfs hc hs hd (fun q H1 hP' hD' hS' => kk q H1 locs lz hP' hD' hS' hl)
end BUILD
