/-! ROWS OF THE LAW'S RUN -/
section LAWROWS
variable {p : Program} {l : Launch} {e : Env} {R : Room} {s : State} {m : MethodId} {args : Array Value} {below : List Frame} {meth : Method} {c : Code} {G : va_G} {cA : ClassId} {A : Nat → Prop} {Z : State → Prop} {own : String} {cc : ByteArray} {maxL pc : Nat} {ls : PL} {st : List Value} {ws : va_W} {nc ns : Nat}
theorem bw_astore_n {j : Fin 4} {i x : Nat} {ls2 : PL} (C : BC own cc maxL p s m args meth c G cA A) (hd : decode cc pc = .ok (.astore_n j, 1)) (hi : (j : Nat) = i) (hn : i < maxL) (hs : s1 ls i (.ref x) = ls2) (kk : BW p l e R s m args below meth c G A Z maxL (pc + 1) ls2 st ws nc ns) : BW p l e R s m args below meth c G A Z maxL pc ls (.ref x :: st) ws nc ns := by
  intro H locs lz hP hD hS hl
  refine lv_astore_n (lv' := _) C.1 C.2.1 hd hi hl hn (show s1 ls i (.ref x) = _ from rfl) (fun lz2 h2 => ?_)
  rw [hs] at h2
  exact kk H locs lz2 hP hD hS h2
theorem bw_iadd {x y v : Int32} (C : BC own cc maxL p s m args meth c G cA A) (hd : decode cc pc = .ok (.iadd, 1)) (hv : x + y = v) (kk : BW p l e R s m args below meth c G A Z maxL (pc + 1) ls (.int v :: st) ws nc ns) : BW p l e R s m args below meth c G A Z maxL pc ls (.int y :: .int x :: st) ws nc ns := by
  intro H locs lz hP hD hS hl
  subst hv
  exact lv_iadd C.1 C.2.1 hd (kk H locs lz hP hD hS hl)
theorem bw_isub {x y v : Int32} (C : BC own cc maxL p s m args meth c G cA A) (hd : decode cc pc = .ok (.isub, 1)) (hv : x - y = v) (kk : BW p l e R s m args below meth c G A Z maxL (pc + 1) ls (.int v :: st) ws nc ns) : BW p l e R s m args below meth c G A Z maxL pc ls (.int y :: .int x :: st) ws nc ns := by
  intro H locs lz hP hD hS hl
  subst hv
  exact lv_isub C.1 C.2.1 hd (kk H locs lz hP hD hS hl)
theorem bw_iand {x y v : Int32} (C : BC own cc maxL p s m args meth c G cA A) (hd : decode cc pc = .ok (.iand, 1)) (hv : x &&& y = v) (kk : BW p l e R s m args below meth c G A Z maxL (pc + 1) ls (.int v :: st) ws nc ns) : BW p l e R s m args below meth c G A Z maxL pc ls (.int y :: .int x :: st) ws nc ns := by
  intro H locs lz hP hD hS hl
  subst hv
  exact lv_iand C.1 C.2.1 hd (kk H locs lz hP hD hS hl)
theorem bw_icmp_gt {x y : Int32} {off : Int} {tgt : Nat} (C : BC own cc maxL p s m args meth c G cA A) (hd : decode cc pc = .ok (.if_icmp .gt off, 3)) (ht : (pc : Int) + off = (tgt : Int)) (kt : y < x → BW p l e R s m args below meth c G A Z maxL tgt ls st ws nc ns) (kf : ¬ y < x → BW p l e R s m args below meth c G A Z maxL (pc + 3) ls st ws nc ns) : BW p l e R s m args below meth c G A Z maxL pc ls (.int y :: .int x :: st) ws nc ns := by
  intro H locs lz hP hD hS hl
  exact lv_icmp_gt C.1 C.2.1 hd ht (fun h => kt h H locs lz hP hD hS hl) (fun h => kf h H locs lz hP hD hS hl)
theorem bw_same {x : Int32} {off : Int} {tgt : Nat} (C : BC own cc maxL p s m args meth c G cA A) (hd : decode cc pc = .ok (.if_icmp .eq off, 3)) (ht : (pc : Int) + off = (tgt : Int)) (kt : BW p l e R s m args below meth c G A Z maxL tgt ls st ws nc ns) : BW p l e R s m args below meth c G A Z maxL pc ls (.int x :: .int x :: st) ws nc ns := by
  intro H locs lz hP hD hS hl
  exact lv_icmp_eq C.1 C.2.1 hd ht (fun _ => kt H locs lz hP hD hS hl) (fun h => absurd rfl h)
theorem lg_cmp_self (x : Int64) : lg_cmp x x = 0 := by
  unfold lg_cmp
  rw [if_neg (fun h => Int.lt_irrefl _ (Int64.lt_iff_toInt_lt.mp h)), if_pos rfl]
theorem bw_sameL {x : Int64} {off : Int} {tgt : Nat} (C : BC own cc maxL p s m args meth c G cA A) (hd : decode cc pc = .ok (.lcmp, 1)) (hd2 : decode cc (pc + 1) = .ok (.ifCond .eq off, 3)) (ht : ((pc + 1 : Nat) : Int) + off = (tgt : Int)) (kt : BW p l e R s m args below meth c G A Z maxL tgt ls st ws nc ns) : BW p l e R s m args below meth c G A Z maxL pc ls (.long x :: .long x :: st) ws nc ns := by
  intro H locs lz hP hD hS hl
  refine W.lcmp C.1 C.2.1 hd ?_
  rw [lg_cmp_self]
  exact lv_if_eq C.1 C.2.1 hd2 ht (fun _ => kt H locs lz hP hD hS hl) (fun h => absurd rfl h)
theorem bw_tableIn {dflt lo hi : Int} {offs : Array Int} {len : Nat} {x : Int32} {off : Int} {tgt : Nat} (C : BC own cc maxL p s m args meth c G cA A) (hd : decode cc pc = .ok (.tableswitch dflt lo hi offs, len)) (h1 : ¬ x.toInt < lo) (h2 : ¬ hi < x.toInt) (ho : offs[(x.toInt - lo).toNat]? = some off) (ht : (pc : Int) + off = (tgt : Int)) (kk : BW p l e R s m args below meth c G A Z maxL tgt ls st ws nc ns) : BW p l e R s m args below meth c G A Z maxL pc ls (.int x :: st) ws nc ns := by
  intro H locs lz hP hD hS hl
  exact lv_tableIn C.1 C.2.1 hd h1 h2 ho ht (kk H locs lz hP hD hS hl)
theorem bw_tableOut {dflt lo hi : Int} {offs : Array Int} {len : Nat} {x : Int32} {tgt : Nat} (C : BC own cc maxL p s m args meth c G cA A) (hd : decode cc pc = .ok (.tableswitch dflt lo hi offs, len)) (h : x.toInt < lo ∨ hi < x.toInt) (ht : (pc : Int) + dflt = (tgt : Int)) (kk : BW p l e R s m args below meth c G A Z maxL tgt ls st ws nc ns) : BW p l e R s m args below meth c G A Z maxL pc ls (.int x :: st) ws nc ns := by
  intro H locs lz hP hD hS hl
  exact lv_tableOut C.1 C.2.1 hd h ht (kk H locs lz hP hD hS hl)
theorem bw_slen {b L : Nat} {xs : Nat → Int32} (C : BC own cc maxL p s m args meth c G cA A) (hX : va_X b L xs s s.heap) (hbl : b < s.heap.size) (hbA : ¬ A b) (hd : decode cc pc = .ok (.arraylength, 1)) (kk : BW p l e R s m args below meth c G A Z maxL (pc + 1) ls (.int (nI L) :: st) ws nc ns) : BW p l e R s m args below meth c G A Z maxL pc ls (.ref b :: st) ws nc ns := by
  intro H locs lz hP hD hS hl
  exact va_slen C.1 C.2.1 hX hbl hbA hS hd (kk H locs lz hP hD hS hl)
theorem bw_sld {b L k : Nat} {xs : Nat → Int32} (C : BC own cc maxL p s m args meth c G cA A) (hX : va_X b L xs s s.heap) (hbl : b < s.heap.size) (hbA : ¬ A b) (hL : L ≤ 3584) (hk : k < L) (hd : decode cc pc = .ok (.iaload, 1)) (kk : BW p l e R s m args below meth c G A Z maxL (pc + 1) ls (.int (xs k) :: st) ws nc ns) : BW p l e R s m args below meth c G A Z maxL pc ls (.int (nI k) :: .ref b :: st) ws nc ns := by
  intro H locs lz hP hD hS hl
  refine va_sld C.1 C.2.1 hX hbl hbA hS (nI_in hk (by omega)) hd ?_
  rw [nI_clamp (by omega)]
  exact kk H locs lz hP hD hS hl
/-- an argument out of the script -/
theorem bw_arg {b L i k l1 : Nat} {xs : Nat → Int32} (hX : va_X b L xs s s.heap) (hbl : b < s.heap.size) (hbA : ¬ A b) (hL : L ≤ 3584) (hk : i + k < L) (C : BC own cc maxL p s m args meth c G cA A) (h1 : decode cc pc = .ok (.aload_n 0, 1)) (h2 : decode cc (pc + 1) = .ok (.iload_n 3, 1)) (h3 : PU cc (pc + 1 + 1) (nI k) l1) (h4 : decode cc (pc + 1 + 1 + l1) = .ok (.iadd, 1)) (h5 : decode cc (pc + 1 + 1 + l1 + 1) = .ok (.iaload, 1)) (q0 : lk ls 0 = some (.ref b)) (q3 : lk ls 3 = some (.int (nI i))) (kk : BW p l e R s m args below meth c G A Z maxL (pc + 1 + 1 + l1 + 1 + 1) ls (.int (xs (i + k)) :: st) ws nc ns) : BW p l e R s m args below meth c G A Z maxL pc ls st ws nc ns := by
  refine bw_aload_n (i := 0) C h1 rfl q0 ?_
  refine bw_iload_n (i := 3) C h2 rfl q3 ?_
  refine bw_push C h3 ?_
  refine bw_iadd (v := nI (i + k)) C h4 (nI_add i k) ?_
  exact bw_sld C hX hbl hbA hL hk h5 kk
end LAWROWS
theorem bl_newo {p : Program} {l : Launch} {e : Env} {R : Room} {s : State} {m : MethodId} {args : Array Value} {below : List Frame} {meth : Method} {c : Code} {X : CX} {A : Nat → Prop} {Z : State → Prop} {own : String} {cc : ByteArray} {maxL pc : Nat} {ls : PL} {wr : va_W} {nc ns : Nat} {index k' mL mc' ms' b : Nat} {e0 : va_E} {Ω : SH} {Q : PM → Prop} {y : MethodName} {bytes : ByteArray} {rest : List Value} (C : BC own cc maxL p s m args meth c X.1 X.2.1 A) (hE : EX X A s s.heap)
    (hd : decode cc pc = .ok (.invokespecial index, 3)) (hlk : Cond.methodLink own index y ∈ TB) (hcode : Cond.code y bytes mL none ∈ TB) (hini : Cond.initialized y.cls ∈ TB) (hins : Cond.instanceMethod y ∈ TB) (hname : y.name = "<init>") (hnm : y.cls ≠ "java/lang/invoke/MethodHandle" ∧ y.cls ≠ "java/lang/invoke/VarHandle") (hpar : (parseMethodDescriptor y.desc).map (fun d => d.parameters.length) = some 0) (hM : BX l y bytes mL k' mc' ms' b e0 Ω Q) (hmL : mL ≤ 40)
    (hr : wsum rest ≤ 8) (hR : k' + 1 ≤ R.frames ∧ 64 * k' + 60 ≤ R.locals) (hc : nc + mc' ≤ R.cells) (hs : ns + ms' ≤ R.slots)
    (kk : ∀ u μ, Q μ → BW p l e R s m args below meth c X.1 A Z maxL (pc + 3) ls rest (wr ++ wsO Ω X.2.1 (adX Ω.1 (b :: u) X.2.2.1) μ) (nc + mc') (ns + ms')) : BW p l e R s m args below meth c X.1 A Z maxL pc ls (.ref b :: rest) (wr ++ [(b, e0)]) nc ns := by
  intro H locs lz hP hD hS hl
  obtain ⟨h1, h2, h3, h4, h5, h6, h7, h8, h9⟩ := C
  have hCC := pl_r wr [(b, e0)]
  have hRr := pl_c wr [(b, e0)]
  have hPc := hP.sub (ws' := [(b, e0)]) _ (pl_f _ _ _ hCC)
  have hDc := hD.sub (ws' := [(b, e0)]) _ (pl_nd _ _) hCC
  have hF := va_free (wc := [(b, e0)]) hD hS h7 _ hCC
  have hRm : (rmb k' mc' ms').frames + 1 ≤ R.frames ∧ 8 + (mL + 11) + (rmb k' mc' ms').locals ≤ R.locals := ⟨hR.1, by show 8 + (mL + 11) + 64 * k' ≤ R.locals; omega⟩
  have hpre : PreS s H (va_Pc [.ref b] (fun U => U.heap.size = H.size ∧ va_P X.1 vwCl [(b, e0)] U.heap ∧ va_K X.1 vwCl [(X.2.1, .int)] U ∧ va_D (fun _ => True) [(b, e0)] ∧ EX X (va_A [(b, e0)] H.size) U U.heap)) [.ref b] := ⟨fun a U g mk q => by
    obtain ⟨q0, q1, qP, qK, qD, qE⟩ := q
    exact ⟨q0, q1, qP, va_K.moved (u := U) (U := U.calling g mk a) (Vm.Alike.refl U.vm) qK, qD, (show EX X (va_A [(b, e0)] H.size) (U.calling g mk a) U.heap from EX.same (s := U) rfl qE)⟩, fun U hU hW => ⟨rfl, by rw [hU], by rw [hU]; exact hPc, va_K.moved hW.alike h6, hDc.weaken (fun _ _ _ _ => trivial), by rw [hU]; exact ((hE.kept hS.2.1).narrow hF).warm hW⟩⟩
  refine va_callv (va_runI (As := []) (rest := rest) ⟨h1, h2, h3, h4, h5⟩ (hM X H.size) (cwI 0 h5 (TB_in hcode) rfl rfl rfl (h5 _ hini) (h5 _ hlk) (h5 _ hins) hname ⟨hnm.1, hnm.2, hpar⟩ hRm) hpre rfl rfl hl.1 rfl (lv_room hr) hd ⟨hc, hs⟩) hS (fun q _ h => hF q h) hF (fun u t H1 locs1 ht hvm hq hB hz hk1 hS1 => ?_)
  obtain ⟨hP1, hD1⟩ := hB
  rw [ht] at hP1
  obtain ⟨hPj, hDj⟩ := va_join (wc := [(b, e0)]) (wr := wr) (w1 := wsO Ω X.2.1 (adX Ω.1 (b :: u.1) X.2.2.1) u.2) hP hD _ _ hCC hRr (pl_n0 _) (fun i hi hj => pl_dis _ _ i hj hi) hk1 hF hP1 hD1
  exact kk u.1 u.2 hq H1 locs1 lz hPj hDj hS1 hl
/-- the law's end -/
theorem bw_end {p : Program} {l : Launch} {e : Env} {s : State} {m : MethodId} {below : List Frame} {meth : Method} {c : Code} {b : Nat} {G : va_G} {cA : ClassId} {ls : PL} {ws : va_W} {nc ns pc : Nat} (C : BC RL code 4 p s m #[Value.ref b] meth c G cA (fun q => s.heap.size ≤ q)) (hr : meth.sig.returnType = ret) (hlocks : meth.locks = false) (hc : nc ≤ 600000) (hs : ns ≤ 7302250) (hdg : decode code pc = .ok (.ireturn, 1)) : BW p l e room_1 s m #[Value.ref b] below meth c G (fun q => s.heap.size ≤ q) (lw_Z below #[Value.ref b] s) 4 pc ls [.int 1] ws nc ns := by
  intro H locs lz hP hD hS hl
  exact W.widen hc hs (va_forget (fun q hq => hS.2.2 q hq) (lw_ret C.1 C.2.1 hr hlocks hdg))
