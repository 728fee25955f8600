section ROWS
variable {l : Launch} {Ω : SH} {own : String} {cc : ByteArray} {maxL : Nat} {ret : Option FieldType} {k : Nat} {Q : Option Value → PM → Prop} {pc : Nat} {ls : PL} {st : List Value} {μ : PM}
def lk : PL → Nat → Option Value
  | [], _ => none
  | q :: r, i => if q.1 = i then some q.2 else lk r i
def s1 (r : PL) (i : Nat) (v : Value) : PL := (i, v) :: r.filter (fun q => !(q.1 == i) && !(q.1 + 1 == i && q.2.category == 2))
def s2 (r : PL) (i : Nat) (v : Value) : PL := (i, v) :: r.filter (fun q => !(q.1 == i) && (!(q.1 == i + 1) && !(q.1 + 1 == i && q.2.category == 2)))
theorem lk_mem : ∀ {r : PL} {i : Nat} {v : Value}, lk r i = some v → (i, v) ∈ r
  | [], _, _, h => by cases h
  | q :: r, i, v, h => by
    unfold lk at h
    by_cases e : q.1 = i
    · rw [if_pos e] at h
      cases h
      rw [← e]
      exact List.mem_cons_self
    · rw [if_neg e] at h
      exact List.mem_cons_of_mem _ (lk_mem h)
theorem lk_at {lz : Array Slot} {n : Nat} {ad : Nat → Nat} {r : PL} {i : Nat} {v : Value} (hl : lv_has lz n (tvl ad r)) (h : lk r i = some v) : lz[i]? = some (.val (tv ad v)) :=
  hl.2.2 (i, tv ad v) (List.mem_map.mpr ⟨(i, v), lk_mem h, rfl⟩)
theorem s1_tv (ad : Nat → Nat) (r : PL) (i : Nat) (v : Value) : (i, tv ad v) :: (tvl ad r).filter (fun q => !(q.1 == i) && !(q.1 + 1 == i && q.2.category == 2)) = tvl ad (s1 r i v) := by
  unfold s1 tvl
  rw [List.filter_map, List.map_cons]
  congr 2
  apply List.filter_congr
  intro q _
  simp only [Function.comp, tv_cat]
theorem s2_tv (ad : Nat → Nat) (r : PL) (i : Nat) (v : Value) : (i, tv ad v) :: (tvl ad r).filter (fun q => !(q.1 == i) && (!(q.1 == i + 1) && !(q.1 + 1 == i && q.2.category == 2))) = tvl ad (s2 r i v) := by
  unfold s2 tvl
  rw [List.filter_map, List.map_cons]
  congr 2
  apply List.filter_congr
  intro q _
  simp only [Function.comp, tv_cat]
/-- fewer locals, in any order -/
theorem pw_sub (ks : List Nat) {ls' : PL} (h : lv_pick ls ks = ls') (kk : PW l Ω own cc maxL ret k Q pc ls' st μ) : PW l Ω own cc maxL ret k Q pc ls st μ := by
  intro X p e s m args below meth c A C H locs lz hP hD hS hl
  refine kk X p e s m args below meth c A C H locs lz hP hD hS (lv_sub hl ks ?_)
  rw [← h]
  unfold lv_pick tvl
  rw [List.map_filterMap]
  congr 1
  funext i
  rw [List.getElem?_map]
theorem pw_mono {Q' : Option Value → PM → Prop} (h : ∀ r μ, Q' r μ → Q r μ) (kk : PW l Ω own cc maxL ret k Q' pc ls st μ) : PW l Ω own cc maxL ret k Q pc ls st μ := by
  intro X p e s m args below meth c A C H locs lz hP hD hS hl T hT Y
  obtain ⟨t, a, b⟩ := kk X p e s m args below meth c A C H locs lz hP hD hS hl T hT Y
  exact ⟨t, a, MQ.mono h b⟩
theorem pw_eq {pc' : Nat} {ls' : PL} {st' : List Value} {μ' : PM} (h1 : pc' = pc) (h2 : ls' = ls) (h3 : st' = st) (h4 : μ' = μ) (kk : PW l Ω own cc maxL ret k Q pc' ls' st' μ') : PW l Ω own cc maxL ret k Q pc ls st μ := by
  subst h1; subst h2; subst h3; subst h4; exact kk
theorem pw_top {x y : Int32} (h : x = y) (kk : PW l Ω own cc maxL ret k Q pc ls (.int y :: st) μ) : PW l Ω own cc maxL ret k Q pc ls (.int x :: st) μ := by
  subst h; exact kk
theorem pw_topl {x y : Int64} (h : x = y) (kk : PW l Ω own cc maxL ret k Q pc ls (.long y :: st) μ) : PW l Ω own cc maxL ret k Q pc ls (.long x :: st) μ := by
  subst h; exact kk
theorem pw_top2 {x y : Int32} {z : Value} (h : x = y) (kk : PW l Ω own cc maxL ret k Q pc ls (z :: .int y :: st) μ) : PW l Ω own cc maxL ret k Q pc ls (z :: .int x :: st) μ := by
  subst h; exact kk
theorem pw_mem {μ' : PM} (h : μ = μ') (kk : PW l Ω own cc maxL ret k Q pc ls st μ') : PW l Ω own cc maxL ret k Q pc ls st μ := by
  subst h; exact kk

theorem pw_iconst {n : Int} {v : Int32} (hd : decode cc pc = .ok (.iconst n, 1)) (hv : Int32.ofInt n = v) (kk : PW l Ω own cc maxL ret k Q (pc + 1) ls (.int v :: st) μ) : PW l Ω own cc maxL ret k Q pc ls st μ := by
  intro X p e s m args below meth c A C H locs lz hP hD hS hl
  exact lv_iconst C.1 C.2.1 hd hv (kk X p e s m args below meth c A C H locs lz hP hD hS hl)
theorem pw_bipush {n : Int} {v : Int32} (hd : decode cc pc = .ok (.bipush n, 2)) (hv : (Int8.ofInt n).toInt32 = v) (kk : PW l Ω own cc maxL ret k Q (pc + 2) ls (.int v :: st) μ) : PW l Ω own cc maxL ret k Q pc ls st μ := by
  intro X p e s m args below meth c A C H locs lz hP hD hS hl
  exact lv_bipush C.1 C.2.1 hd hv (kk X p e s m args below meth c A C H locs lz hP hD hS hl)
theorem pw_sipush {n : Int} {v : Int32} (hd : decode cc pc = .ok (.sipush n, 3)) (hv : (Int16.ofInt n).toInt32 = v) (kk : PW l Ω own cc maxL ret k Q (pc + 3) ls (.int v :: st) μ) : PW l Ω own cc maxL ret k Q pc ls st μ := by
  intro X p e s m args below meth c A C H locs lz hP hD hS hl
  exact lv_sipush C.1 C.2.1 hd hv (kk X p e s m args below meth c A C H locs lz hP hD hS hl)
theorem pw_lconst {n : Fin 2} {v : Int64} (hd : decode cc pc = .ok (.lconst n, 1)) (hv : Int64.ofNat (n : Nat) = v) (kk : PW l Ω own cc maxL ret k Q (pc + 1) ls (.long v :: st) μ) : PW l Ω own cc maxL ret k Q pc ls st μ := by
  intro X p e s m args below meth c A C H locs lz hP hD hS hl
  exact lv_lconst C.1 C.2.1 hd hv (kk X p e s m args below meth c A C H locs lz hP hD hS hl)
theorem pw_iload_n {j : Fin 4} {i : Nat} {x : Int32} (hd : decode cc pc = .ok (.iload_n j, 1)) (hi : (j : Nat) = i) (hx : lk ls i = some (.int x)) (kk : PW l Ω own cc maxL ret k Q (pc + 1) ls (.int x :: st) μ) : PW l Ω own cc maxL ret k Q pc ls st μ := by
  intro X p e s m args below meth c A C H locs lz hP hD hS hl
  exact lv_iload_n C.1 C.2.1 hd hi (lk_at hl hx) (kk X p e s m args below meth c A C H locs lz hP hD hS hl)
theorem pw_iload {i : Nat} {x : Int32} (hd : decode cc pc = .ok (.iload i, 2)) (hx : lk ls i = some (.int x)) (kk : PW l Ω own cc maxL ret k Q (pc + 2) ls (.int x :: st) μ) : PW l Ω own cc maxL ret k Q pc ls st μ := by
  intro X p e s m args below meth c A C H locs lz hP hD hS hl
  exact lv_iload C.1 C.2.1 hd (lk_at hl hx) (kk X p e s m args below meth c A C H locs lz hP hD hS hl)
theorem pw_lload_n {j : Fin 4} {i : Nat} {x : Int64} (hd : decode cc pc = .ok (.lload_n j, 1)) (hi : (j : Nat) = i) (hx : lk ls i = some (.long x)) (kk : PW l Ω own cc maxL ret k Q (pc + 1) ls (.long x :: st) μ) : PW l Ω own cc maxL ret k Q pc ls st μ := by
  intro X p e s m args below meth c A C H locs lz hP hD hS hl
  exact lv_lload_n C.1 C.2.1 hd hi (lk_at hl hx) (kk X p e s m args below meth c A C H locs lz hP hD hS hl)
theorem pw_lload {i : Nat} {x : Int64} (hd : decode cc pc = .ok (.lload i, 2)) (hx : lk ls i = some (.long x)) (kk : PW l Ω own cc maxL ret k Q (pc + 2) ls (.long x :: st) μ) : PW l Ω own cc maxL ret k Q pc ls st μ := by
  intro X p e s m args below meth c A C H locs lz hP hD hS hl
  exact lv_lload C.1 C.2.1 hd (lk_at hl hx) (kk X p e s m args below meth c A C H locs lz hP hD hS hl)
theorem pw_aload_n {j : Fin 4} {i : Nat} {x : Nat} (hd : decode cc pc = .ok (.aload_n j, 1)) (hi : (j : Nat) = i) (hx : lk ls i = some (.ref x)) (kk : PW l Ω own cc maxL ret k Q (pc + 1) ls (.ref x :: st) μ) : PW l Ω own cc maxL ret k Q pc ls st μ := by
  intro X p e s m args below meth c A C H locs lz hP hD hS hl
  exact lv_aload_n C.1 C.2.1 hd hi (lk_at hl hx) (kk X p e s m args below meth c A C H locs lz hP hD hS hl)
theorem pw_aload {i : Nat} {x : Nat} (hd : decode cc pc = .ok (.aload i, 2)) (hx : lk ls i = some (.ref x)) (kk : PW l Ω own cc maxL ret k Q (pc + 2) ls (.ref x :: st) μ) : PW l Ω own cc maxL ret k Q pc ls st μ := by
  intro X p e s m args below meth c A C H locs lz hP hD hS hl
  exact lv_aload C.1 C.2.1 hd (lk_at hl hx) (kk X p e s m args below meth c A C H locs lz hP hD hS hl)
theorem pw_istore_n {j : Fin 4} {i : Nat} {x : Int32} {ls2 : PL} (hd : decode cc pc = .ok (.istore_n j, 1)) (hi : (j : Nat) = i) (hn : i < maxL) (hs : s1 ls i (.int x) = ls2) (kk : PW l Ω own cc maxL ret k Q (pc + 1) ls2 st μ) : PW l Ω own cc maxL ret k Q pc ls (.int x :: st) μ := by
  intro X p e s m args below meth c A C H locs lz hP hD hS hl
  refine lv_istore_n (lv' := _) C.1 C.2.1 hd hi hl hn (s1_tv X.2.2.1 ls i (.int x)) (fun lz2 h2 => ?_)
  rw [hs] at h2
  exact kk X p e s m args below meth c A C H locs lz2 hP hD hS h2
theorem pw_istore {i : Nat} {x : Int32} {ls2 : PL} (hd : decode cc pc = .ok (.istore i, 2)) (hn : i < maxL) (hs : s1 ls i (.int x) = ls2) (kk : PW l Ω own cc maxL ret k Q (pc + 2) ls2 st μ) : PW l Ω own cc maxL ret k Q pc ls (.int x :: st) μ := by
  intro X p e s m args below meth c A C H locs lz hP hD hS hl
  refine lv_istore (lv' := _) C.1 C.2.1 hd hl hn (s1_tv X.2.2.1 ls i (.int x)) (fun lz2 h2 => ?_)
  rw [hs] at h2
  exact kk X p e s m args below meth c A C H locs lz2 hP hD hS h2
theorem pw_lstore_n {j : Fin 4} {i : Nat} {x : Int64} {ls2 : PL} (hd : decode cc pc = .ok (.lstore_n j, 1)) (hi : (j : Nat) = i) (hn : i + 1 < maxL) (hs : s2 ls i (.long x) = ls2) (kk : PW l Ω own cc maxL ret k Q (pc + 1) ls2 st μ) : PW l Ω own cc maxL ret k Q pc ls (.long x :: st) μ := by
  intro X p e s m args below meth c A C H locs lz hP hD hS hl
  refine lv_lstore_n (lv' := _) C.1 C.2.1 hd hi hl hn (s2_tv X.2.2.1 ls i (.long x)) (fun lz2 h2 => ?_)
  rw [hs] at h2
  exact kk X p e s m args below meth c A C H locs lz2 hP hD hS h2
theorem pw_lstore {i : Nat} {x : Int64} {ls2 : PL} (hd : decode cc pc = .ok (.lstore i, 2)) (hn : i + 1 < maxL) (hs : s2 ls i (.long x) = ls2) (kk : PW l Ω own cc maxL ret k Q (pc + 2) ls2 st μ) : PW l Ω own cc maxL ret k Q pc ls (.long x :: st) μ := by
  intro X p e s m args below meth c A C H locs lz hP hD hS hl
  refine lv_lstore (lv' := _) C.1 C.2.1 hd hl hn (s2_tv X.2.2.1 ls i (.long x)) (fun lz2 h2 => ?_)
  rw [hs] at h2
  exact kk X p e s m args below meth c A C H locs lz2 hP hD hS h2
theorem pw_astore_n {j : Fin 4} {i : Nat} {x : Nat} {ls2 : PL} (hd : decode cc pc = .ok (.astore_n j, 1)) (hi : (j : Nat) = i) (hn : i < maxL) (hs : s1 ls i (.ref x) = ls2) (kk : PW l Ω own cc maxL ret k Q (pc + 1) ls2 st μ) : PW l Ω own cc maxL ret k Q pc ls (.ref x :: st) μ := by
  intro X p e s m args below meth c A C H locs lz hP hD hS hl
  refine lv_astore_n (lv' := _) C.1 C.2.1 hd hi hl hn (s1_tv X.2.2.1 ls i (.ref x)) (fun lz2 h2 => ?_)
  rw [hs] at h2
  exact kk X p e s m args below meth c A C H locs lz2 hP hD hS h2
theorem pw_astore {i : Nat} {x : Nat} {ls2 : PL} (hd : decode cc pc = .ok (.astore i, 2)) (hn : i < maxL) (hs : s1 ls i (.ref x) = ls2) (kk : PW l Ω own cc maxL ret k Q (pc + 2) ls2 st μ) : PW l Ω own cc maxL ret k Q pc ls (.ref x :: st) μ := by
  intro X p e s m args below meth c A C H locs lz hP hD hS hl
  refine lv_astore (lv' := _) C.1 C.2.1 hd hl hn (s1_tv X.2.2.1 ls i (.ref x)) (fun lz2 h2 => ?_)
  rw [hs] at h2
  exact kk X p e s m args below meth c A C H locs lz2 hP hD hS h2
theorem pw_iinc {i : Nat} {n : Int} {x v : Int32} {ls2 : PL} (hd : decode cc pc = .ok (.iinc i n, 3)) (hx : lk ls i = some (.int x)) (hv : x + Int32.ofInt n = v) (hn : i < maxL) (hs : s1 ls i (.int v) = ls2) (kk : PW l Ω own cc maxL ret k Q (pc + 3) ls2 st μ) : PW l Ω own cc maxL ret k Q pc ls st μ := by
  intro X p e s m args below meth c A C H locs lz hP hD hS hl
  obtain ⟨j, hj⟩ := List.getElem?_of_mem (lk_mem hx)
  refine lv_iinc (lv' := _) (k := j) C.1 C.2.1 hd hl (by unfold tvl; rw [List.getElem?_map, hj]; rfl) hv hn (s1_tv X.2.2.1 ls i (.int v)) (fun lz2 h2 => ?_)
  rw [hs] at h2
  exact kk X p e s m args below meth c A C H locs lz2 hP hD hS h2
theorem pw_iadd {x y : Int32} (hd : decode cc pc = .ok (.iadd, 1))  (kk : PW l Ω own cc maxL ret k Q (pc + 1) ls (.int (x + y) :: st) μ) : PW l Ω own cc maxL ret k Q pc ls (.int y :: .int x :: st) μ := by
  intro X p e s m args below meth c A C H locs lz hP hD hS hl
  exact lv_iadd C.1 C.2.1 hd (kk X p e s m args below meth c A C H locs lz hP hD hS hl)
theorem pw_isub {x y : Int32} (hd : decode cc pc = .ok (.isub, 1))  (kk : PW l Ω own cc maxL ret k Q (pc + 1) ls (.int (x - y) :: st) μ) : PW l Ω own cc maxL ret k Q pc ls (.int y :: .int x :: st) μ := by
  intro X p e s m args below meth c A C H locs lz hP hD hS hl
  exact lv_isub C.1 C.2.1 hd (kk X p e s m args below meth c A C H locs lz hP hD hS hl)
theorem pw_imul {x y : Int32} (hd : decode cc pc = .ok (.imul, 1))  (kk : PW l Ω own cc maxL ret k Q (pc + 1) ls (.int (x * y) :: st) μ) : PW l Ω own cc maxL ret k Q pc ls (.int y :: .int x :: st) μ := by
  intro X p e s m args below meth c A C H locs lz hP hD hS hl
  exact lv_imul C.1 C.2.1 hd (kk X p e s m args below meth c A C H locs lz hP hD hS hl)
theorem pw_iand {x y : Int32} (hd : decode cc pc = .ok (.iand, 1))  (kk : PW l Ω own cc maxL ret k Q (pc + 1) ls (.int (x &&& y) :: st) μ) : PW l Ω own cc maxL ret k Q pc ls (.int y :: .int x :: st) μ := by
  intro X p e s m args below meth c A C H locs lz hP hD hS hl
  exact lv_iand C.1 C.2.1 hd (kk X p e s m args below meth c A C H locs lz hP hD hS hl)
theorem pw_ior {x y : Int32} (hd : decode cc pc = .ok (.ior, 1))  (kk : PW l Ω own cc maxL ret k Q (pc + 1) ls (.int (x ||| y) :: st) μ) : PW l Ω own cc maxL ret k Q pc ls (.int y :: .int x :: st) μ := by
  intro X p e s m args below meth c A C H locs lz hP hD hS hl
  exact lv_ior C.1 C.2.1 hd (kk X p e s m args below meth c A C H locs lz hP hD hS hl)
theorem pw_ixor {x y : Int32} (hd : decode cc pc = .ok (.ixor, 1))  (kk : PW l Ω own cc maxL ret k Q (pc + 1) ls (.int (x ^^^ y) :: st) μ) : PW l Ω own cc maxL ret k Q pc ls (.int y :: .int x :: st) μ := by
  intro X p e s m args below meth c A C H locs lz hP hD hS hl
  exact lv_ixor C.1 C.2.1 hd (kk X p e s m args below meth c A C H locs lz hP hD hS hl)
theorem pw_ishl {x y : Int32} (hd : decode cc pc = .ok (.ishl, 1))  (kk : PW l Ω own cc maxL ret k Q (pc + 1) ls (.int (x <<< (y &&& 31)) :: st) μ) : PW l Ω own cc maxL ret k Q pc ls (.int y :: .int x :: st) μ := by
  intro X p e s m args below meth c A C H locs lz hP hD hS hl
  exact lv_ishl C.1 C.2.1 hd (kk X p e s m args below meth c A C H locs lz hP hD hS hl)
theorem pw_ishr {x y : Int32} (hd : decode cc pc = .ok (.ishr, 1))  (kk : PW l Ω own cc maxL ret k Q (pc + 1) ls (.int (x >>> (y &&& 31)) :: st) μ) : PW l Ω own cc maxL ret k Q pc ls (.int y :: .int x :: st) μ := by
  intro X p e s m args below meth c A C H locs lz hP hD hS hl
  exact lv_ishr C.1 C.2.1 hd (kk X p e s m args below meth c A C H locs lz hP hD hS hl)
theorem pw_ladd {x y : Int64} (hd : decode cc pc = .ok (.ladd, 1))  (kk : PW l Ω own cc maxL ret k Q (pc + 1) ls (.long (x + y) :: st) μ) : PW l Ω own cc maxL ret k Q pc ls (.long y :: .long x :: st) μ := by
  intro X p e s m args below meth c A C H locs lz hP hD hS hl
  exact lv_ladd C.1 C.2.1 hd (kk X p e s m args below meth c A C H locs lz hP hD hS hl)
theorem pw_lsub {x y : Int64} (hd : decode cc pc = .ok (.lsub, 1))  (kk : PW l Ω own cc maxL ret k Q (pc + 1) ls (.long (x - y) :: st) μ) : PW l Ω own cc maxL ret k Q pc ls (.long y :: .long x :: st) μ := by
  intro X p e s m args below meth c A C H locs lz hP hD hS hl
  exact lv_lsub C.1 C.2.1 hd (kk X p e s m args below meth c A C H locs lz hP hD hS hl)
theorem pw_lmul {x y : Int64} (hd : decode cc pc = .ok (.lmul, 1))  (kk : PW l Ω own cc maxL ret k Q (pc + 1) ls (.long (x * y) :: st) μ) : PW l Ω own cc maxL ret k Q pc ls (.long y :: .long x :: st) μ := by
  intro X p e s m args below meth c A C H locs lz hP hD hS hl
  exact lv_lmul C.1 C.2.1 hd (kk X p e s m args below meth c A C H locs lz hP hD hS hl)
theorem pw_ineg {x : Int32} (hd : decode cc pc = .ok (.ineg, 1))  (kk : PW l Ω own cc maxL ret k Q (pc + 1) ls (.int (-x) :: st) μ) : PW l Ω own cc maxL ret k Q pc ls (.int x :: st) μ := by
  intro X p e s m args below meth c A C H locs lz hP hD hS hl
  exact lv_ineg C.1 C.2.1 hd (kk X p e s m args below meth c A C H locs lz hP hD hS hl)
theorem pw_lneg {x : Int64} (hd : decode cc pc = .ok (.lneg, 1))  (kk : PW l Ω own cc maxL ret k Q (pc + 1) ls (.long (-x) :: st) μ) : PW l Ω own cc maxL ret k Q pc ls (.long x :: st) μ := by
  intro X p e s m args below meth c A C H locs lz hP hD hS hl
  exact lv_lneg C.1 C.2.1 hd (kk X p e s m args below meth c A C H locs lz hP hD hS hl)
theorem pw_idiv {x y : Int32} (hd : decode cc pc = .ok (.idiv, 1)) (hne : ¬ y = 0) (kk : PW l Ω own cc maxL ret k Q (pc + 1) ls (.int (x / y) :: st) μ) : PW l Ω own cc maxL ret k Q pc ls (.int y :: .int x :: st) μ := by
  intro X p e s m args below meth c A C H locs lz hP hD hS hl
  exact lv_idiv C.1 C.2.1 hd hne (kk X p e s m args below meth c A C H locs lz hP hD hS hl)
theorem pw_irem {x y : Int32} (hd : decode cc pc = .ok (.irem, 1)) (hne : ¬ y = 0) (kk : PW l Ω own cc maxL ret k Q (pc + 1) ls (.int (x - x / y * y) :: st) μ) : PW l Ω own cc maxL ret k Q pc ls (.int y :: .int x :: st) μ := by
  intro X p e s m args below meth c A C H locs lz hP hD hS hl
  exact lv_irem C.1 C.2.1 hd hne (kk X p e s m args below meth c A C H locs lz hP hD hS hl)
theorem pw_ldiv {x y : Int64} (hd : decode cc pc = .ok (.ldiv, 1)) (hne : ¬ y = 0) (kk : PW l Ω own cc maxL ret k Q (pc + 1) ls (.long (x / y) :: st) μ) : PW l Ω own cc maxL ret k Q pc ls (.long y :: .long x :: st) μ := by
  intro X p e s m args below meth c A C H locs lz hP hD hS hl
  exact lv_ldiv C.1 C.2.1 hd hne (kk X p e s m args below meth c A C H locs lz hP hD hS hl)
theorem pw_lrem {x y : Int64} (hd : decode cc pc = .ok (.lrem, 1)) (hne : ¬ y = 0) (kk : PW l Ω own cc maxL ret k Q (pc + 1) ls (.long (x - x / y * y) :: st) μ) : PW l Ω own cc maxL ret k Q pc ls (.long y :: .long x :: st) μ := by
  intro X p e s m args below meth c A C H locs lz hP hD hS hl
  exact lv_lrem C.1 C.2.1 hd hne (kk X p e s m args below meth c A C H locs lz hP hD hS hl)
theorem pw_iushr {x y : Int32} (hd : decode cc pc = .ok (.iushr, 1))  (kk : PW l Ω own cc maxL ret k Q (pc + 1) ls (.int ((x.toUInt32 >>> (y.toUInt32 &&& Int32.toUInt32 31)).toInt32) :: st) μ) : PW l Ω own cc maxL ret k Q pc ls (.int y :: .int x :: st) μ := by
  intro X p e s m args below meth c A C H locs lz hP hD hS hl
  exact lv_iushr C.1 C.2.1 hd rfl (kk X p e s m args below meth c A C H locs lz hP hD hS hl)
theorem pw_i2l {x : Int32} (hd : decode cc pc = .ok (.i2l, 1))  (kk : PW l Ω own cc maxL ret k Q (pc + 1) ls (.long x.toInt64 :: st) μ) : PW l Ω own cc maxL ret k Q pc ls (.int x :: st) μ := by
  intro X p e s m args below meth c A C H locs lz hP hD hS hl
  exact lv_i2l C.1 C.2.1 hd rfl (kk X p e s m args below meth c A C H locs lz hP hD hS hl)
theorem pw_l2i {x : Int64} (hd : decode cc pc = .ok (.l2i, 1))  (kk : PW l Ω own cc maxL ret k Q (pc + 1) ls (.int x.toInt32 :: st) μ) : PW l Ω own cc maxL ret k Q pc ls (.long x :: st) μ := by
  intro X p e s m args below meth c A C H locs lz hP hD hS hl
  exact lv_l2i C.1 C.2.1 hd rfl (kk X p e s m args below meth c A C H locs lz hP hD hS hl)
theorem pw_i2b {x : Int32} (hd : decode cc pc = .ok (.i2b, 1))  (kk : PW l Ω own cc maxL ret k Q (pc + 1) ls (.int x.toInt8.toInt32 :: st) μ) : PW l Ω own cc maxL ret k Q pc ls (.int x :: st) μ := by
  intro X p e s m args below meth c A C H locs lz hP hD hS hl
  exact lv_i2b C.1 C.2.1 hd rfl (kk X p e s m args below meth c A C H locs lz hP hD hS hl)
theorem pw_i2s {x : Int32} (hd : decode cc pc = .ok (.i2s, 1))  (kk : PW l Ω own cc maxL ret k Q (pc + 1) ls (.int x.toInt16.toInt32 :: st) μ) : PW l Ω own cc maxL ret k Q pc ls (.int x :: st) μ := by
  intro X p e s m args below meth c A C H locs lz hP hD hS hl
  exact lv_i2s C.1 C.2.1 hd rfl (kk X p e s m args below meth c A C H locs lz hP hD hS hl)
theorem pw_i2c {x : Int32} (hd : decode cc pc = .ok (.i2c, 1))  (kk : PW l Ω own cc maxL ret k Q (pc + 1) ls (.int (x.toUInt32 % 65536).toInt32 :: st) μ) : PW l Ω own cc maxL ret k Q pc ls (.int x :: st) μ := by
  intro X p e s m args below meth c A C H locs lz hP hD hS hl
  exact lv_i2c C.1 C.2.1 hd rfl (kk X p e s m args below meth c A C H locs lz hP hD hS hl)
theorem pw_lcmp {x y : Int64} (hd : decode cc pc = .ok (.lcmp, 1))  (kk : PW l Ω own cc maxL ret k Q (pc + 1) ls (.int (lg_cmp x y) :: st) μ) : PW l Ω own cc maxL ret k Q pc ls (.long y :: .long x :: st) μ := by
  intro X p e s m args below meth c A C H locs lz hP hD hS hl
  exact W.lcmp C.1 C.2.1 hd (kk X p e s m args below meth c A C H locs lz hP hD hS hl)
theorem pw_dup {v : Value} (hd : decode cc pc = .ok (.dup, 1)) (hv : v.category = 1) (kk : PW l Ω own cc maxL ret k Q (pc + 1) ls (v :: v :: st) μ) : PW l Ω own cc maxL ret k Q pc ls (v :: st) μ := by
  intro X p e s m args below meth c A C H locs lz hP hD hS hl
  exact lv_dup C.1 C.2.1 hd (by rw [tv_cat]; exact hv) (kk X p e s m args below meth c A C H locs lz hP hD hS hl)
theorem pw_pop {v : Value} (hd : decode cc pc = .ok (.pop, 1)) (hv : v.category = 1) (kk : PW l Ω own cc maxL ret k Q (pc + 1) ls st μ) : PW l Ω own cc maxL ret k Q pc ls (v :: st) μ := by
  intro X p e s m args below meth c A C H locs lz hP hD hS hl
  exact lv_pop C.1 C.2.1 hd (by rw [tv_cat]; exact hv) (kk X p e s m args below meth c A C H locs lz hP hD hS hl)
theorem pw_dup2 {v w : Value} (hd : decode cc pc = .ok (.dup2, 1)) (hv : v.category = 1) (hw : w.category = 1) (kk : PW l Ω own cc maxL ret k Q (pc + 1) ls (v :: w :: v :: w :: st) μ) : PW l Ω own cc maxL ret k Q pc ls (v :: w :: st) μ := by
  intro X p e s m args below meth c A C H locs lz hP hD hS hl
  exact lv_dup2_11 C.1 C.2.1 hd (by rw [tv_cat]; exact hv) (by rw [tv_cat]; exact hw) (kk X p e s m args below meth c A C H locs lz hP hD hS hl)
theorem pw_if_eq {x : Int32} {off : Int} {tgt : Nat} (hd : decode cc pc = .ok (.ifCond .eq off, 3)) (ht : (pc : Int) + off = (tgt : Int)) (kt : x = 0 → PW l Ω own cc maxL ret k Q tgt ls st μ) (kf : ¬ x = 0 → PW l Ω own cc maxL ret k Q (pc + 3) ls st μ) : PW l Ω own cc maxL ret k Q pc ls (.int x :: st) μ := by
  intro X p e s m args below meth c A C H locs lz hP hD hS hl
  exact lv_if_eq C.1 C.2.1 hd ht (fun h => kt h X p e s m args below meth c A C H locs lz hP hD hS hl) (fun h => kf h X p e s m args below meth c A C H locs lz hP hD hS hl)
theorem pw_icmp_eq {x y : Int32} {off : Int} {tgt : Nat} (hd : decode cc pc = .ok (.if_icmp .eq off, 3)) (ht : (pc : Int) + off = (tgt : Int)) (kt : x = y → PW l Ω own cc maxL ret k Q tgt ls st μ) (kf : ¬ x = y → PW l Ω own cc maxL ret k Q (pc + 3) ls st μ) : PW l Ω own cc maxL ret k Q pc ls (.int y :: .int x :: st) μ := by
  intro X p e s m args below meth c A C H locs lz hP hD hS hl
  exact lv_icmp_eq C.1 C.2.1 hd ht (fun h => kt h X p e s m args below meth c A C H locs lz hP hD hS hl) (fun h => kf h X p e s m args below meth c A C H locs lz hP hD hS hl)
theorem pw_if_ne {x : Int32} {off : Int} {tgt : Nat} (hd : decode cc pc = .ok (.ifCond .ne off, 3)) (ht : (pc : Int) + off = (tgt : Int)) (kt : ¬ x = 0 → PW l Ω own cc maxL ret k Q tgt ls st μ) (kf : x = 0 → PW l Ω own cc maxL ret k Q (pc + 3) ls st μ) : PW l Ω own cc maxL ret k Q pc ls (.int x :: st) μ := by
  intro X p e s m args below meth c A C H locs lz hP hD hS hl
  exact lv_if_ne C.1 C.2.1 hd ht (fun h => kt h X p e s m args below meth c A C H locs lz hP hD hS hl) (fun h => kf h X p e s m args below meth c A C H locs lz hP hD hS hl)
theorem pw_icmp_ne {x y : Int32} {off : Int} {tgt : Nat} (hd : decode cc pc = .ok (.if_icmp .ne off, 3)) (ht : (pc : Int) + off = (tgt : Int)) (kt : ¬ x = y → PW l Ω own cc maxL ret k Q tgt ls st μ) (kf : x = y → PW l Ω own cc maxL ret k Q (pc + 3) ls st μ) : PW l Ω own cc maxL ret k Q pc ls (.int y :: .int x :: st) μ := by
  intro X p e s m args below meth c A C H locs lz hP hD hS hl
  exact lv_icmp_ne C.1 C.2.1 hd ht (fun h => kt h X p e s m args below meth c A C H locs lz hP hD hS hl) (fun h => kf h X p e s m args below meth c A C H locs lz hP hD hS hl)
theorem pw_if_lt {x : Int32} {off : Int} {tgt : Nat} (hd : decode cc pc = .ok (.ifCond .lt off, 3)) (ht : (pc : Int) + off = (tgt : Int)) (kt : x < 0 → PW l Ω own cc maxL ret k Q tgt ls st μ) (kf : ¬ x < 0 → PW l Ω own cc maxL ret k Q (pc + 3) ls st μ) : PW l Ω own cc maxL ret k Q pc ls (.int x :: st) μ := by
  intro X p e s m args below meth c A C H locs lz hP hD hS hl
  exact lv_if_lt C.1 C.2.1 hd ht (fun h => kt h X p e s m args below meth c A C H locs lz hP hD hS hl) (fun h => kf h X p e s m args below meth c A C H locs lz hP hD hS hl)
theorem pw_icmp_lt {x y : Int32} {off : Int} {tgt : Nat} (hd : decode cc pc = .ok (.if_icmp .lt off, 3)) (ht : (pc : Int) + off = (tgt : Int)) (kt : x < y → PW l Ω own cc maxL ret k Q tgt ls st μ) (kf : ¬ x < y → PW l Ω own cc maxL ret k Q (pc + 3) ls st μ) : PW l Ω own cc maxL ret k Q pc ls (.int y :: .int x :: st) μ := by
  intro X p e s m args below meth c A C H locs lz hP hD hS hl
  exact lv_icmp_lt C.1 C.2.1 hd ht (fun h => kt h X p e s m args below meth c A C H locs lz hP hD hS hl) (fun h => kf h X p e s m args below meth c A C H locs lz hP hD hS hl)
theorem pw_if_ge {x : Int32} {off : Int} {tgt : Nat} (hd : decode cc pc = .ok (.ifCond .ge off, 3)) (ht : (pc : Int) + off = (tgt : Int)) (kt : 0 ≤ x → PW l Ω own cc maxL ret k Q tgt ls st μ) (kf : ¬ 0 ≤ x → PW l Ω own cc maxL ret k Q (pc + 3) ls st μ) : PW l Ω own cc maxL ret k Q pc ls (.int x :: st) μ := by
  intro X p e s m args below meth c A C H locs lz hP hD hS hl
  exact lv_if_ge C.1 C.2.1 hd ht (fun h => kt h X p e s m args below meth c A C H locs lz hP hD hS hl) (fun h => kf h X p e s m args below meth c A C H locs lz hP hD hS hl)
theorem pw_icmp_ge {x y : Int32} {off : Int} {tgt : Nat} (hd : decode cc pc = .ok (.if_icmp .ge off, 3)) (ht : (pc : Int) + off = (tgt : Int)) (kt : y ≤ x → PW l Ω own cc maxL ret k Q tgt ls st μ) (kf : ¬ y ≤ x → PW l Ω own cc maxL ret k Q (pc + 3) ls st μ) : PW l Ω own cc maxL ret k Q pc ls (.int y :: .int x :: st) μ := by
  intro X p e s m args below meth c A C H locs lz hP hD hS hl
  exact lv_icmp_ge C.1 C.2.1 hd ht (fun h => kt h X p e s m args below meth c A C H locs lz hP hD hS hl) (fun h => kf h X p e s m args below meth c A C H locs lz hP hD hS hl)
theorem pw_if_gt {x : Int32} {off : Int} {tgt : Nat} (hd : decode cc pc = .ok (.ifCond .gt off, 3)) (ht : (pc : Int) + off = (tgt : Int)) (kt : 0 < x → PW l Ω own cc maxL ret k Q tgt ls st μ) (kf : ¬ 0 < x → PW l Ω own cc maxL ret k Q (pc + 3) ls st μ) : PW l Ω own cc maxL ret k Q pc ls (.int x :: st) μ := by
  intro X p e s m args below meth c A C H locs lz hP hD hS hl
  exact lv_if_gt C.1 C.2.1 hd ht (fun h => kt h X p e s m args below meth c A C H locs lz hP hD hS hl) (fun h => kf h X p e s m args below meth c A C H locs lz hP hD hS hl)
theorem pw_icmp_gt {x y : Int32} {off : Int} {tgt : Nat} (hd : decode cc pc = .ok (.if_icmp .gt off, 3)) (ht : (pc : Int) + off = (tgt : Int)) (kt : y < x → PW l Ω own cc maxL ret k Q tgt ls st μ) (kf : ¬ y < x → PW l Ω own cc maxL ret k Q (pc + 3) ls st μ) : PW l Ω own cc maxL ret k Q pc ls (.int y :: .int x :: st) μ := by
  intro X p e s m args below meth c A C H locs lz hP hD hS hl
  exact lv_icmp_gt C.1 C.2.1 hd ht (fun h => kt h X p e s m args below meth c A C H locs lz hP hD hS hl) (fun h => kf h X p e s m args below meth c A C H locs lz hP hD hS hl)
theorem pw_if_le {x : Int32} {off : Int} {tgt : Nat} (hd : decode cc pc = .ok (.ifCond .le off, 3)) (ht : (pc : Int) + off = (tgt : Int)) (kt : x ≤ 0 → PW l Ω own cc maxL ret k Q tgt ls st μ) (kf : ¬ x ≤ 0 → PW l Ω own cc maxL ret k Q (pc + 3) ls st μ) : PW l Ω own cc maxL ret k Q pc ls (.int x :: st) μ := by
  intro X p e s m args below meth c A C H locs lz hP hD hS hl
  exact lv_if_le C.1 C.2.1 hd ht (fun h => kt h X p e s m args below meth c A C H locs lz hP hD hS hl) (fun h => kf h X p e s m args below meth c A C H locs lz hP hD hS hl)
theorem pw_icmp_le {x y : Int32} {off : Int} {tgt : Nat} (hd : decode cc pc = .ok (.if_icmp .le off, 3)) (ht : (pc : Int) + off = (tgt : Int)) (kt : x ≤ y → PW l Ω own cc maxL ret k Q tgt ls st μ) (kf : ¬ x ≤ y → PW l Ω own cc maxL ret k Q (pc + 3) ls st μ) : PW l Ω own cc maxL ret k Q pc ls (.int y :: .int x :: st) μ := by
  intro X p e s m args below meth c A C H locs lz hP hD hS hl
  exact lv_icmp_le C.1 C.2.1 hd ht (fun h => kt h X p e s m args below meth c A C H locs lz hP hD hS hl) (fun h => kf h X p e s m args below meth c A C H locs lz hP hD hS hl)
theorem pw_goto {off : Int} {tgt : Nat} (hd : decode cc pc = .ok (.goto off, 3)) (ht : (pc : Int) + off = (tgt : Int)) (kk : PW l Ω own cc maxL ret k Q tgt ls st μ) : PW l Ω own cc maxL ret k Q pc ls st μ := by
  intro X p e s m args below meth c A C H locs lz hP hD hS hl
  exact lv_goto C.1 C.2.1 hd ht (kk X p e s m args below meth c A C H locs lz hP hD hS hl)
theorem pw_tsOut {dflt lo hi : Int} {offs : Array Int} {len : Nat} {x : Int32} {tgt : Nat} (hd : decode cc pc = .ok (.tableswitch dflt lo hi offs, len)) (h : x.toInt < lo ∨ hi < x.toInt) (ht : (pc : Int) + dflt = (tgt : Int)) (kk : PW l Ω own cc maxL ret k Q tgt ls st μ) : PW l Ω own cc maxL ret k Q pc ls (.int x :: st) μ := by
  intro X p e s m args below meth c A C H locs lz hP hD hS hl
  exact lv_tableOut C.1 C.2.1 hd h ht (kk X p e s m args below meth c A C H locs lz hP hD hS hl)
theorem pw_tsIn {dflt lo hi : Int} {offs : Array Int} {len : Nat} {x v : Int32} {off : Int} {tgt : Nat} (hd : decode cc pc = .ok (.tableswitch dflt lo hi offs, len)) (hx : x = v) (h1 : ¬ v.toInt < lo) (h2 : ¬ hi < v.toInt) (ho : offs[(v.toInt - lo).toNat]? = some off) (ht : (pc : Int) + off = (tgt : Int)) (kk : PW l Ω own cc maxL ret k Q tgt ls st μ) : PW l Ω own cc maxL ret k Q pc ls (.int x :: st) μ := by
  subst hx
  intro X p e s m args below meth c A C H locs lz hP hD hS hl
  exact lv_tableIn C.1 C.2.1 hd h1 h2 ho ht (kk X p e s m args below meth c A C H locs lz hP hD hS hl)
theorem pw_iret {R : Int32 → PM → Prop} {x : Int32} (hd : decode cc pc = .ok (.ireturn, 1)) (hr : ret = some .int) (h : R x μ) : PW l Ω own cc maxL ret k (QI R) pc ls [.int x] μ := by
  intro X p e s m args below meth c A C H locs lz hP hD hS hl
  exact W.iret C.1 C.2.1 (C.2.2.1.trans hr) (fun t ht _ => ⟨⟨some (.int x), μ, rfl, ⟨x, rfl, h⟩, by rw [ht]; exact hP, hD⟩, hS.F ht⟩) hS.2.2 hd C.2.2.2.2.2.2.1
theorem pw_zret {R : Int32 → PM → Prop} {x : Int32} (hd : decode cc pc = .ok (.ireturn, 1)) (hr : ret = some .boolean) (h01 : x = 0 ∨ x = 1) (h : R x μ) : PW l Ω own cc maxL ret k (QI R) pc ls [.int x] μ := by
  intro X p e s m args below meth c A C H locs lz hP hD hS hl
  exact W.zret C.1 C.2.1 (C.2.2.1.trans hr) (by rcases h01 with e | e <;> rw [e] <;> rfl) (fun t ht _ => ⟨⟨some (.int x), μ, rfl, ⟨x, rfl, h⟩, by rw [ht]; exact hP, hD⟩, hS.F ht⟩) hS.2.2 hd C.2.2.2.2.2.2.1
theorem pw_cret {R : Int32 → PM → Prop} {x : Int32} (hd : decode cc pc = .ok (.ireturn, 1)) {ty : FieldType} (hr : ret = some ty) (hn : narrow ty (.int x) = .int x) (h : R x μ) : PW l Ω own cc maxL ret k (QI R) pc ls [.int x] μ := by
  intro X p e s m args below meth c A C H locs lz hP hD hS hl
  exact W.zret C.1 C.2.1 (C.2.2.1.trans hr) hn (fun t ht _ => ⟨⟨some (.int x), μ, rfl, ⟨x, rfl, h⟩, by rw [ht]; exact hP, hD⟩, hS.F ht⟩) hS.2.2 hd C.2.2.2.2.2.2.1
theorem pw_lret {R : Int64 → PM → Prop} {x : Int64} (hd : decode cc pc = .ok (.lreturn, 1)) (hr : ret = some .long) (h : R x μ) : PW l Ω own cc maxL ret k (QL R) pc ls [.long x] μ := by
  intro X p e s m args below meth c A C H locs lz hP hD hS hl
  exact W.lret C.1 C.2.1 (C.2.2.1.trans hr) (fun t ht _ => ⟨⟨some (.long x), μ, rfl, ⟨x, rfl, h⟩, by rw [ht]; exact hP, hD⟩, hS.F ht⟩) hS.2.2 hd C.2.2.2.2.2.2.1
theorem pw_vret {R : PM → Prop} (hd : decode cc pc = .ok (.return_, 1)) (hr : ret = none) (h : R μ) : PW l Ω own cc maxL ret k (QV R) pc ls [] μ := by
  intro X p e s m args below meth c A C H locs lz hP hD hS hl
  exact W.vret C.1 C.2.1 (C.2.2.1.trans hr) (fun t ht _ => ⟨⟨none, μ, rfl, ⟨rfl, h⟩, by rw [ht]; exact hP, hD⟩, hS.F ht⟩) hS.2.2 hd C.2.2.2.2.2.2.1
end ROWS
