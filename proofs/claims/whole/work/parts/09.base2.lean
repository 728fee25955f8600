section NAT
variable {l : Launch} {Ω : SH} {own : String} {cc : ByteArray} {maxL : Nat} {ret : Option FieldType} {k : Nat} {Q : Option Value → PM → Prop} {pc : Nat} {ls : PL} {st : List Value} {μ : PM}
theorem pw_imax {index : Nat} {x y : Int32} (hd : decode cc pc = .ok (.invokestatic index, 3)) (hm : Cond.methodLink own index yJ9_max_7cf53 ∈ TB) (hk : 1 ≤ k) (hr : wsum st ≤ 8) (kk : PW l Ω own cc maxL ret k Q (pc + 3) ls (.int (if x < y then y else x) :: st) μ) : PW l Ω own cc maxL ret k Q pc ls (.int y :: .int x :: st) μ := by
  intro X p e s m args below meth c A C H locs lz hP hD hS hl
  have hts := C.2.2.2.2.2.1
  refine va_mmax (x := x) (y := y) C.1 C.2.1 (by rw [C.2.2.2.1, hl.1]) C.2.2.2.2.1 (hts _ hm) (hts _ sta_J9_max_7cf53) (hts _ ini_J9) (hts _ cd_J9_max_7cf53) hk ?_ (Nat.zero_le _) (Nat.zero_le _) hd (kk X p e s m args below meth c A C H locs lz hP hD hS hl)
  rw [wsum_tv]
  show wsum st + 13 ≤ 64 * k
  omega
theorem pw_imin {index : Nat} {x y : Int32} (hd : decode cc pc = .ok (.invokestatic index, 3)) (hm : Cond.methodLink own index yJ9_min_7cf53 ∈ TB) (hk : 1 ≤ k) (hr : wsum st ≤ 8) (kk : PW l Ω own cc maxL ret k Q (pc + 3) ls (.int (if y < x then y else x) :: st) μ) : PW l Ω own cc maxL ret k Q pc ls (.int y :: .int x :: st) μ := by
  intro X p e s m args below meth c A C H locs lz hP hD hS hl
  have hts := C.2.2.2.2.2.1
  refine va_mmin (x := x) (y := y) C.1 C.2.1 (by rw [C.2.2.2.1, hl.1]) C.2.2.2.2.1 (hts _ hm) (hts _ sta_J9_min_7cf53) (hts _ ini_J9) (hts _ cd_J9_min_7cf53) hk ?_ (Nat.zero_le _) (Nat.zero_le _) hd (kk X p e s m args below meth c A C H locs lz hP hD hS hl)
  rw [wsum_tv]
  show wsum st + 13 ≤ 64 * k
  omega
theorem pw_labs {index : Nat} {x : Int64} (hd : decode cc pc = .ok (.invokestatic index, 3)) (hm : Cond.methodLink own index yJ9_abs_067f4 ∈ TB) (hk : 1 ≤ k) (hr : wsum st ≤ 8) (kk : PW l Ω own cc maxL ret k Q (pc + 3) ls (.long (if 0 < x then x else -x) :: st) μ) : PW l Ω own cc maxL ret k Q pc ls (.long x :: st) μ := by
  intro X p e s m args below meth c A C H locs lz hP hD hS hl
  have hts := C.2.2.2.2.2.1
  refine va_mabs_long (x := x) C.1 C.2.1 (by rw [C.2.2.2.1, hl.1]) C.2.2.2.2.1 (hts _ hm) (hts _ sta_J9_abs_067f4) (hts _ ini_J9) (hts _ cd_J9_abs_067f4) hk ?_ (Nat.zero_le _) (Nat.zero_le _) hd (kk X p e s m args below meth c A C H locs lz hP hD hS hl)
  rw [wsum_tv]
  show wsum st + 13 ≤ 64 * k
  omega
theorem pw_copy {index c0 c1 n0 n1 : Nat} {sp dp n : Int32} {a b z : Nat} (hd : decode cc pc = .ok (.invokestatic index, 3)) (hm : Cond.methodLink own index arraycopyName ∈ TB) (hk : 1 ≤ k) (hr : wsum st ≤ 8) (h0 : ak Ω c0 = some n0) (h1 : ak Ω c1 = some n1) (ha : sp = nI a) (hb : dp = nI b) (hz : n = nI z) (ha2 : a + z ≤ n0) (hb2 : b + z ≤ n1)
    (kk : PW l Ω own cc maxL ret k Q (pc + 3) ls st (sr μ c1 (va_cpy (μ.1 c0) (μ.1 c1) a b z))) : PW l Ω own cc maxL ret k Q pc ls (.int n :: .int dp :: .ref c1 :: .int sp :: .ref c0 :: st) μ := by
  intro X p e s m args below meth c A C H locs lz hP hD hS hl
  have hts := C.2.2.2.2.2.1
  obtain ⟨g1, g2, g3⟩ := ak_spec h0
  obtain ⟨f1, f2, f3⟩ := ak_spec h1
  subst ha; subst hb; subst hz
  have ca : (nI a).toNatClampNeg = a := nI_clamp (by omega)
  have cb : (nI b).toNatClampNeg = b := nI_clamp (by omega)
  have cz : (nI z).toNatClampNeg = z := nI_clamp (by omega)
  have he0 : (wsO Ω X.2.1 X.2.2.1 μ)[c0]? = some (X.2.2.1 c0, .inl (X.2.1, n0, .inl (μ.1 c0))) := by rw [wsO_at g1, cEnt_a g2]
  have he1 : (wsO Ω X.2.1 X.2.2.1 μ)[c1]? = some (X.2.2.1 c1, .inl (X.2.1, n1, .inl (μ.1 c1))) := by rw [wsO_at f1, cEnt_a f2]
  have hw : (wsO Ω X.2.1 X.2.2.1 μ).set c1 (X.2.2.1 c1, .inl (X.2.1, n1, .inl (va_cpy (μ.1 c0) (μ.1 c1) (nI a).toNatClampNeg (nI b).toNatClampNeg (nI z).toNatClampNeg))) = wsO Ω X.2.1 X.2.2.1 (sr μ c1 (va_cpy (μ.1 c0) (μ.1 c1) a b z)) := by
    rw [ca, cb, cz]
    have e : (Sum.inl (X.2.1, n1, .inl (va_cpy (μ.1 c0) (μ.1 c1) a b z)) : va_E) = cEnt Ω X.2.1 X.2.2.1 (sr μ c1 (va_cpy (μ.1 c0) (μ.1 c1) a b z)) c1 := by rw [cEnt_a f2, sr_same]
    rw [e]
    exact wsO_set (fun c' h => cEnt_ext (sr_other μ c1 _ h) rfl)
  refine va_copyi (D := X.1) (a0 := X.2.2.1 c0) (a := X.2.2.1 c1) C.1 C.2.1 (by rw [C.2.2.2.1, hl.1]) C.2.2.2.2.1 (hts _ hm) (hts _ nat_ac) (hts _ sta_ac) (hts _ ini_ac) C.2.2.2.2.2.2.2.1 hP hD hS c0 c1 0 0 he0 he1 rfl rfl rfl (nI_pos (by omega)) (nI_pos (by omega)) (nI_pos (by omega)) (by rw [ca, cz]; exact ha2) (by rw [cb, cz]; exact hb2) (fun _ _ => rfl) hk ?_ hd (fun H1 locs1 hP1 hD1 hS1 => ?_)
  · rw [wsum_tv]
    have e : nativeFrameWords "java/lang/System" "arraycopy" 5 + 11 ≤ 56 := by decide +kernel
    show wsum st + _ ≤ 64 * k
    omega
  · exact kk X p e s m args below meth c A C H1 locs1 lz (hw ▸ hP1) (hw ▸ hD1) hS1 hl
end NAT
