section STRS
variable {l : Launch} {Ω : SH} {own : String} {cc : ByteArray} {maxL : Nat} {ret : Option FieldType} {k : Nat} {Q : Option Value → PM → Prop} {pc : Nat} {ls : PL} {st : List Value} {μ : PM}
theorem pw_gsC {index : Nat} (hd : decode cc pc = .ok (.getstatic index, 3)) (hw : Cond.fieldLink own index "java/lang/String" "COMPACT_STRINGS" "Z" ∈ TB) (kk : PW l Ω own cc maxL ret k Q (pc + 3) ls (.int 1 :: st) μ) : PW l Ω own cc maxL ret k Q pc ls st μ := by
  intro X p e s m args below meth c A C H locs lz hP hD hS hl
  exact va_gets C.1 C.2.1 C.2.2.2.2.2.2.2.2.1.2.2.1 hS C.2.2.2.2.1 (C.2.2.2.2.2.1 _ hw) (fun _ h9 => h9) hd (kk X p e s m args below meth c A C H locs lz hP hD hS hl)
theorem pw_gsS {index : Nat} (hd : decode cc pc = .ok (.getstatic index, 3)) (hw : Cond.fieldLink own index "jdk/internal/util/Preconditions" "SIOOBE_FORMATTER" "Ljava/util/function/BiFunction;" ∈ TB) (k1 : PW l Ω own cc maxL ret k Q (pc + 3) ls (.null :: st) μ) (k2 : PW l Ω own cc maxL ret k Q (pc + 3) ls (.ref 2000 :: st) μ) : PW l Ω own cc maxL ret k Q pc ls st μ := by
  intro X p e s m args below meth c A C H locs lz hP hD hS hl
  rcases C.2.2.2.2.2.2.2.2.1.2.2.2.1 with h | h
  · exact va_gets C.1 C.2.1 h hS C.2.2.2.2.1 (C.2.2.2.2.2.1 _ hw) (fun _ h9 => h9) hd (k1 X p e s m args below meth c A C H locs lz hP hD hS hl)
  · exact va_gets C.1 C.2.1 h hS C.2.2.2.2.1 (C.2.2.2.2.2.1 _ hw) (fun _ h9 => h9) hd (k2 X p e s m args below meth c A C H locs lz hP hD hS hl)
theorem pw_sval {index i : Nat} (hi : i < 3) (hd : decode cc pc = .ok (.getfield index, 3)) (hw : Cond.fieldLink own index "java/lang/String" "value" "[B" ∈ TB) (kk : PW l Ω own cc maxL ret k Q (pc + 3) ls (.ref (1100 + i) :: st) μ) : PW l Ω own cc maxL ret k Q pc ls (.ref (1000 + i) :: st) μ := by
  intro X p e s m args below meth c A C H locs lz hP hD hS hl
  exact vk_getf C.1 C.2.1 (C.2.2.2.2.2.2.2.2.1.1.1 i hi).2.2.1 hS C.2.2.2.2.1 (C.2.2.2.2.2.1 _ hw) (fun _ h9 => h9) hd (kk X p e s m args below meth c A C H locs lz hP hD hS hl)
theorem pw_scod {index i : Nat} (hi : i < 3) (hd : decode cc pc = .ok (.getfield index, 3)) (hw : Cond.fieldLink own index "java/lang/String" "coder" "B" ∈ TB) (kk : PW l Ω own cc maxL ret k Q (pc + 3) ls (.int 0 :: st) μ) : PW l Ω own cc maxL ret k Q pc ls (.ref (1000 + i) :: st) μ := by
  intro X p e s m args below meth c A C H locs lz hP hD hS hl
  exact vk_getf C.1 C.2.1 (C.2.2.2.2.2.2.2.2.1.1.1 i hi).2.1 hS C.2.2.2.2.1 (C.2.2.2.2.2.1 _ hw) (fun _ h9 => h9) hd (kk X p e s m args below meth c A C H locs lz hP hD hS hl)
theorem pw_salen {i : Nat} (hi : i < 3) (hd : decode cc pc = .ok (.arraylength, 1)) (kk : PW l Ω own cc maxL ret k Q (pc + 1) ls (.int (nI (slen.getD i 0)) :: st) μ) : PW l Ω own cc maxL ret k Q pc ls (.ref (1100 + i) :: st) μ := by
  intro X p e s m args below meth c A C H locs lz hP hD hS hl
  exact va_tlen C.1 C.2.1 (C.2.2.2.2.2.2.2.2.1.1.1 i hi).2.2.2 hS rfl hd (kk X p e s m args below meth c A C H locs lz hP hD hS hl)
theorem pw_sbal {i j : Nat} {x : Int32} (hi : i < 3) (hd : decode cc pc = .ok (.baload, 1)) (hx : x = nI j) (hj : j < slen.getD i 0) (hl2 : slen.getD i 0 ≤ 1000) (kk : PW l Ω own cc maxL ret k Q (pc + 1) ls (.int ((sbyt.getD i []).getD j 0) :: st) μ) : PW l Ω own cc maxL ret k Q pc ls (.int x :: .ref (1100 + i) :: st) μ := by
  intro X p e s m args below meth c A C H locs lz hP hD hS hl
  subst hx
  exact va_tb C.1 C.2.1 (C.2.2.2.2.2.2.2.2.1.1.1 i hi).2.2.2 hS (vp_in_nI hj (by omega)) (by rw [nI_clamp (by omega)] <;> rfl) hd (kk X p e s m args below meth c A C H locs lz hP hD hS hl)
theorem pw_aloadv_n {j : Fin 4} {i : Nat} (hd : decode cc pc = .ok (.aload_n j, 1)) (hi : (j : Nat) = i) (hx : lk ls i = some .null) (kk : PW l Ω own cc maxL ret k Q (pc + 1) ls (.null :: st) μ) : PW l Ω own cc maxL ret k Q pc ls st μ := by
  intro X p e s m args below meth c A C H locs lz hP hD hS hl
  exact lv_aload_nN C.1 C.2.1 hd hi (lk_at hl hx) (kk X p e s m args below meth c A C H locs lz hP hD hS hl)
end STRS
theorem ckS {Ω : SH} {i : Nat} (h : i < 3) : CK Ω (1000 + i) RJ0 := Or.inr ⟨i, h, rfl, rfl⟩
theorem slen_le : ∀ i, i < 3 → slen.getD i 0 ≤ 64 := by decide +kernel
theorem slen_shr : ∀ i, i < 3 → nI (slen.getD i 0) >>> ((0 : Int32) &&& 31) = nI (slen.getD i 0) := by decide +kernel
def sch (i k : Nat) : Int32 := (sbyt.getD i []).getD k 0
theorem sch_all : ∀ i, i < 3 → ∀ k, k < slen.getD i 0 → (((sch i k) &&& 255).toUInt32 % 65536).toInt32 = sch i k ∧ narrow .char (.int (sch i k)) = .int (sch i k) := by decide +kernel
def ixL (b : Int32) : List Int32 → Nat → Int32
  | [], _ => -1
  | a :: r, k => if a = b then nI k else ixL b r (k + 1)
def ixS (c : Int32) : Int32 := if inF c 0 255 then ixL c.toInt8.toInt32 (sbyt.getD 1 []) 0 else -1
