/-! the model's loop: FIRST_TEXT onto its tape -/
def lawL : List Int32 := [121, 105, 101, 108, 100, 115, 32, 50, 48, 32, 43, 32, 104, 117, 109, 111, 117, 114, 32, 42, 32, 51, 32, 59, 32, 102, 97, 100, 101, 115, 32, 49, 48, 32, 59, 32, 109, 105, 110, 100, 115, 32, 53, 32, 59]
theorem lawL_e : (fun k => if k < 45 then aL lawL k else 0) = aL lawL := by
  funext k
  by_cases q : k < 45
  · rw [if_pos q]
  · rw [if_neg q]
    unfold aL
    rw [List.getD_eq_getElem?_getD, List.getElem?_eq_none (by show lawL.length ≤ k; have : lawL.length = 45 := rfl; omega)]
    rfl
theorem bw_iald {p : Program} {l : Launch} {e : Env} {R : Room} {s : State} {m : MethodId} {args : Array Value} {below : List Frame} {meth : Method} {c : Code} {G : va_G} {cA : ClassId} {A : Nat → Prop} {Z : State → Prop} {own : String} {cc : ByteArray} {maxL : Nat} {pc : Nat} {ls : PL} {st : List Value} {ws : va_W} {nc ns : Nat} {q0 a n i : Nat} {f : Nat → Int32} (C : BC own cc maxL p s m args meth c G cA A) (hd : decode cc pc = .ok (.iaload, 1)) (ha : ws[q0]? = some (a, .inl (cA, n, .inl f))) (hi : i < n) (hn : n < 100000) (kk : BW p l e R s m args below meth c G A Z maxL (pc + 1) ls (.int (f i) :: st) ws nc ns) : BW p l e R s m args below meth c G A Z maxL pc ls (.int (nI i) :: .ref a :: st) ws nc ns := by
  intro H locs lz hP hD hS hl
  obtain ⟨h1, h2, h3, h4, h5, h6, h7, h8, h9⟩ := C
  refine va_iald h1 h2 h6 hP q0 0 ha rfl (nI_in hi (by omega)) hd ?_
  rw [nI_clamp (by omega)]
  exact kk H locs lz hP hD hS hl
def W_X8T (h0 : Nat) (cA : ClassId) (q6 q13 q20 q28 q36 q135 q144 q152 q160 q167 q190 q199 q207 q479 q1058 q1067 q1075 q1084 q1091 : Nat) : va_W := [(h0, .inr (7, [.int 0, .ref q6, .ref q13, .ref q20, .int 0, .ref q28, .int 0, .ref q36, .ref q135, .int 45, .ref q144, .ref q152, .int 0, .int 0, .int 0, .int 0, .int 0, .int 0, .int 0, .ref q160, .ref q167, .ref q190, .ref q199, .ref q207, .int 0, .int 0, .int 0, .int 0, .ref q479, .ref q1058, .int 0, .int 0, .int 0, .ref q1067, .ref q1075, .ref q1084, .int 0, .ref q1091, .int 0, .long 0, .int 0])), (q6, .inl (cA, 5, .inl fun _ => 0)), (q13, .inl (cA, 5, .inl fun _ => 0)), (q20, .inl (cA, 5, .inl fun _ => 0)), (q28, .inl (cA, 30, .inl fun _ => 0)), (q36, .inl (cA, 16, .inl (aL [100, 100, 100, 100, 100, 100, 100, 100, 100, 100, 100, 100, 100, 100, 100, 100]))), (q135, .inl (cA, 160, .inl (aL lawL))), (q144, .inl (cA, 1200, .inl fun _ => 0)), (q152, .inl (cA, 24, .inl fun _ => 0)), (q160, .inl (cA, 51, .inl fun _ => 0)), (q167, .inl (cA, 4, .inl (aL [-1, -1, -1, -1]))), (q190, .inl (cA, 4, .inl fun _ => 0)), (q199, .inl (cA, 160, .inl fun _ => 0)), (q207, .inl (cA, 45, .inl (aL [121, 105, 101, 108, 100, 115, 32, 50, 48, 32, 43, 32, 104, 117, 109, 111, 117, 114, 32, 42, 32, 51, 32, 59, 32, 102, 97, 100, 101, 115, 32, 49, 48, 32, 59, 32, 109, 105, 110, 100, 115, 32, 53, 32, 59]))), (q479, .inl (cA, 96, .inl (aL [121, 105, 101, 108, 100, 115, 32, 32, 102, 97, 100, 101, 115, 32, 32, 32, 109, 105, 110, 100, 115, 32, 32, 32, 116, 111, 108, 100, 32, 32, 32, 32, 104, 117, 109, 111, 117, 114, 32, 32, 109, 111, 114, 101, 32, 32, 32, 32, 100, 97, 121, 32, 32, 32, 32, 32, 112, 117, 114, 115, 101, 32, 32, 32, 104, 101, 97, 114, 101, 114, 32, 32, 111, 114, 32, 32, 32, 32, 32, 32, 97, 110, 100, 32, 32, 32, 32, 32, 110, 111, 116, 32, 32, 32, 32, 32]))), (q1058, .inl (cA, 200, .inl fun _ => 0)), (q1067, .inl (cA, 200, .inl fun _ => 0)), (q1075, .inl (cA, 6, .inl fun _ => 0)), (q1084, .inl (cA, 500, .inl fun _ => 0)), (q1091, .inl (cA, 3, .inl (aL [-1, -1, -1])))]
set_option maxHeartbeats 8000000 in
set_option maxRecDepth 100000 in
theorem L_X8 {p : Program} {l : Launch} {e : Env} {R : Room} {s : State} {m : MethodId} {args : Array Value} {below : List Frame} {meth : Method} {c : Code} {G : va_G} {cA : ClassId} {A : Nat → Prop} {Z : State → Prop} {h0 : Nat} (C : BC RX8 cX8_init 2 p s m args meth c G cA A) (hRf : 3 ≤ R.frames) (hRl : 200 ≤ R.locals) (hRc : 19 ≤ R.cells) (hRs : 2714 ≤ R.slots) (kk : ∀ (q6 q13 q20 q28 q36 q135 q144 q152 q160 q167 q190 q199 q207 q479 q1058 q1067 q1075 q1084 q1091 : Nat), BW p l e R s m args below meth c G A Z 2 1140 [(1, .int (nI 45)), (0, .ref h0)] [] (W_X8T h0 cA q6 q13 q20 q28 q36 q135 q144 q152 q160 q167 q190 q199 q207 q479 q1058 q1067 q1075 q1084 q1091) 19 2714) : BW p l e R s m args below meth c G A Z 2 0 [(0, .ref h0)] [] [(h0, .inr (7, [.int 0, .null, .null, .null, .int 0, .null, .int 0, .null, .null, .int 0, .null, .null, .int 0, .int 0, .int 0, .int 0, .int 0, .int 0, .int 0, .null, .null, .null, .null, .null, .int 0, .int 0, .int 0, .int 0, .null, .null, .int 0, .int 0, .int 0, .null, .null, .null, .int 0, .null, .int 0, .long 0, .int 0]))] 0 0 := by
  refine P_X8 C hRf hRl hRc hRs (fun q6 q13 q20 q28 q36 q135 q144 q152 q160 q167 q190 q199 q207 q479 q1058 q1067 q1075 q1084 q1091 => ?_)
  have f0 : (fun _ => 0 : Nat → Int32) = fun k => if k < 0 then aL lawL k else 0 := by funext k; rw [if_neg (by omega)]
  have L : ∀ (fu i : Nat), i + fu = 45 → BW p l e R s m args below meth c G A Z 2 1110 [(1, .int (nI i)), (0, .ref h0)] [] [(h0, .inr (7, [.int 0, .ref q6, .ref q13, .ref q20, .int 0, .ref q28, .int 0, .ref q36, .ref q135, .int 0, .ref q144, .ref q152, .int 0, .int 0, .int 0, .int 0, .int 0, .int 0, .int 0, .ref q160, .ref q167, .ref q190, .ref q199, .ref q207, .int 0, .int 0, .int 0, .int 0, .ref q479, .ref q1058, .int 0, .int 0, .int 0, .ref q1067, .ref q1075, .ref q1084, .int 0, .ref q1091, .int 0, .long 0, .int 0])), (q6, .inl (cA, 5, .inl fun _ => 0)), (q13, .inl (cA, 5, .inl fun _ => 0)), (q20, .inl (cA, 5, .inl fun _ => 0)), (q28, .inl (cA, 30, .inl fun _ => 0)), (q36, .inl (cA, 16, .inl (aL [100, 100, 100, 100, 100, 100, 100, 100, 100, 100, 100, 100, 100, 100, 100, 100]))), (q135, .inl (cA, 160, .inl (fun k => if k < i then aL lawL k else 0))), (q144, .inl (cA, 1200, .inl fun _ => 0)), (q152, .inl (cA, 24, .inl fun _ => 0)), (q160, .inl (cA, 51, .inl fun _ => 0)), (q167, .inl (cA, 4, .inl (aL [-1, -1, -1, -1]))), (q190, .inl (cA, 4, .inl fun _ => 0)), (q199, .inl (cA, 160, .inl fun _ => 0)), (q207, .inl (cA, 45, .inl (aL [121, 105, 101, 108, 100, 115, 32, 50, 48, 32, 43, 32, 104, 117, 109, 111, 117, 114, 32, 42, 32, 51, 32, 59, 32, 102, 97, 100, 101, 115, 32, 49, 48, 32, 59, 32, 109, 105, 110, 100, 115, 32, 53, 32, 59]))), (q479, .inl (cA, 96, .inl (aL [121, 105, 101, 108, 100, 115, 32, 32, 102, 97, 100, 101, 115, 32, 32, 32, 109, 105, 110, 100, 115, 32, 32, 32, 116, 111, 108, 100, 32, 32, 32, 32, 104, 117, 109, 111, 117, 114, 32, 32, 109, 111, 114, 101, 32, 32, 32, 32, 100, 97, 121, 32, 32, 32, 32, 32, 112, 117, 114, 115, 101, 32, 32, 32, 104, 101, 97, 114, 101, 114, 32, 32, 111, 114, 32, 32, 32, 32, 32, 32, 97, 110, 100, 32, 32, 32, 32, 32, 110, 111, 116, 32, 32, 32, 32, 32]))), (q1058, .inl (cA, 200, .inl fun _ => 0)), (q1067, .inl (cA, 200, .inl fun _ => 0)), (q1075, .inl (cA, 6, .inl fun _ => 0)), (q1084, .inl (cA, 500, .inl fun _ => 0)), (q1091, .inl (cA, 3, .inl (aL [-1, -1, -1])))] 19 2714 := by
    intro fu
    induction fu with
    | zero =>
      intro i hi
      obtain rfl : i = 45 := by omega
      refine bw_iload_n (i := 1) C dX8_init_1110 rfl rfl ?_
      refine bw_bipush (v := 45) C dX8_init_1111 rfl ?_
      refine bw_icmp_ge C dX8_init_1113 (tgt := 1134) rfl (fun _ => ?_) (fun h => absurd (by decide) h)
      rw [lawL_e]
      refine bw_aload_n (i := 0) (x := h0) C dX8_init_1134 rfl rfl ?_
      refine bw_bipush (v := 45) C dX8_init_1135 rfl ?_
      refine bw_put (q0 := 0) C dX8_init_1137 fa_X8_67 rfl rfl rfl (Nat.le_of_ble_eq_true rfl) ?_
      exact kk q6 q13 q20 q28 q36 q135 q144 q152 q160 q167 q190 q199 q207 q479 q1058 q1067 q1075 q1084 q1091
    | succ fu ih =>
      intro i hi
      refine bw_iload_n (i := 1) C dX8_init_1110 rfl rfl ?_
      refine bw_bipush (v := 45) C dX8_init_1111 rfl ?_
      refine bw_icmp_ge C dX8_init_1113 (tgt := 1134) rfl (fun h => absurd h (nI_ge (b := 45) (by omega) (by decide))) (fun _ => ?_)
      refine bw_aload_n (i := 0) (x := h0) C dX8_init_1116 rfl rfl ?_
      refine bw_get (q0 := 0) (v := .ref q135) C dX8_init_1117 fa_X8_25 rfl rfl ?_
      refine bw_iload_n (i := 1) C dX8_init_1120 rfl rfl ?_
      refine bw_aload_n (i := 0) (x := h0) C dX8_init_1121 rfl rfl ?_
      refine bw_get (q0 := 0) (v := .ref q207) C dX8_init_1122 fa_X8_46 rfl rfl ?_
      refine bw_iload_n (i := 1) C dX8_init_1125 rfl rfl ?_
      refine bw_iald (q0 := 13) (n := 45) (f := aL lawL) C dX8_init_1126 rfl (by omega) (by decide) ?_
      refine bw_iast (q0 := 6) (i := i) C dX8_init_1127 rfl rfl (by omega) (by decide) ?_
      refine bw_iinc (i := 1) (v := nI (i + 1)) (ls2 := [(1, .int (nI (i + 1))), (0, .ref h0)]) C dX8_init_1128 rfl (inc1 i) (by decide) rfl ?_
      refine bw_goto C dX8_init_1131 (tgt := 1110) rfl ?_
      have fe : upd (fun k => if k < i then aL lawL k else 0) i (aL lawL i) = fun k => if k < i + 1 then aL lawL k else 0 := by
        funext k
        by_cases q : k = i
        · rw [q, upd_s, if_pos (by omega)]
        · rw [upd_o _ _ q]
          by_cases q2 : k < i
          · rw [if_pos q2, if_pos (by omega)]
          · rw [if_neg q2, if_neg (by omega)]
      show BW p l e R s m args below meth c G A Z 2 1110 [(1, .int (nI (i + 1))), (0, .ref h0)] [] [(h0, .inr (7, [.int 0, .ref q6, .ref q13, .ref q20, .int 0, .ref q28, .int 0, .ref q36, .ref q135, .int 0, .ref q144, .ref q152, .int 0, .int 0, .int 0, .int 0, .int 0, .int 0, .int 0, .ref q160, .ref q167, .ref q190, .ref q199, .ref q207, .int 0, .int 0, .int 0, .int 0, .ref q479, .ref q1058, .int 0, .int 0, .int 0, .ref q1067, .ref q1075, .ref q1084, .int 0, .ref q1091, .int 0, .long 0, .int 0])), (q6, .inl (cA, 5, .inl fun _ => 0)), (q13, .inl (cA, 5, .inl fun _ => 0)), (q20, .inl (cA, 5, .inl fun _ => 0)), (q28, .inl (cA, 30, .inl fun _ => 0)), (q36, .inl (cA, 16, .inl (aL [100, 100, 100, 100, 100, 100, 100, 100, 100, 100, 100, 100, 100, 100, 100, 100]))), (q135, .inl (cA, 160, .inl (upd (fun k => if k < i then aL lawL k else 0) i (aL lawL i)))), (q144, .inl (cA, 1200, .inl fun _ => 0)), (q152, .inl (cA, 24, .inl fun _ => 0)), (q160, .inl (cA, 51, .inl fun _ => 0)), (q167, .inl (cA, 4, .inl (aL [-1, -1, -1, -1]))), (q190, .inl (cA, 4, .inl fun _ => 0)), (q199, .inl (cA, 160, .inl fun _ => 0)), (q207, .inl (cA, 45, .inl (aL [121, 105, 101, 108, 100, 115, 32, 50, 48, 32, 43, 32, 104, 117, 109, 111, 117, 114, 32, 42, 32, 51, 32, 59, 32, 102, 97, 100, 101, 115, 32, 49, 48, 32, 59, 32, 109, 105, 110, 100, 115, 32, 53, 32, 59]))), (q479, .inl (cA, 96, .inl (aL [121, 105, 101, 108, 100, 115, 32, 32, 102, 97, 100, 101, 115, 32, 32, 32, 109, 105, 110, 100, 115, 32, 32, 32, 116, 111, 108, 100, 32, 32, 32, 32, 104, 117, 109, 111, 117, 114, 32, 32, 109, 111, 114, 101, 32, 32, 32, 32, 100, 97, 121, 32, 32, 32, 32, 32, 112, 117, 114, 115, 101, 32, 32, 32, 104, 101, 97, 114, 101, 114, 32, 32, 111, 114, 32, 32, 32, 32, 32, 32, 97, 110, 100, 32, 32, 32, 32, 32, 110, 111, 116, 32, 32, 32, 32, 32]))), (q1058, .inl (cA, 200, .inl fun _ => 0)), (q1067, .inl (cA, 200, .inl fun _ => 0)), (q1075, .inl (cA, 6, .inl fun _ => 0)), (q1084, .inl (cA, 500, .inl fun _ => 0)), (q1091, .inl (cA, 3, .inl (aL [-1, -1, -1])))] 19 2714
      rw [fe]
      exact ih (i + 1) (by omega)
  have L0 := L 45 0 rfl
  rw [← f0] at L0
  show BW p l e R s m args below meth c G A Z 2 1108 [(0, .ref h0)] [] [(h0, .inr (7, [.int 0, .ref q6, .ref q13, .ref q20, .int 0, .ref q28, .int 0, .ref q36, .ref q135, .int 0, .ref q144, .ref q152, .int 0, .int 0, .int 0, .int 0, .int 0, .int 0, .int 0, .ref q160, .ref q167, .ref q190, .ref q199, .ref q207, .int 0, .int 0, .int 0, .int 0, .ref q479, .ref q1058, .int 0, .int 0, .int 0, .ref q1067, .ref q1075, .ref q1084, .int 0, .ref q1091, .int 0, .long 0, .int 0])), (q6, .inl (cA, 5, .inl fun _ => 0)), (q13, .inl (cA, 5, .inl fun _ => 0)), (q20, .inl (cA, 5, .inl fun _ => 0)), (q28, .inl (cA, 30, .inl fun _ => 0)), (q36, .inl (cA, 16, .inl (aL [100, 100, 100, 100, 100, 100, 100, 100, 100, 100, 100, 100, 100, 100, 100, 100]))), (q135, .inl (cA, 160, .inl fun _ => 0)), (q144, .inl (cA, 1200, .inl fun _ => 0)), (q152, .inl (cA, 24, .inl fun _ => 0)), (q160, .inl (cA, 51, .inl fun _ => 0)), (q167, .inl (cA, 4, .inl (aL [-1, -1, -1, -1]))), (q190, .inl (cA, 4, .inl fun _ => 0)), (q199, .inl (cA, 160, .inl fun _ => 0)), (q207, .inl (cA, 45, .inl (aL [121, 105, 101, 108, 100, 115, 32, 50, 48, 32, 43, 32, 104, 117, 109, 111, 117, 114, 32, 42, 32, 51, 32, 59, 32, 102, 97, 100, 101, 115, 32, 49, 48, 32, 59, 32, 109, 105, 110, 100, 115, 32, 53, 32, 59]))), (q479, .inl (cA, 96, .inl (aL [121, 105, 101, 108, 100, 115, 32, 32, 102, 97, 100, 101, 115, 32, 32, 32, 109, 105, 110, 100, 115, 32, 32, 32, 116, 111, 108, 100, 32, 32, 32, 32, 104, 117, 109, 111, 117, 114, 32, 32, 109, 111, 114, 101, 32, 32, 32, 32, 100, 97, 121, 32, 32, 32, 32, 32, 112, 117, 114, 115, 101, 32, 32, 32, 104, 101, 97, 114, 101, 114, 32, 32, 111, 114, 32, 32, 32, 32, 32, 32, 97, 110, 100, 32, 32, 32, 32, 32, 110, 111, 116, 32, 32, 32, 32, 32]))), (q1058, .inl (cA, 200, .inl fun _ => 0)), (q1067, .inl (cA, 200, .inl fun _ => 0)), (q1075, .inl (cA, 6, .inl fun _ => 0)), (q1084, .inl (cA, 500, .inl fun _ => 0)), (q1091, .inl (cA, 3, .inl (aL [-1, -1, -1])))] 19 2714
  refine bw_iconst (v := 0) C dX8_init_1108 rfl ?_
  refine bw_istore_n (i := 1) (ls2 := [(1, .int 0), (0, .ref h0)]) C dX8_init_1109 rfl (by decide) rfl ?_
  exact L0
