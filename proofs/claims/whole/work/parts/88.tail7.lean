/-! the end of LaughterIsMinted's constructor: its first TEXT -/
def tp (i : Nat) : PM := sr (si muC0 6 0 (nI i)) 7 (fun k => if k < i then sch 0 k else 0)
theorem tp_0 : tp 0 = muC0 := by
  refine PM_ext (fun c => ?_) rfl
  show (if c = 7 then (fun k => if k < 0 then sch 0 k else 0) else if c = 6 then upd (muC0.1 6) 0 (nI 0) else muC0.1 c) = muC0.1 c
  by_cases h7 : c = 7
  · rw [if_pos h7, h7]
    rfl
  · rw [if_neg h7]
    by_cases h6 : c = 6
    · rw [if_pos h6, h6]
      funext k
      by_cases hk : k = 0
      · rw [hk, upd_s]
        rfl
      · rw [upd_o _ _ hk]
    · rw [if_neg h6]
theorem tp_s {i : Nat} : si (si (tp i) 7 i (sch 0 i)) 6 0 (nI (i + 1)) = tp (i + 1) := by
  refine PM_ext (fun c => ?_) rfl
  by_cases h6 : c = 6
  · subst h6
    rw [si_same, si_other _ _ _ _ (by decide)]
    show upd (upd (muC0.1 6) 0 (nI i)) 0 (nI (i + 1)) = upd (muC0.1 6) 0 (nI (i + 1))
    funext k
    by_cases hk : k = 0
    · rw [hk, upd_s, upd_s]
    · rw [upd_o _ _ hk, upd_o _ _ hk, upd_o _ _ hk]
  · rw [si_other _ _ _ _ h6]
    by_cases h7 : c = 7
    · subst h7
      rw [si_same]
      show upd (fun k => if k < i then sch 0 k else 0) i (sch 0 i) = fun k => if k < i + 1 then sch 0 k else 0
      funext k
      by_cases q : k = i
      · rw [q, upd_s, if_pos (by omega)]
      · rw [upd_o _ _ q]
        by_cases q2 : k < i
        · rw [if_pos q2, if_pos (by omega)]
        · rw [if_neg q2, if_neg (by omega)]
    · rw [si_other _ _ _ _ h7]
      show (if c = 7 then _ else if c = 6 then _ else muC0.1 c) = (if c = 7 then _ else if c = 6 then _ else muC0.1 c)
      rw [if_neg h7, if_neg h6, if_neg h7, if_neg h6]
theorem tp_o {i c : Nat} (h7 : c ≠ 7) (h6 : c ≠ 6) : (tp i).1 c = muC0.1 c := by
  show (if c = 7 then _ else if c = 6 then _ else muC0.1 c) = _
  rw [if_neg h7, if_neg h6]
theorem tp_7 : (tp 45).1 7 = aL lawL := by
  funext k
  show (if k < 45 then sch 0 k else 0) = _
  by_cases h : k < 45
  · rw [if_pos h]
    exact sch_0 k h
  · rw [if_neg h]
    show (0 : Int32) = lawL.getD k 0
    rw [List.getD_eq_getElem?_getD, List.getElem?_eq_none (by show 45 ≤ k; omega)]
    rfl
theorem lawL_z : ∀ k, k < 45 → (aL lawL k).toNatClampNeg < 256 ∧ aL lawL k = nI (aL lawL k).toNatClampNeg := by decide +kernel
theorem pe_o {M : PM} {nt i cs : Int32} {ki pl nu en co : Nat → Int32} {c : Nat} (h6 : c ≠ 6) (h8 : c < 8 ∨ 12 < c) : (pM (eM (tM M nt ki pl nu) en) i cs co).1 c = M.1 c := by
  have h := ro_o (M := M) (nt := nt) (i := i) (cs := cs) (ki := ki) (pl := pl) (nu := nu) (en := en) (co := co) h6 h8
  rw [si_other _ _ _ _ h6] at h
  exact h
section TAIL7
variable {p : Program} {l : Launch} {e : Env} {R : Room} {s : State} {m : MethodId} {args : Array Value} {below : List Frame} {meth : Method} {c : Code} {A : Nat → Prop} {Z : State → Prop} {nc ns : Nat}
set_option maxHeartbeats 4000000 in
theorem T7_tail {X : CX} (C : BC RX7 cX7_init 2 p s m args meth c X.1 X.2.1 A) (hE : EX X A s s.heap) (hR : 52 ≤ R.frames ∧ 3400 ≤ R.locals) (hnR : nc ≤ R.cells ∧ ns ≤ R.slots) (kk : ∀ μ', TC (tp 45) (fun r => muC0.1 (22 + r)) 0 true (txA (aL mwds) (aL lawL) 45) μ' → BW p l e R s m args below meth c X.1 A Z 2 184 [(1, .int (nI 45)), (0, .ref (X.2.2.1 0))] [] (wsO SC X.2.1 X.2.2.1 μ') nc ns) : BW p l e R s m args below meth c X.1 A Z 2 117 [(0, .ref (X.2.2.1 0))] [] (wsO SC X.2.1 X.2.2.1 muC0) nc ns := by
  have T : ∀ fu i, fu + i = 45 → BW p l e R s m args below meth c X.1 A Z 2 119 [(1, .int (nI i)), (0, .ref (X.2.2.1 0))] [] (wsO SC X.2.1 X.2.2.1 (tp i)) nc ns := by
    intro fu
    induction fu with
    | zero =>
      intro i hi
      obtain rfl : i = 45 := by omega
      refine bw_iload_n (i := 1) C dX7_init_119 rfl rfl ?_
      refine bw_ldcS (i := 0) C hE dX7_init_120 (by decide) rfl rfl ?_
      refine bw_c1 (as := []) (rest := [.int (nI 45)]) C hE dX7_init_122 mv_X7_67 (T_J0_length_8abf5 (i := 0) (by decide)) (ckS (by decide)) rfl rfl (Nat.le_of_ble_eq_true rfl) ⟨by omega, by omega⟩ hnR (fun r μ' h => ?_)
      obtain ⟨x, rfl, rfl, rfl⟩ := h
      show BW p l e R s m args below meth c X.1 A Z 2 125 _ [.int 45, .int 45] _ nc ns
      refine bw_icmp_ge C dX7_init_125 (tgt := 147) rfl (fun _ => ?_) (fun h => absurd (by decide) h)
      refine bw_aload_n (i := 0) C dX7_init_147 rfl rfl ?_
      refine bw_getR (r := 6) C dX7_init_148 fa_X7_19 rfl ?_
      refine bw_c1 (as := []) (rest := []) C hE dX7_init_151 mv_X7_81 (T_X2_read (n := 45) rfl (by decide)) ckReader rfl rfl (Nat.le_of_ble_eq_true rfl) ⟨by omega, by omega⟩ hnR (fun r μ' h => ?_)
      obtain ⟨x, rfl, ki, pl, nu, co, en, g1, g2, g3, g4, g5, g6, g7⟩ := h
      rw [tp_7] at g1 g6
      obtain ⟨⟨x1, x2, x3⟩, hp⟩ := text_eq (wd := aL mwds) (f := aL lawL) (by decide) (fun _ _ => rfl) (fun i hi => ⟨_, (lawL_z i hi).1, (lawL_z i hi).2⟩) g1
      have hY : (rdF ki nu).1 = true := x1.symm.trans txG_0
      obtain ⟨y1, y2, y3, y4, y5⟩ := x3 hY
      show BW p l e R s m args below meth c X.1 A Z 2 154 _ [.int x] _ nc ns
      refine bw_pop C dX7_init_154 rfl ?_
      refine bw_aload_n (i := 0) C dX7_init_155 rfl rfl ?_
      refine bw_getR (r := 1) C dX7_init_156 fa_X7_10 rfl ?_
      refine bw_aload_n (i := 0) C dX7_init_159 rfl rfl ?_
      refine bw_getR (r := 6) C dX7_init_160 fa_X7_19 rfl ?_
      refine bw_getR (r := 11) C dX7_init_163 fa_X7_85 rfl ?_
      refine bw_aload_n (i := 0) C dX7_init_166 rfl rfl ?_
      refine bw_getR (r := 6) C dX7_init_167 fa_X7_19 rfl ?_
      refine bw_getR (r := 12) C dX7_init_170 fa_X7_89 rfl ?_
      have h1 : μ'.1 1 0 = nI 0 := by
        rw [g3, pe_o (by decide) (by decide), tp_o (by decide) (by decide)]
        rfl
      refine bw_c1 (as := [.ref 11, .ref 12]) (rest := []) C hE dX7_init_173 mv_X7_92 (T_X1_keep (size := 0) h1 (by decide)) ckBook rfl rfl (Nat.le_of_ble_eq_true rfl) ⟨by omega, by omega⟩ hnR (fun r μ2 h => ?_)
      obtain ⟨x', rfl, -, rfl⟩ := h
      show BW p l e R s m args below meth c X.1 A Z 2 176 _ [.int x'] _ nc ns
      refine bw_pop C dX7_init_176 rfl ?_
      refine bw_aload_n (i := 0) C dX7_init_177 rfl rfl ?_
      refine bw_getR (r := 6) C dX7_init_178 fa_X7_19 rfl ?_
      refine bw_c1 (as := []) (rest := []) C hE dX7_init_181 mv_X7_96 T_X2_empty ckReader rfl rfl (Nat.le_of_ble_eq_true rfl) ⟨by omega, by omega⟩ hnR (fun r μ3 h => ?_)
      obtain ⟨rfl, rfl⟩ := h
      refine kk _ ?_
      refine ⟨fun r hr => ?_, fun c hc => ?_, ?_, fun z => absurd z (by decide), fun _ => ⟨(rdF ki nu).2.1.2, (rdF ki nu).2.2, co, en, y4, y3, y5, g4, g5, y1, y2, ?_, ?_, ?_⟩⟩
      · rw [si_other _ _ _ _ (by omega), si_other _ _ _ _ (by omega), sr_other _ _ _ (by omega), sr_other _ _ _ (by omega), g3, pe_o (by omega) (by omega), tp_o (by omega) (by omega)]
      · rw [si_other _ _ _ _ (by omega), si_other _ _ _ _ (by omega), sr_other _ _ _ (by omega), sr_other _ _ _ (by omega), g3, pe_o (by omega) (by omega)]
      · rw [si_same, upd_s]
      · rw [si_other _ _ _ _ (by decide), si_other _ _ _ _ (by decide), sr_other _ _ _ (by decide), sr_same, g3, pe_o (c := 2) (by decide) (by decide)]
        rfl
      · rw [si_other _ _ _ _ (by decide), si_other _ _ _ _ (by decide), sr_same, g3, pe_o (c := 3) (by decide) (by decide)]
        rfl
      · rw [si_other _ _ _ _ (by decide), si_same, upd_s]
    | succ fu ih =>
      intro i hi
      refine bw_iload_n (i := 1) C dX7_init_119 rfl rfl ?_
      refine bw_ldcS (i := 0) C hE dX7_init_120 (by decide) rfl rfl ?_
      refine bw_c1 (as := []) (rest := [.int (nI i)]) C hE dX7_init_122 mv_X7_67 (T_J0_length_8abf5 (i := 0) (by decide)) (ckS (by decide)) rfl rfl (Nat.le_of_ble_eq_true rfl) ⟨by omega, by omega⟩ hnR (fun r μ' h => ?_)
      obtain ⟨x, rfl, rfl, rfl⟩ := h
      show BW p l e R s m args below meth c X.1 A Z 2 125 _ [.int 45, .int (nI i)] _ nc ns
      refine bw_icmp_ge C dX7_init_125 (tgt := 147) rfl (fun h => absurd h (nI_ge (b := 45) (by omega) (by decide))) (fun _ => ?_)
      refine bw_aload_n (i := 0) C dX7_init_128 rfl rfl ?_
      refine bw_getR (r := 6) C dX7_init_129 fa_X7_19 rfl ?_
      refine bw_ldcS (i := 0) C hE dX7_init_132 (by decide) rfl rfl ?_
      refine bw_iload_n (i := 1) C dX7_init_134 rfl rfl ?_
      refine bw_c1 (as := [.int (nI i)]) (rest := [.ref (X.2.2.1 6)]) C hE dX7_init_135 mv_X7_73 (T_J0_charAt_5068e (i := 0) (k0 := i) (by decide) (by show i < 45; omega)) (ckS (by decide)) rfl rfl (Nat.le_of_ble_eq_true rfl) ⟨by omega, by omega⟩ hnR (fun r μ' h => ?_)
      obtain ⟨x, rfl, rfl, rfl⟩ := h
      show BW p l e R s m args below meth c X.1 A Z 2 138 _ [.int (sch 0 i), .ref (X.2.2.1 6)] _ nc ns
      refine bw_c1 (as := [.int (sch 0 i)]) (rest := []) C hE dX7_init_138 mv_X7_77 (T_X2_put (n := i) rfl (by omega)) ckReader rfl rfl (Nat.le_of_ble_eq_true rfl) ⟨by omega, by omega⟩ hnR (fun r μ' h => ?_)
      obtain ⟨rfl, rfl⟩ := h
      rw [if_pos (by omega), tp_s]
      show BW p l e R s m args below meth c X.1 A Z 2 141 _ [] _ nc ns
      refine bw_iinc (i := 1) (v := nI (i + 1)) (ls2 := [(1, .int (nI (i + 1))), (0, .ref (X.2.2.1 0))]) C dX7_init_141 rfl (inc1 i) (by decide) rfl ?_
      refine bw_goto C dX7_init_144 (tgt := 119) rfl ?_
      exact ih (i + 1) (by omega)
  rw [← tp_0]
  refine bw_iconst (v := 0) C dX7_init_117 rfl ?_
  refine bw_istore_n (i := 1) (ls2 := [(1, .int 0), (0, .ref (X.2.2.1 0))]) C dX7_init_118 rfl (by decide) rfl ?_
  exact T 45 0 rfl
end TAIL7
