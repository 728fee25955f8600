theorem res_V {V : VW} {j h : Nat} {y : Int32} : vu (vu (vu (laughV V j h y) 3 j (V 3 j)) 5 h (V 5 h)) 7 h (V 7 h) = V := by
  funext r x
  unfold laughV
  simp only [vu_at]
  by_cases h7 : r = 7
  · subst h7
    by_cases q : x = h <;> simp [q]
  · by_cases h5 : r = 5
    · subst h5
      by_cases q : x = h <;> simp [q]
    · by_cases h3 : r = 3
      · subst h3
        by_cases q : x = j <;> simp [q]
      · simp [h7, h5, h3]
theorem unL_c {st st2 : Nat → Int32} : ∀ (n : Nat) (V : VW), (∀ k, k < 5 * n → st k = st2 k) → unL st n V = unL st2 n V
  | 0, _, _ => rfl
  | n + 1, V, h => by
    unfold unL
    rw [h (5 * n) (by omega), h (5 * n + 1) (by omega), h (5 * n + 2) (by omega), h (5 * n + 3) (by omega), h (5 * n + 4) (by omega)]
    exact unL_c n _ (fun k hk => h k (by omega))
/-- a telling that is written down is taken back whole -/
theorem un_tell {B : BK} {st : Nat → Int32} {n j h : Nat} {V : VW} (hj : j < 5) (hh : h < 6) : unL (unW st n j h V) (n + 1) (tellV B V j h) = unL st n V := by
  have e0 : unW st n j h V (5 * n) = nI j := by unfold unW; rw [upd_o _ _ (by omega), upd_o _ _ (by omega), upd_o _ _ (by omega), upd_o _ _ (by omega), upd_s]
  have e1 : unW st n j h V (5 * n + 1) = nI h := by unfold unW; rw [upd_o _ _ (by omega), upd_o _ _ (by omega), upd_o _ _ (by omega), upd_s]
  have e2 : unW st n j h V (5 * n + 2) = V 3 j := by unfold unW; rw [upd_o _ _ (by omega), upd_o _ _ (by omega), upd_s]
  have e3 : unW st n j h V (5 * n + 3) = V 5 h := by unfold unW; rw [upd_o _ _ (by omega), upd_s]
  have e4 : unW st n j h V (5 * n + 4) = V 7 h := by unfold unW; rw [upd_s]
  show unL (unW st n j h V) n (vu (vu (vu (tellV B V j h) 3 (cl (unW st n j h V (5 * n))) (unW st n j h V (5 * n + 2))) 5 (cl (unW st n j h V (5 * n + 1))) (unW st n j h V (5 * n + 3))) 7 (cl (unW st n j h V (5 * n + 1))) (unW st n j h V (5 * n + 4))) = _
  rw [e0, e1, e2, e3, e4, cl_nI (by omega), cl_nI (by omega)]
  unfold tellV
  rw [res_V]
  refine unL_c n V (fun k hk => ?_)
  unfold unW
  rw [upd_o _ _ (by omega), upd_o _ _ (by omega), upd_o _ _ (by omega), upd_o _ _ (by omega), upd_o _ _ (by omega)]
theorem un_ok {st : Nat → Int32} {n j h : Nat} {V : VW} (hj : j < 5) (hh : h < 6) (hu : unOK st n) : unOK (unW st n j h V) (n + 1) := by
  intro k hk
  by_cases q : k = n
  · subst q
    refine ⟨j, h, hj, hh, ?_, ?_⟩
    · unfold unW; rw [upd_o _ _ (by omega), upd_o _ _ (by omega), upd_o _ _ (by omega), upd_o _ _ (by omega), upd_s]
    · unfold unW; rw [upd_o _ _ (by omega), upd_o _ _ (by omega), upd_o _ _ (by omega), upd_s]
  · obtain ⟨a, b, ha, hb, e, f⟩ := hu k (by omega)
    refine ⟨a, b, ha, hb, ?_, ?_⟩
    · unfold unW; rw [upd_o _ _ (by omega), upd_o _ _ (by omega), upd_o _ _ (by omega), upd_o _ _ (by omega), upd_o _ _ (by omega)]; exact e
    · unfold unW; rw [upd_o _ _ (by omega), upd_o _ _ (by omega), upd_o _ _ (by omega), upd_o _ _ (by omega), upd_o _ _ (by omega)]; exact f
