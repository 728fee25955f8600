theorem inc1 (i : Nat) : nI i + Int32.ofInt 1 = nI (i + 1) := nI_1 i
theorem dec1 (n : Nat) : nI (n + 1) + Int32.ofInt (-1) = nI n := by
  rw [show Int32.ofInt (-1) = -1 from rfl]
  exact pk_m1 n
def b2 (b : Bool) : Int32 := if b then 1 else 0
theorem b2_t : b2 true = 1 := rfl
theorem b2_f : b2 false = 0 := rfl
theorem b2_0 {b : Bool} (h : b2 b = 0) : b = false := by cases b <;> simp_all [b2]
theorem b2_n {b : Bool} (h : ¬ b2 b = 0) : b = true := by cases b <;> simp_all [b2]
theorem b2_01 (b : Bool) : b2 b = 0 ∨ b2 b = 1 := by cases b <;> simp [b2]
/-- what a JOKE yields by its kind, before the bounds -/
def plainF (said worn : Int32) (hd : Bool) : Int32 := if hd then (said - 2 * worn) / 2 else said - 2 * worn
def kindF (kind said worn : Int32) (hd : Bool) (more : Int32) : Int32 :=
  if kind = 1 then plainF said worn hd / 2 + more else if kind = 2 then plainF said worn hd + 2 * more else if kind = 3 then plainF said worn false / 2 + more - (if hd then 0 else 3)
  else if kind = 4 then (if 9 < worn then plainF said (worn - 9) hd + 2 * more + 10 else plainF said worn hd + 2 * more) else if kind = 5 then plainF said worn hd * 9 / 10 else plainF said worn hd
def moreF (kind : Int32) : Int32 := if kind = 2 then 2 else if kind = 4 then 2 else if kind = 3 then 0 else 1
def onF (kind more : Int32) : Int32 := if kind = 1 then 2 else if kind = 3 then 2 else if kind = 4 then 0 else if kind = 5 then 1 + more / 3 else 1
def isOneF (kind ab : Int32) : Bool := kind = ab || ab = 0 || (kind = 3 && ab = 1) || (kind = 4 && ab = 2)
def inF (v lo hi : Int32) : Bool := decide (lo ≤ v) && decide (v ≤ hi)
def boundF (v lo hi : Int32) : Int32 := if v < lo then lo else if hi < v then hi else v
