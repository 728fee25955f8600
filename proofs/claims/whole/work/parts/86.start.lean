/-! the first TEXT is good -/
theorem muM0_14 : muM0.1 14 = aL mwds := rfl
theorem muM0_6 : muM0.1 6 = aL lawL := rfl
theorem IW_0 : IW muM0 := fun _ _ => rfl
set_option maxRecDepth 100000 in
theorem txG_0 : txG (aL mwds) (aL lawL) 45 (txA (aL mwds) (aL lawL) 45) = true := by decide +kernel
