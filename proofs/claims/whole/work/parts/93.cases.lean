/-! THE CASES OF THE LAW -/
def LAWK (p : Program) (s : State) (m : MethodId) (meth : Method) (c : Code) (b L : Nat) (xs : Nat → Int32) (G : va_G) (cA : ClassId) (ad7 ad8 sg : Nat → Nat) (nc ns : Nat) : Prop := BC RL code 4 p s m #[Value.ref b] meth c G cA (fun q => s.heap.size ≤ q) ∧ EX (G, cA, ad7, sg) (fun q => s.heap.size ≤ q) s s.heap ∧ EX (G, cA, ad8, sg) (fun q => s.heap.size ≤ q) s s.heap ∧ va_X b L xs s s.heap ∧ b < s.heap.size ∧ L ≤ 3584 ∧ nc ≤ room_1.cells ∧ ns ≤ room_1.slots
theorem rm_k {k : Nat} (h : k ≤ 60) : k + 1 ≤ room_1.frames ∧ 64 * k + 60 ≤ room_1.locals := ⟨by show k + 1 ≤ 2048; omega, by show 64 * k + 60 ≤ 84000; omega⟩
/-- the law's loop at pc -/
def LW (p : Program) (l : Launch) (e : Env) (s : State) (m : MethodId) (below : List Frame) (meth : Method) (c : Code) (b : Nat) (G : va_G) (cA : ClassId) (ad7 ad8 : Nat → Nat) (Z : State → Prop) (nc ns pc i : Nat) (μ ν : PM) : Prop := BW p l e room_1 s m #[Value.ref b] below meth c G (fun q => s.heap.size ≤ q) Z 4 pc [(3, .int (nI i)), (2, .ref (ad8 0)), (1, .ref (ad7 0)), (0, .ref b)] [] (wsO SC cA ad7 μ ++ wsO SM cA ad8 ν) nc ns
section CASES
variable {p : Program} {l : Launch} {e : Env} {s : State} {m : MethodId} {below : List Frame} {meth : Method} {c : Code} {b L i nc ns : Nat} {xs : Nat → Int32} {G : va_G} {cA : ClassId} {ad7 ad8 sg : Nat → Nat} {Z : State → Prop} {μ ν : PM}
theorem LC_0 (K : LAWK p s m meth c b L xs G cA ad7 ad8 sg nc ns) (hi : i + 7 ≤ L) (hv : INV μ ν) (kk : ∀ μ' ν', INV μ' ν' → LW p l e s m below meth c b G cA ad7 ad8 Z nc ns 1987 i μ' ν') : LW p l e s m below meth c b G cA ad7 ad8 Z nc ns 244 i μ ν := by
  obtain ⟨C, hE7, hE8, hX, hbl, hL, hnR⟩ := K
  have hbA : ¬ (fun q : Nat => s.heap.size ≤ q) b := Nat.not_le.mpr hbl
  obtain ⟨v, k1, k2, P1, P2, hk1, hk2, ct1, ct2, hI⟩ := (show OPI l yX7_count cX7_count 2 yX8_count cX8_count 2 [.int (xs (i + 1))] from OP_count) μ ν hv
  refine bw_aload_n (i := 1) C dL_law_244 rfl rfl ?_
  refine bw_arg (i := i) (k := 1) (l1 := 1) hX hbl hbA hL (by omega) C dL_law_245 dL_law_246 (Or.inl ⟨_, dL_law_247, rfl, rfl⟩) dL_law_248 dL_law_249 rfl rfl ?_
  refine bw_c2 (X := (G, cA, ad7, sg)) (as := [.int (xs (i + 1))]) (rest := []) C hE7 dL_law_250 mv_L_13 ct1 ckMain rfl rfl (Nat.le_of_ble_eq_true rfl) (rm_k hk1) hnR (fun r μ1 h1 => ?_)
  obtain ⟨x1, rfl, rfl, hp1⟩ := h1
  refine bw_aload_n (i := 2) C dL_law_253 rfl rfl ?_
  refine bw_arg (i := i) (k := 1) (l1 := 1) hX hbl hbA hL (by omega) C dL_law_254 dL_law_255 (Or.inl ⟨_, dL_law_256, rfl, rfl⟩) dL_law_257 dL_law_258 rfl rfl ?_
  refine bw_c2 (X := (G, cA, ad8, sg)) (as := [.int (xs (i + 1))]) (rest := [.int _]) C hE8 dL_law_259 mv_L_17 ct2 ckModel rfl rfl (Nat.le_of_ble_eq_true rfl) (rm_k hk2) hnR (fun r ν1 h2 => ?_)
  obtain ⟨x2, rfl, rfl, hp2⟩ := h2
  exact bw_same C dL_law_262 (tgt := 1987) rfl (kk μ1 ν1 (hI _ _ hp1 hp2))
theorem LC_1 (K : LAWK p s m meth c b L xs G cA ad7 ad8 sg nc ns) (hi : i + 7 ≤ L) (hv : INV μ ν) (kk : ∀ μ' ν', INV μ' ν' → LW p l e s m below meth c b G cA ad7 ad8 Z nc ns 1987 i μ' ν') : LW p l e s m below meth c b G cA ad7 ad8 Z nc ns 267 i μ ν := by
  obtain ⟨C, hE7, hE8, hX, hbl, hL, hnR⟩ := K
  have hbA : ¬ (fun q : Nat => s.heap.size ≤ q) b := Nat.not_le.mpr hbl
  obtain ⟨v, k1, k2, P1, P2, hk1, hk2, ct1, ct2, hI⟩ := (show OPI l yX7_feed cX7_feed 7 yX8_feed cX8_feed 8 [.int (xs (i + 1)), .int (xs (i + 2)), .int (xs (i + 3)), .int (xs (i + 4)), .int (xs (i + 5)), .int (xs (i + 6))] from OP_feed) μ ν hv
  refine bw_aload_n (i := 1) C dL_law_267 rfl rfl ?_
  refine bw_arg (i := i) (k := 1) (l1 := 1) hX hbl hbA hL (by omega) C dL_law_268 dL_law_269 (Or.inl ⟨_, dL_law_270, rfl, rfl⟩) dL_law_271 dL_law_272 rfl rfl ?_
  refine bw_arg (i := i) (k := 2) (l1 := 1) hX hbl hbA hL (by omega) C dL_law_273 dL_law_274 (Or.inl ⟨_, dL_law_275, rfl, rfl⟩) dL_law_276 dL_law_277 rfl rfl ?_
  refine bw_arg (i := i) (k := 3) (l1 := 1) hX hbl hbA hL (by omega) C dL_law_278 dL_law_279 (Or.inl ⟨_, dL_law_280, rfl, rfl⟩) dL_law_281 dL_law_282 rfl rfl ?_
  refine bw_arg (i := i) (k := 4) (l1 := 1) hX hbl hbA hL (by omega) C dL_law_283 dL_law_284 (Or.inl ⟨_, dL_law_285, rfl, rfl⟩) dL_law_286 dL_law_287 rfl rfl ?_
  refine bw_arg (i := i) (k := 5) (l1 := 1) hX hbl hbA hL (by omega) C dL_law_288 dL_law_289 (Or.inl ⟨_, dL_law_290, rfl, rfl⟩) dL_law_291 dL_law_292 rfl rfl ?_
  refine bw_arg (i := i) (k := 6) (l1 := 2) hX hbl hbA hL (by omega) C dL_law_293 dL_law_294 (Or.inr ⟨_, dL_law_295, rfl, rfl⟩) dL_law_297 dL_law_298 rfl rfl ?_
  refine bw_c2 (X := (G, cA, ad7, sg)) (as := [.int (xs (i + 1)), .int (xs (i + 2)), .int (xs (i + 3)), .int (xs (i + 4)), .int (xs (i + 5)), .int (xs (i + 6))]) (rest := []) C hE7 dL_law_299 mv_L_18 ct1 ckMain rfl rfl (Nat.le_of_ble_eq_true rfl) (rm_k hk1) hnR (fun r μ1 h1 => ?_)
  obtain ⟨x1, rfl, rfl, hp1⟩ := h1
  refine bw_aload_n (i := 2) C dL_law_302 rfl rfl ?_
  refine bw_arg (i := i) (k := 1) (l1 := 1) hX hbl hbA hL (by omega) C dL_law_303 dL_law_304 (Or.inl ⟨_, dL_law_305, rfl, rfl⟩) dL_law_306 dL_law_307 rfl rfl ?_
  refine bw_arg (i := i) (k := 2) (l1 := 1) hX hbl hbA hL (by omega) C dL_law_308 dL_law_309 (Or.inl ⟨_, dL_law_310, rfl, rfl⟩) dL_law_311 dL_law_312 rfl rfl ?_
  refine bw_arg (i := i) (k := 3) (l1 := 1) hX hbl hbA hL (by omega) C dL_law_313 dL_law_314 (Or.inl ⟨_, dL_law_315, rfl, rfl⟩) dL_law_316 dL_law_317 rfl rfl ?_
  refine bw_arg (i := i) (k := 4) (l1 := 1) hX hbl hbA hL (by omega) C dL_law_318 dL_law_319 (Or.inl ⟨_, dL_law_320, rfl, rfl⟩) dL_law_321 dL_law_322 rfl rfl ?_
  refine bw_arg (i := i) (k := 5) (l1 := 1) hX hbl hbA hL (by omega) C dL_law_323 dL_law_324 (Or.inl ⟨_, dL_law_325, rfl, rfl⟩) dL_law_326 dL_law_327 rfl rfl ?_
  refine bw_arg (i := i) (k := 6) (l1 := 2) hX hbl hbA hL (by omega) C dL_law_328 dL_law_329 (Or.inr ⟨_, dL_law_330, rfl, rfl⟩) dL_law_332 dL_law_333 rfl rfl ?_
  refine bw_c2 (X := (G, cA, ad8, sg)) (as := [.int (xs (i + 1)), .int (xs (i + 2)), .int (xs (i + 3)), .int (xs (i + 4)), .int (xs (i + 5)), .int (xs (i + 6))]) (rest := [.int _]) C hE8 dL_law_334 mv_L_22 ct2 ckModel rfl rfl (Nat.le_of_ble_eq_true rfl) (rm_k hk2) hnR (fun r ν1 h2 => ?_)
  obtain ⟨x2, rfl, rfl, hp2⟩ := h2
  exact bw_same C dL_law_337 (tgt := 1987) rfl (kk μ1 ν1 (hI _ _ hp1 hp2))
theorem LC_2 (K : LAWK p s m meth c b L xs G cA ad7 ad8 sg nc ns) (hi : i + 7 ≤ L) (hv : INV μ ν) (kk : ∀ μ' ν', INV μ' ν' → LW p l e s m below meth c b G cA ad7 ad8 Z nc ns 1987 i μ' ν') : LW p l e s m below meth c b G cA ad7 ad8 Z nc ns 342 i μ ν := by
  obtain ⟨C, hE7, hE8, hX, hbl, hL, hnR⟩ := K
  have hbA : ¬ (fun q : Nat => s.heap.size ≤ q) b := Nat.not_le.mpr hbl
  obtain ⟨v, k1, k2, P1, P2, hk1, hk2, ct1, ct2, hI⟩ := (show OPI l yX7_text cX7_text 3 yX8_text cX8_text 3 [] from OP_text) μ ν hv
  refine bw_aload_n (i := 1) C dL_law_342 rfl rfl ?_
  refine bw_c2 (X := (G, cA, ad7, sg)) (as := []) (rest := []) C hE7 dL_law_343 mv_L_23 ct1 ckMain rfl rfl (Nat.le_of_ble_eq_true rfl) (rm_k hk1) hnR (fun r μ1 h1 => ?_)
  obtain ⟨x1, rfl, rfl, hp1⟩ := h1
  refine bw_aload_n (i := 2) C dL_law_346 rfl rfl ?_
  refine bw_c2 (X := (G, cA, ad8, sg)) (as := []) (rest := [.int _]) C hE8 dL_law_347 mv_L_27 ct2 ckModel rfl rfl (Nat.le_of_ble_eq_true rfl) (rm_k hk2) hnR (fun r ν1 h2 => ?_)
  obtain ⟨x2, rfl, rfl, hp2⟩ := h2
  exact bw_same C dL_law_350 (tgt := 1987) rfl (kk μ1 ν1 (hI _ _ hp1 hp2))
theorem LC_3 (K : LAWK p s m meth c b L xs G cA ad7 ad8 sg nc ns) (hi : i + 7 ≤ L) (hv : INV μ ν) (kk : ∀ μ' ν', INV μ' ν' → LW p l e s m below meth c b G cA ad7 ad8 Z nc ns 1987 i μ' ν') : LW p l e s m below meth c b G cA ad7 ad8 Z nc ns 355 i μ ν := by
  obtain ⟨C, hE7, hE8, hX, hbl, hL, hnR⟩ := K
  have hbA : ¬ (fun q : Nat => s.heap.size ≤ q) b := Nat.not_le.mpr hbl
  obtain ⟨v, k1, k2, P1, P2, hk1, hk2, ct1, ct2, hI⟩ := (show OPI l yX7_force cX7_force 3 yX8_force cX8_force 3 [.int (xs (i + 1))] from OP_force) μ ν hv
  refine bw_aload_n (i := 1) C dL_law_355 rfl rfl ?_
  refine bw_arg (i := i) (k := 1) (l1 := 1) hX hbl hbA hL (by omega) C dL_law_356 dL_law_357 (Or.inl ⟨_, dL_law_358, rfl, rfl⟩) dL_law_359 dL_law_360 rfl rfl ?_
  refine bw_c2 (X := (G, cA, ad7, sg)) (as := [.int (xs (i + 1))]) (rest := []) C hE7 dL_law_361 mv_L_28 ct1 ckMain rfl rfl (Nat.le_of_ble_eq_true rfl) (rm_k hk1) hnR (fun r μ1 h1 => ?_)
  obtain ⟨x1, rfl, rfl, hp1⟩ := h1
  refine bw_aload_n (i := 2) C dL_law_364 rfl rfl ?_
  refine bw_arg (i := i) (k := 1) (l1 := 1) hX hbl hbA hL (by omega) C dL_law_365 dL_law_366 (Or.inl ⟨_, dL_law_367, rfl, rfl⟩) dL_law_368 dL_law_369 rfl rfl ?_
  refine bw_c2 (X := (G, cA, ad8, sg)) (as := [.int (xs (i + 1))]) (rest := [.int _]) C hE8 dL_law_370 mv_L_31 ct2 ckModel rfl rfl (Nat.le_of_ble_eq_true rfl) (rm_k hk2) hnR (fun r ν1 h2 => ?_)
  obtain ⟨x2, rfl, rfl, hp2⟩ := h2
  exact bw_same C dL_law_373 (tgt := 1987) rfl (kk μ1 ν1 (hI _ _ hp1 hp2))
theorem LC_4 (K : LAWK p s m meth c b L xs G cA ad7 ad8 sg nc ns) (hi : i + 7 ≤ L) (hv : INV μ ν) (kk : ∀ μ' ν', INV μ' ν' → LW p l e s m below meth c b G cA ad7 ad8 Z nc ns 1987 i μ' ν') : LW p l e s m below meth c b G cA ad7 ad8 Z nc ns 378 i μ ν := by
  obtain ⟨C, hE7, hE8, hX, hbl, hL, hnR⟩ := K
  have hbA : ¬ (fun q : Nat => s.heap.size ≤ q) b := Nat.not_le.mpr hbl
  obtain ⟨v, k1, k2, P1, P2, hk1, hk2, ct1, ct2, hI⟩ := (show OPI l yX7_asks cX7_asks 5 yX8_asks cX8_asks 5 [.int (xs (i + 1)), .int (xs (i + 2)), .int (xs (i + 3)), .int (xs (i + 4))] from OP_asks) μ ν hv
  refine bw_aload_n (i := 1) C dL_law_378 rfl rfl ?_
  refine bw_arg (i := i) (k := 1) (l1 := 1) hX hbl hbA hL (by omega) C dL_law_379 dL_law_380 (Or.inl ⟨_, dL_law_381, rfl, rfl⟩) dL_law_382 dL_law_383 rfl rfl ?_
  refine bw_arg (i := i) (k := 2) (l1 := 1) hX hbl hbA hL (by omega) C dL_law_384 dL_law_385 (Or.inl ⟨_, dL_law_386, rfl, rfl⟩) dL_law_387 dL_law_388 rfl rfl ?_
  refine bw_arg (i := i) (k := 3) (l1 := 1) hX hbl hbA hL (by omega) C dL_law_389 dL_law_390 (Or.inl ⟨_, dL_law_391, rfl, rfl⟩) dL_law_392 dL_law_393 rfl rfl ?_
  refine bw_arg (i := i) (k := 4) (l1 := 1) hX hbl hbA hL (by omega) C dL_law_394 dL_law_395 (Or.inl ⟨_, dL_law_396, rfl, rfl⟩) dL_law_397 dL_law_398 rfl rfl ?_
  refine bw_c2 (X := (G, cA, ad7, sg)) (as := [.int (xs (i + 1)), .int (xs (i + 2)), .int (xs (i + 3)), .int (xs (i + 4))]) (rest := []) C hE7 dL_law_399 mv_L_32 ct1 ckMain rfl rfl (Nat.le_of_ble_eq_true rfl) (rm_k hk1) hnR (fun r μ1 h1 => ?_)
  obtain ⟨x1, rfl, rfl, hp1⟩ := h1
  refine bw_aload_n (i := 2) C dL_law_402 rfl rfl ?_
  refine bw_arg (i := i) (k := 1) (l1 := 1) hX hbl hbA hL (by omega) C dL_law_403 dL_law_404 (Or.inl ⟨_, dL_law_405, rfl, rfl⟩) dL_law_406 dL_law_407 rfl rfl ?_
  refine bw_arg (i := i) (k := 2) (l1 := 1) hX hbl hbA hL (by omega) C dL_law_408 dL_law_409 (Or.inl ⟨_, dL_law_410, rfl, rfl⟩) dL_law_411 dL_law_412 rfl rfl ?_
  refine bw_arg (i := i) (k := 3) (l1 := 1) hX hbl hbA hL (by omega) C dL_law_413 dL_law_414 (Or.inl ⟨_, dL_law_415, rfl, rfl⟩) dL_law_416 dL_law_417 rfl rfl ?_
  refine bw_arg (i := i) (k := 4) (l1 := 1) hX hbl hbA hL (by omega) C dL_law_418 dL_law_419 (Or.inl ⟨_, dL_law_420, rfl, rfl⟩) dL_law_421 dL_law_422 rfl rfl ?_
  refine bw_c2 (X := (G, cA, ad8, sg)) (as := [.int (xs (i + 1)), .int (xs (i + 2)), .int (xs (i + 3)), .int (xs (i + 4))]) (rest := [.int _]) C hE8 dL_law_423 mv_L_36 ct2 ckModel rfl rfl (Nat.le_of_ble_eq_true rfl) (rm_k hk2) hnR (fun r ν1 h2 => ?_)
  obtain ⟨x2, rfl, rfl, hp2⟩ := h2
  exact bw_same C dL_law_426 (tgt := 1987) rfl (kk μ1 ν1 (hI _ _ hp1 hp2))
theorem LC_5 (K : LAWK p s m meth c b L xs G cA ad7 ad8 sg nc ns) (hi : i + 7 ≤ L) (hv : INV μ ν) (kk : ∀ μ' ν', INV μ' ν' → LW p l e s m below meth c b G cA ad7 ad8 Z nc ns 1987 i μ' ν') : LW p l e s m below meth c b G cA ad7 ad8 Z nc ns 431 i μ ν := by
  obtain ⟨C, hE7, hE8, hX, hbl, hL, hnR⟩ := K
  have hbA : ¬ (fun q : Nat => s.heap.size ≤ q) b := Nat.not_le.mpr hbl
  obtain ⟨v, k1, k2, P1, P2, hk1, hk2, ct1, ct2, hI⟩ := (show OPI l yX7_joke cX7_joke 3 yX8_joke cX8_joke 4 [.int (xs (i + 1)), .int (xs (i + 2))] from OP_joke) μ ν hv
  refine bw_aload_n (i := 1) C dL_law_431 rfl rfl ?_
  refine bw_arg (i := i) (k := 1) (l1 := 1) hX hbl hbA hL (by omega) C dL_law_432 dL_law_433 (Or.inl ⟨_, dL_law_434, rfl, rfl⟩) dL_law_435 dL_law_436 rfl rfl ?_
  refine bw_arg (i := i) (k := 2) (l1 := 1) hX hbl hbA hL (by omega) C dL_law_437 dL_law_438 (Or.inl ⟨_, dL_law_439, rfl, rfl⟩) dL_law_440 dL_law_441 rfl rfl ?_
  refine bw_c2 (X := (G, cA, ad7, sg)) (as := [.int (xs (i + 1)), .int (xs (i + 2))]) (rest := []) C hE7 dL_law_442 mv_L_37 ct1 ckMain rfl rfl (Nat.le_of_ble_eq_true rfl) (rm_k hk1) hnR (fun r μ1 h1 => ?_)
  obtain ⟨x1, rfl, rfl, hp1⟩ := h1
  refine bw_aload_n (i := 2) C dL_law_445 rfl rfl ?_
  refine bw_arg (i := i) (k := 1) (l1 := 1) hX hbl hbA hL (by omega) C dL_law_446 dL_law_447 (Or.inl ⟨_, dL_law_448, rfl, rfl⟩) dL_law_449 dL_law_450 rfl rfl ?_
  refine bw_arg (i := i) (k := 2) (l1 := 1) hX hbl hbA hL (by omega) C dL_law_451 dL_law_452 (Or.inl ⟨_, dL_law_453, rfl, rfl⟩) dL_law_454 dL_law_455 rfl rfl ?_
  refine bw_c2 (X := (G, cA, ad8, sg)) (as := [.int (xs (i + 1)), .int (xs (i + 2))]) (rest := [.int _]) C hE8 dL_law_456 mv_L_41 ct2 ckModel rfl rfl (Nat.le_of_ble_eq_true rfl) (rm_k hk2) hnR (fun r ν1 h2 => ?_)
  obtain ⟨x2, rfl, rfl, hp2⟩ := h2
  exact bw_same C dL_law_459 (tgt := 1987) rfl (kk μ1 ν1 (hI _ _ hp1 hp2))
theorem LC_6 (K : LAWK p s m meth c b L xs G cA ad7 ad8 sg nc ns) (hi : i + 7 ≤ L) (hv : INV μ ν) (kk : ∀ μ' ν', INV μ' ν' → LW p l e s m below meth c b G cA ad7 ad8 Z nc ns 1987 i μ' ν') : LW p l e s m below meth c b G cA ad7 ad8 Z nc ns 464 i μ ν := by
  obtain ⟨C, hE7, hE8, hX, hbl, hL, hnR⟩ := K
  have hbA : ¬ (fun q : Nat => s.heap.size ≤ q) b := Nat.not_le.mpr hbl
  obtain ⟨v, k1, k2, P1, P2, hk1, hk2, ct1, ct2, hI⟩ := (show OPI l yX7_told cX7_told 3 yX8_told cX8_told 3 [.int (xs (i + 1)), .int (xs (i + 2))] from OP_told) μ ν hv
  refine bw_aload_n (i := 1) C dL_law_464 rfl rfl ?_
  refine bw_arg (i := i) (k := 1) (l1 := 1) hX hbl hbA hL (by omega) C dL_law_465 dL_law_466 (Or.inl ⟨_, dL_law_467, rfl, rfl⟩) dL_law_468 dL_law_469 rfl rfl ?_
  refine bw_arg (i := i) (k := 2) (l1 := 1) hX hbl hbA hL (by omega) C dL_law_470 dL_law_471 (Or.inl ⟨_, dL_law_472, rfl, rfl⟩) dL_law_473 dL_law_474 rfl rfl ?_
  refine bw_c2 (X := (G, cA, ad7, sg)) (as := [.int (xs (i + 1)), .int (xs (i + 2))]) (rest := []) C hE7 dL_law_475 mv_L_42 ct1 ckMain rfl rfl (Nat.le_of_ble_eq_true rfl) (rm_k hk1) hnR (fun r μ1 h1 => ?_)
  obtain ⟨x1, rfl, rfl, hp1⟩ := h1
  refine bw_aload_n (i := 2) C dL_law_478 rfl rfl ?_
  refine bw_arg (i := i) (k := 1) (l1 := 1) hX hbl hbA hL (by omega) C dL_law_479 dL_law_480 (Or.inl ⟨_, dL_law_481, rfl, rfl⟩) dL_law_482 dL_law_483 rfl rfl ?_
  refine bw_arg (i := i) (k := 2) (l1 := 1) hX hbl hbA hL (by omega) C dL_law_484 dL_law_485 (Or.inl ⟨_, dL_law_486, rfl, rfl⟩) dL_law_487 dL_law_488 rfl rfl ?_
  refine bw_c2 (X := (G, cA, ad8, sg)) (as := [.int (xs (i + 1)), .int (xs (i + 2))]) (rest := [.int _]) C hE8 dL_law_489 mv_L_45 ct2 ckModel rfl rfl (Nat.le_of_ble_eq_true rfl) (rm_k hk2) hnR (fun r ν1 h2 => ?_)
  obtain ⟨x2, rfl, rfl, hp2⟩ := h2
  exact bw_same C dL_law_492 (tgt := 1987) rfl (kk μ1 ν1 (hI _ _ hp1 hp2))
theorem LC_7 (K : LAWK p s m meth c b L xs G cA ad7 ad8 sg nc ns) (hi : i + 7 ≤ L) (hv : INV μ ν) (kk : ∀ μ' ν', INV μ' ν' → LW p l e s m below meth c b G cA ad7 ad8 Z nc ns 1987 i μ' ν') : LW p l e s m below meth c b G cA ad7 ad8 Z nc ns 497 i μ ν := by
  obtain ⟨C, hE7, hE8, hX, hbl, hL, hnR⟩ := K
  have hbA : ¬ (fun q : Nat => s.heap.size ≤ q) b := Nat.not_le.mpr hbl
  obtain ⟨v, k1, k2, P1, P2, hk1, hk2, ct1, ct2, hI⟩ := (show OPI l yX7_hearer cX7_hearer 3 yX8_hearer cX8_hearer 3 [.int (xs (i + 1)), .int (xs (i + 2))] from OP_hearer) μ ν hv
  refine bw_aload_n (i := 1) C dL_law_497 rfl rfl ?_
  refine bw_arg (i := i) (k := 1) (l1 := 1) hX hbl hbA hL (by omega) C dL_law_498 dL_law_499 (Or.inl ⟨_, dL_law_500, rfl, rfl⟩) dL_law_501 dL_law_502 rfl rfl ?_
  refine bw_arg (i := i) (k := 2) (l1 := 1) hX hbl hbA hL (by omega) C dL_law_503 dL_law_504 (Or.inl ⟨_, dL_law_505, rfl, rfl⟩) dL_law_506 dL_law_507 rfl rfl ?_
  refine bw_c2 (X := (G, cA, ad7, sg)) (as := [.int (xs (i + 1)), .int (xs (i + 2))]) (rest := []) C hE7 dL_law_508 mv_L_46 ct1 ckMain rfl rfl (Nat.le_of_ble_eq_true rfl) (rm_k hk1) hnR (fun r μ1 h1 => ?_)
  obtain ⟨x1, rfl, rfl, hp1⟩ := h1
  refine bw_aload_n (i := 2) C dL_law_511 rfl rfl ?_
  refine bw_arg (i := i) (k := 1) (l1 := 1) hX hbl hbA hL (by omega) C dL_law_512 dL_law_513 (Or.inl ⟨_, dL_law_514, rfl, rfl⟩) dL_law_515 dL_law_516 rfl rfl ?_
  refine bw_arg (i := i) (k := 2) (l1 := 1) hX hbl hbA hL (by omega) C dL_law_517 dL_law_518 (Or.inl ⟨_, dL_law_519, rfl, rfl⟩) dL_law_520 dL_law_521 rfl rfl ?_
  refine bw_c2 (X := (G, cA, ad8, sg)) (as := [.int (xs (i + 1)), .int (xs (i + 2))]) (rest := [.int _]) C hE8 dL_law_522 mv_L_49 ct2 ckModel rfl rfl (Nat.le_of_ble_eq_true rfl) (rm_k hk2) hnR (fun r ν1 h2 => ?_)
  obtain ⟨x2, rfl, rfl, hp2⟩ := h2
  exact bw_same C dL_law_525 (tgt := 1987) rfl (kk μ1 ν1 (hI _ _ hp1 hp2))
theorem LC_8 (K : LAWK p s m meth c b L xs G cA ad7 ad8 sg nc ns) (hi : i + 7 ≤ L) (hv : INV μ ν) (kk : ∀ μ' ν', INV μ' ν' → LW p l e s m below meth c b G cA ad7 ad8 Z nc ns 1987 i μ' ν') : LW p l e s m below meth c b G cA ad7 ad8 Z nc ns 530 i μ ν := by
  obtain ⟨C, hE7, hE8, hX, hbl, hL, hnR⟩ := K
  have hbA : ¬ (fun q : Nat => s.heap.size ≤ q) b := Nat.not_le.mpr hbl
  obtain ⟨v, k1, k2, P1, P2, hk1, hk2, ct1, ct2, hI⟩ := (show OPI l yX7_set cX7_set 5 yX8_set cX8_set 5 [.int (xs (i + 1)), .int (xs (i + 2)), .int (xs (i + 3))] from OP_set) μ ν hv
  refine bw_aload_n (i := 1) C dL_law_530 rfl rfl ?_
  refine bw_arg (i := i) (k := 1) (l1 := 1) hX hbl hbA hL (by omega) C dL_law_531 dL_law_532 (Or.inl ⟨_, dL_law_533, rfl, rfl⟩) dL_law_534 dL_law_535 rfl rfl ?_
  refine bw_arg (i := i) (k := 2) (l1 := 1) hX hbl hbA hL (by omega) C dL_law_536 dL_law_537 (Or.inl ⟨_, dL_law_538, rfl, rfl⟩) dL_law_539 dL_law_540 rfl rfl ?_
  refine bw_arg (i := i) (k := 3) (l1 := 1) hX hbl hbA hL (by omega) C dL_law_541 dL_law_542 (Or.inl ⟨_, dL_law_543, rfl, rfl⟩) dL_law_544 dL_law_545 rfl rfl ?_
  refine bw_c2 (X := (G, cA, ad7, sg)) (as := [.int (xs (i + 1)), .int (xs (i + 2)), .int (xs (i + 3))]) (rest := []) C hE7 dL_law_546 mv_L_50 ct1 ckMain rfl rfl (Nat.le_of_ble_eq_true rfl) (rm_k hk1) hnR (fun r μ1 h1 => ?_)
  obtain ⟨x1, rfl, rfl, hp1⟩ := h1
  refine bw_aload_n (i := 2) C dL_law_549 rfl rfl ?_
  refine bw_arg (i := i) (k := 1) (l1 := 1) hX hbl hbA hL (by omega) C dL_law_550 dL_law_551 (Or.inl ⟨_, dL_law_552, rfl, rfl⟩) dL_law_553 dL_law_554 rfl rfl ?_
  refine bw_arg (i := i) (k := 2) (l1 := 1) hX hbl hbA hL (by omega) C dL_law_555 dL_law_556 (Or.inl ⟨_, dL_law_557, rfl, rfl⟩) dL_law_558 dL_law_559 rfl rfl ?_
  refine bw_arg (i := i) (k := 3) (l1 := 1) hX hbl hbA hL (by omega) C dL_law_560 dL_law_561 (Or.inl ⟨_, dL_law_562, rfl, rfl⟩) dL_law_563 dL_law_564 rfl rfl ?_
  refine bw_c2 (X := (G, cA, ad8, sg)) (as := [.int (xs (i + 1)), .int (xs (i + 2)), .int (xs (i + 3))]) (rest := [.int _]) C hE8 dL_law_565 mv_L_54 ct2 ckModel rfl rfl (Nat.le_of_ble_eq_true rfl) (rm_k hk2) hnR (fun r ν1 h2 => ?_)
  obtain ⟨x2, rfl, rfl, hp2⟩ := h2
  exact bw_same C dL_law_568 (tgt := 1987) rfl (kk μ1 ν1 (hI _ _ hp1 hp2))
theorem LC_9 (K : LAWK p s m meth c b L xs G cA ad7 ad8 sg nc ns) (hi : i + 7 ≤ L) (hv : INV μ ν) (kk : ∀ μ' ν', INV μ' ν' → LW p l e s m below meth c b G cA ad7 ad8 Z nc ns 1987 i μ' ν') : LW p l e s m below meth c b G cA ad7 ad8 Z nc ns 573 i μ ν := by
  obtain ⟨C, hE7, hE8, hX, hbl, hL, hnR⟩ := K
  have hbA : ¬ (fun q : Nat => s.heap.size ≤ q) b := Nat.not_le.mpr hbl
  obtain ⟨v, k1, k2, P1, P2, hk1, hk2, ct1, ct2, hI⟩ := (show OPI l yX7_of cX7_of 3 yX8_of cX8_of 3 [.int (xs (i + 1)), .int (xs (i + 2))] from OP_of) μ ν hv
  refine bw_aload_n (i := 1) C dL_law_573 rfl rfl ?_
  refine bw_arg (i := i) (k := 1) (l1 := 1) hX hbl hbA hL (by omega) C dL_law_574 dL_law_575 (Or.inl ⟨_, dL_law_576, rfl, rfl⟩) dL_law_577 dL_law_578 rfl rfl ?_
  refine bw_arg (i := i) (k := 2) (l1 := 1) hX hbl hbA hL (by omega) C dL_law_579 dL_law_580 (Or.inl ⟨_, dL_law_581, rfl, rfl⟩) dL_law_582 dL_law_583 rfl rfl ?_
  refine bw_c2 (X := (G, cA, ad7, sg)) (as := [.int (xs (i + 1)), .int (xs (i + 2))]) (rest := []) C hE7 dL_law_584 mv_L_55 ct1 ckMain rfl rfl (Nat.le_of_ble_eq_true rfl) (rm_k hk1) hnR (fun r μ1 h1 => ?_)
  obtain ⟨x1, rfl, rfl, hp1⟩ := h1
  refine bw_aload_n (i := 2) C dL_law_587 rfl rfl ?_
  refine bw_arg (i := i) (k := 1) (l1 := 1) hX hbl hbA hL (by omega) C dL_law_588 dL_law_589 (Or.inl ⟨_, dL_law_590, rfl, rfl⟩) dL_law_591 dL_law_592 rfl rfl ?_
  refine bw_arg (i := i) (k := 2) (l1 := 1) hX hbl hbA hL (by omega) C dL_law_593 dL_law_594 (Or.inl ⟨_, dL_law_595, rfl, rfl⟩) dL_law_596 dL_law_597 rfl rfl ?_
  refine bw_c2 (X := (G, cA, ad8, sg)) (as := [.int (xs (i + 1)), .int (xs (i + 2))]) (rest := [.int _]) C hE8 dL_law_598 mv_L_58 ct2 ckModel rfl rfl (Nat.le_of_ble_eq_true rfl) (rm_k hk2) hnR (fun r ν1 h2 => ?_)
  obtain ⟨x2, rfl, rfl, hp2⟩ := h2
  exact bw_same C dL_law_601 (tgt := 1987) rfl (kk μ1 ν1 (hI _ _ hp1 hp2))
theorem LC_10 (K : LAWK p s m meth c b L xs G cA ad7 ad8 sg nc ns) (hi : i + 7 ≤ L) (hv : INV μ ν) (kk : ∀ μ' ν', INV μ' ν' → LW p l e s m below meth c b G cA ad7 ad8 Z nc ns 1987 i μ' ν') : LW p l e s m below meth c b G cA ad7 ad8 Z nc ns 606 i μ ν := by
  obtain ⟨C, hE7, hE8, hX, hbl, hL, hnR⟩ := K
  have hbA : ¬ (fun q : Nat => s.heap.size ≤ q) b := Nat.not_le.mpr hbl
  obtain ⟨v, k1, k2, P1, P2, hk1, hk2, ct1, ct2, hI⟩ := (show OPI l yX7_yields cX7_yields 4 yX8_yields cX8_yields 3 [.int (xs (i + 1)), .int (xs (i + 2))] from OP_yields) μ ν hv
  refine bw_aload_n (i := 1) C dL_law_606 rfl rfl ?_
  refine bw_arg (i := i) (k := 1) (l1 := 1) hX hbl hbA hL (by omega) C dL_law_607 dL_law_608 (Or.inl ⟨_, dL_law_609, rfl, rfl⟩) dL_law_610 dL_law_611 rfl rfl ?_
  refine bw_arg (i := i) (k := 2) (l1 := 1) hX hbl hbA hL (by omega) C dL_law_612 dL_law_613 (Or.inl ⟨_, dL_law_614, rfl, rfl⟩) dL_law_615 dL_law_616 rfl rfl ?_
  refine bw_c2 (X := (G, cA, ad7, sg)) (as := [.int (xs (i + 1)), .int (xs (i + 2))]) (rest := []) C hE7 dL_law_617 mv_L_59 ct1 ckMain rfl rfl (Nat.le_of_ble_eq_true rfl) (rm_k hk1) hnR (fun r μ1 h1 => ?_)
  obtain ⟨x1, rfl, rfl, hp1⟩ := h1
  refine bw_aload_n (i := 2) C dL_law_620 rfl rfl ?_
  refine bw_arg (i := i) (k := 1) (l1 := 1) hX hbl hbA hL (by omega) C dL_law_621 dL_law_622 (Or.inl ⟨_, dL_law_623, rfl, rfl⟩) dL_law_624 dL_law_625 rfl rfl ?_
  refine bw_arg (i := i) (k := 2) (l1 := 1) hX hbl hbA hL (by omega) C dL_law_626 dL_law_627 (Or.inl ⟨_, dL_law_628, rfl, rfl⟩) dL_law_629 dL_law_630 rfl rfl ?_
  refine bw_c2 (X := (G, cA, ad8, sg)) (as := [.int (xs (i + 1)), .int (xs (i + 2))]) (rest := [.int _]) C hE8 dL_law_631 mv_L_62 ct2 ckModel rfl rfl (Nat.le_of_ble_eq_true rfl) (rm_k hk2) hnR (fun r ν1 h2 => ?_)
  obtain ⟨x2, rfl, rfl, hp2⟩ := h2
  exact bw_same C dL_law_634 (tgt := 1987) rfl (kk μ1 ν1 (hI _ _ hp1 hp2))
theorem LC_11 (K : LAWK p s m meth c b L xs G cA ad7 ad8 sg nc ns) (hi : i + 7 ≤ L) (hv : INV μ ν) (kk : ∀ μ' ν', INV μ' ν' → LW p l e s m below meth c b G cA ad7 ad8 Z nc ns 1987 i μ' ν') : LW p l e s m below meth c b G cA ad7 ad8 Z nc ns 639 i μ ν := by
  obtain ⟨C, hE7, hE8, hX, hbl, hL, hnR⟩ := K
  have hbA : ¬ (fun q : Nat => s.heap.size ≤ q) b := Nat.not_le.mpr hbl
  obtain ⟨v, k1, k2, P1, P2, hk1, hk2, ct1, ct2, hI⟩ := (show OPI l yX7_tell cX7_tell 4 yX8_tell cX8_tell 4 [.int (xs (i + 1)), .int (xs (i + 2))] from OP_tell) μ ν hv
  refine bw_aload_n (i := 1) C dL_law_639 rfl rfl ?_
  refine bw_arg (i := i) (k := 1) (l1 := 1) hX hbl hbA hL (by omega) C dL_law_640 dL_law_641 (Or.inl ⟨_, dL_law_642, rfl, rfl⟩) dL_law_643 dL_law_644 rfl rfl ?_
  refine bw_arg (i := i) (k := 2) (l1 := 1) hX hbl hbA hL (by omega) C dL_law_645 dL_law_646 (Or.inl ⟨_, dL_law_647, rfl, rfl⟩) dL_law_648 dL_law_649 rfl rfl ?_
  refine bw_c2 (X := (G, cA, ad7, sg)) (as := [.int (xs (i + 1)), .int (xs (i + 2))]) (rest := []) C hE7 dL_law_650 mv_L_63 ct1 ckMain rfl rfl (Nat.le_of_ble_eq_true rfl) (rm_k hk1) hnR (fun r μ1 h1 => ?_)
  obtain ⟨x1, rfl, rfl, hp1⟩ := h1
  refine bw_aload_n (i := 2) C dL_law_653 rfl rfl ?_
  refine bw_arg (i := i) (k := 1) (l1 := 1) hX hbl hbA hL (by omega) C dL_law_654 dL_law_655 (Or.inl ⟨_, dL_law_656, rfl, rfl⟩) dL_law_657 dL_law_658 rfl rfl ?_
  refine bw_arg (i := i) (k := 2) (l1 := 1) hX hbl hbA hL (by omega) C dL_law_659 dL_law_660 (Or.inl ⟨_, dL_law_661, rfl, rfl⟩) dL_law_662 dL_law_663 rfl rfl ?_
  refine bw_c2 (X := (G, cA, ad8, sg)) (as := [.int (xs (i + 1)), .int (xs (i + 2))]) (rest := [.int _]) C hE8 dL_law_664 mv_L_66 ct2 ckModel rfl rfl (Nat.le_of_ble_eq_true rfl) (rm_k hk2) hnR (fun r ν1 h2 => ?_)
  obtain ⟨x2, rfl, rfl, hp2⟩ := h2
  exact bw_same C dL_law_667 (tgt := 1987) rfl (kk μ1 ν1 (hI _ _ hp1 hp2))
theorem LC_12 (K : LAWK p s m meth c b L xs G cA ad7 ad8 sg nc ns) (hi : i + 7 ≤ L) (hv : INV μ ν) (kk : ∀ μ' ν', INV μ' ν' → LW p l e s m below meth c b G cA ad7 ad8 Z nc ns 1987 i μ' ν') : LW p l e s m below meth c b G cA ad7 ad8 Z nc ns 672 i μ ν := by
  obtain ⟨C, hE7, hE8, hX, hbl, hL, hnR⟩ := K
  have hbA : ¬ (fun q : Nat => s.heap.size ≤ q) b := Nat.not_le.mpr hbl
  obtain ⟨v, k1, k2, P1, P2, hk1, hk2, ct1, ct2, hI⟩ := (show OPI l yX7_pay cX7_pay 4 yX8_pay cX8_pay 4 [.int (xs (i + 1)), .int (xs (i + 2)), .int (xs (i + 3))] from OP_pay) μ ν hv
  refine bw_aload_n (i := 1) C dL_law_672 rfl rfl ?_
  refine bw_arg (i := i) (k := 1) (l1 := 1) hX hbl hbA hL (by omega) C dL_law_673 dL_law_674 (Or.inl ⟨_, dL_law_675, rfl, rfl⟩) dL_law_676 dL_law_677 rfl rfl ?_
  refine bw_arg (i := i) (k := 2) (l1 := 1) hX hbl hbA hL (by omega) C dL_law_678 dL_law_679 (Or.inl ⟨_, dL_law_680, rfl, rfl⟩) dL_law_681 dL_law_682 rfl rfl ?_
  refine bw_arg (i := i) (k := 3) (l1 := 1) hX hbl hbA hL (by omega) C dL_law_683 dL_law_684 (Or.inl ⟨_, dL_law_685, rfl, rfl⟩) dL_law_686 dL_law_687 rfl rfl ?_
  refine bw_c2 (X := (G, cA, ad7, sg)) (as := [.int (xs (i + 1)), .int (xs (i + 2)), .int (xs (i + 3))]) (rest := []) C hE7 dL_law_688 mv_L_67 ct1 ckMain rfl rfl (Nat.le_of_ble_eq_true rfl) (rm_k hk1) hnR (fun r μ1 h1 => ?_)
  obtain ⟨x1, rfl, rfl, hp1⟩ := h1
  refine bw_aload_n (i := 2) C dL_law_691 rfl rfl ?_
  refine bw_arg (i := i) (k := 1) (l1 := 1) hX hbl hbA hL (by omega) C dL_law_692 dL_law_693 (Or.inl ⟨_, dL_law_694, rfl, rfl⟩) dL_law_695 dL_law_696 rfl rfl ?_
  refine bw_arg (i := i) (k := 2) (l1 := 1) hX hbl hbA hL (by omega) C dL_law_697 dL_law_698 (Or.inl ⟨_, dL_law_699, rfl, rfl⟩) dL_law_700 dL_law_701 rfl rfl ?_
  refine bw_arg (i := i) (k := 3) (l1 := 1) hX hbl hbA hL (by omega) C dL_law_702 dL_law_703 (Or.inl ⟨_, dL_law_704, rfl, rfl⟩) dL_law_705 dL_law_706 rfl rfl ?_
  refine bw_c2 (X := (G, cA, ad8, sg)) (as := [.int (xs (i + 1)), .int (xs (i + 2)), .int (xs (i + 3))]) (rest := [.int _]) C hE8 dL_law_707 mv_L_70 ct2 ckModel rfl rfl (Nat.le_of_ble_eq_true rfl) (rm_k hk2) hnR (fun r ν1 h2 => ?_)
  obtain ⟨x2, rfl, rfl, hp2⟩ := h2
  exact bw_same C dL_law_710 (tgt := 1987) rfl (kk μ1 ν1 (hI _ _ hp1 hp2))
theorem LC_13 (K : LAWK p s m meth c b L xs G cA ad7 ad8 sg nc ns) (hi : i + 7 ≤ L) (hv : INV μ ν) (kk : ∀ μ' ν', INV μ' ν' → LW p l e s m below meth c b G cA ad7 ad8 Z nc ns 1987 i μ' ν') : LW p l e s m below meth c b G cA ad7 ad8 Z nc ns 715 i μ ν := by
  obtain ⟨C, hE7, hE8, hX, hbl, hL, hnR⟩ := K
  have hbA : ¬ (fun q : Nat => s.heap.size ≤ q) b := Nat.not_le.mpr hbl
  obtain ⟨v, k1, k2, P1, P2, hk1, hk2, ct1, ct2, hI⟩ := (show OPI l yX7_fades cX7_fades 2 yX8_fades cX8_fades 2 [.int (xs (i + 1))] from OP_fades) μ ν hv
  refine bw_aload_n (i := 1) C dL_law_715 rfl rfl ?_
  refine bw_arg (i := i) (k := 1) (l1 := 1) hX hbl hbA hL (by omega) C dL_law_716 dL_law_717 (Or.inl ⟨_, dL_law_718, rfl, rfl⟩) dL_law_719 dL_law_720 rfl rfl ?_
  refine bw_c2 (X := (G, cA, ad7, sg)) (as := [.int (xs (i + 1))]) (rest := []) C hE7 dL_law_721 mv_L_71 ct1 ckMain rfl rfl (Nat.le_of_ble_eq_true rfl) (rm_k hk1) hnR (fun r μ1 h1 => ?_)
  obtain ⟨x1, rfl, rfl, hp1⟩ := h1
  refine bw_aload_n (i := 2) C dL_law_724 rfl rfl ?_
  refine bw_arg (i := i) (k := 1) (l1 := 1) hX hbl hbA hL (by omega) C dL_law_725 dL_law_726 (Or.inl ⟨_, dL_law_727, rfl, rfl⟩) dL_law_728 dL_law_729 rfl rfl ?_
  refine bw_c2 (X := (G, cA, ad8, sg)) (as := [.int (xs (i + 1))]) (rest := [.int _]) C hE8 dL_law_730 mv_L_74 ct2 ckModel rfl rfl (Nat.le_of_ble_eq_true rfl) (rm_k hk2) hnR (fun r ν1 h2 => ?_)
  obtain ⟨x2, rfl, rfl, hp2⟩ := h2
  exact bw_same C dL_law_733 (tgt := 1987) rfl (kk μ1 ν1 (hI _ _ hp1 hp2))
theorem LC_14 (K : LAWK p s m meth c b L xs G cA ad7 ad8 sg nc ns) (hi : i + 7 ≤ L) (hv : INV μ ν) (kk : ∀ μ' ν', INV μ' ν' → LW p l e s m below meth c b G cA ad7 ad8 Z nc ns 1987 i μ' ν') : LW p l e s m below meth c b G cA ad7 ad8 Z nc ns 738 i μ ν := by
  obtain ⟨C, hE7, hE8, hX, hbl, hL, hnR⟩ := K
  have hbA : ¬ (fun q : Nat => s.heap.size ≤ q) b := Nat.not_le.mpr hbl
  obtain ⟨v, k1, k2, P1, P2, hk1, hk2, ct1, ct2, hI⟩ := (show OPI l yX7_night cX7_night 4 yX8_night cX8_night 4 [] from OP_night) μ ν hv
  refine bw_aload_n (i := 1) C dL_law_738 rfl rfl ?_
  refine bw_c2 (X := (G, cA, ad7, sg)) (as := []) (rest := []) C hE7 dL_law_739 mv_L_75 ct1 ckMain rfl rfl (Nat.le_of_ble_eq_true rfl) (rm_k hk1) hnR (fun r μ1 h1 => ?_)
  obtain ⟨x1, rfl, rfl, hp1⟩ := h1
  refine bw_aload_n (i := 2) C dL_law_742 rfl rfl ?_
  refine bw_c2 (X := (G, cA, ad8, sg)) (as := []) (rest := [.int _]) C hE8 dL_law_743 mv_L_78 ct2 ckModel rfl rfl (Nat.le_of_ble_eq_true rfl) (rm_k hk2) hnR (fun r ν1 h2 => ?_)
  obtain ⟨x2, rfl, rfl, hp2⟩ := h2
  exact bw_same C dL_law_746 (tgt := 1987) rfl (kk μ1 ν1 (hI _ _ hp1 hp2))
theorem LC_15 (K : LAWK p s m meth c b L xs G cA ad7 ad8 sg nc ns) (hi : i + 7 ≤ L) (hv : INV μ ν) (kk : ∀ μ' ν', INV μ' ν' → LW p l e s m below meth c b G cA ad7 ad8 Z nc ns 1987 i μ' ν') : LW p l e s m below meth c b G cA ad7 ad8 Z nc ns 751 i μ ν := by
  obtain ⟨C, hE7, hE8, hX, hbl, hL, hnR⟩ := K
  have hbA : ¬ (fun q : Nat => s.heap.size ≤ q) b := Nat.not_le.mpr hbl
  obtain ⟨v, k1, k2, P1, P2, hk1, hk2, ct1, ct2, hI⟩ := (show OPI l yX7_friday cX7_friday 3 yX8_friday cX8_friday 7 [.int (xs (i + 1)), .int (xs (i + 2))] from OP_friday) μ ν hv
  refine bw_aload_n (i := 1) C dL_law_751 rfl rfl ?_
  refine bw_arg (i := i) (k := 1) (l1 := 1) hX hbl hbA hL (by omega) C dL_law_752 dL_law_753 (Or.inl ⟨_, dL_law_754, rfl, rfl⟩) dL_law_755 dL_law_756 rfl rfl ?_
  refine bw_arg (i := i) (k := 2) (l1 := 1) hX hbl hbA hL (by omega) C dL_law_757 dL_law_758 (Or.inl ⟨_, dL_law_759, rfl, rfl⟩) dL_law_760 dL_law_761 rfl rfl ?_
  refine bw_c2 (X := (G, cA, ad7, sg)) (as := [.int (xs (i + 1)), .int (xs (i + 2))]) (rest := []) C hE7 dL_law_762 mv_L_79 ct1 ckMain rfl rfl (Nat.le_of_ble_eq_true rfl) (rm_k hk1) hnR (fun r μ1 h1 => ?_)
  obtain ⟨x1, rfl, rfl, hp1⟩ := h1
  refine bw_aload_n (i := 2) C dL_law_765 rfl rfl ?_
  refine bw_arg (i := i) (k := 1) (l1 := 1) hX hbl hbA hL (by omega) C dL_law_766 dL_law_767 (Or.inl ⟨_, dL_law_768, rfl, rfl⟩) dL_law_769 dL_law_770 rfl rfl ?_
  refine bw_arg (i := i) (k := 2) (l1 := 1) hX hbl hbA hL (by omega) C dL_law_771 dL_law_772 (Or.inl ⟨_, dL_law_773, rfl, rfl⟩) dL_law_774 dL_law_775 rfl rfl ?_
  refine bw_c2 (X := (G, cA, ad8, sg)) (as := [.int (xs (i + 1)), .int (xs (i + 2))]) (rest := [.int _]) C hE8 dL_law_776 mv_L_82 ct2 ckModel rfl rfl (Nat.le_of_ble_eq_true rfl) (rm_k hk2) hnR (fun r ν1 h2 => ?_)
  obtain ⟨x2, rfl, rfl, hp2⟩ := h2
  exact bw_same C dL_law_779 (tgt := 1987) rfl (kk μ1 ν1 (hI _ _ hp1 hp2))
theorem LC_16 (K : LAWK p s m meth c b L xs G cA ad7 ad8 sg nc ns) (hi : i + 7 ≤ L) (hv : INV μ ν) (kk : ∀ μ' ν', INV μ' ν' → LW p l e s m below meth c b G cA ad7 ad8 Z nc ns 1987 i μ' ν') : LW p l e s m below meth c b G cA ad7 ad8 Z nc ns 784 i μ ν := by
  obtain ⟨C, hE7, hE8, hX, hbl, hL, hnR⟩ := K
  have hbA : ¬ (fun q : Nat => s.heap.size ≤ q) b := Nat.not_le.mpr hbl
  obtain ⟨v, k1, k2, P1, P2, hk1, hk2, ct1, ct2, hI⟩ := (show OPI l yX7_greedy cX7_greedy 7 yX8_greedy cX8_greedy 6 [.int (xs (i + 1)), .int (xs (i + 2))] from OP_greedy) μ ν hv
  refine bw_aload_n (i := 1) C dL_law_784 rfl rfl ?_
  refine bw_arg (i := i) (k := 1) (l1 := 1) hX hbl hbA hL (by omega) C dL_law_785 dL_law_786 (Or.inl ⟨_, dL_law_787, rfl, rfl⟩) dL_law_788 dL_law_789 rfl rfl ?_
  refine bw_arg (i := i) (k := 2) (l1 := 1) hX hbl hbA hL (by omega) C dL_law_790 dL_law_791 (Or.inl ⟨_, dL_law_792, rfl, rfl⟩) dL_law_793 dL_law_794 rfl rfl ?_
  refine bw_c2 (X := (G, cA, ad7, sg)) (as := [.int (xs (i + 1)), .int (xs (i + 2))]) (rest := []) C hE7 dL_law_795 mv_L_83 ct1 ckMain rfl rfl (Nat.le_of_ble_eq_true rfl) (rm_k hk1) hnR (fun r μ1 h1 => ?_)
  obtain ⟨x1, rfl, rfl, hp1⟩ := h1
  refine bw_aload_n (i := 2) C dL_law_798 rfl rfl ?_
  refine bw_arg (i := i) (k := 1) (l1 := 1) hX hbl hbA hL (by omega) C dL_law_799 dL_law_800 (Or.inl ⟨_, dL_law_801, rfl, rfl⟩) dL_law_802 dL_law_803 rfl rfl ?_
  refine bw_arg (i := i) (k := 2) (l1 := 1) hX hbl hbA hL (by omega) C dL_law_804 dL_law_805 (Or.inl ⟨_, dL_law_806, rfl, rfl⟩) dL_law_807 dL_law_808 rfl rfl ?_
  refine bw_c2 (X := (G, cA, ad8, sg)) (as := [.int (xs (i + 1)), .int (xs (i + 2))]) (rest := [.int _]) C hE8 dL_law_809 mv_L_86 ct2 ckModel rfl rfl (Nat.le_of_ble_eq_true rfl) (rm_k hk2) hnR (fun r ν1 h2 => ?_)
  obtain ⟨x2, rfl, rfl, hp2⟩ := h2
  exact bw_same C dL_law_812 (tgt := 1987) rfl (kk μ1 ν1 (hI _ _ hp1 hp2))
theorem LC_17 (K : LAWK p s m meth c b L xs G cA ad7 ad8 sg nc ns) (hi : i + 7 ≤ L) (hv : INV μ ν) (kk : ∀ μ' ν', INV μ' ν' → LW p l e s m below meth c b G cA ad7 ad8 Z nc ns 1987 i μ' ν') : LW p l e s m below meth c b G cA ad7 ad8 Z nc ns 817 i μ ν := by
  obtain ⟨C, hE7, hE8, hX, hbl, hL, hnR⟩ := K
  have hbA : ¬ (fun q : Nat => s.heap.size ≤ q) b := Nat.not_le.mpr hbl
  obtain ⟨v, k1, k2, P1, P2, hk1, hk2, ct1, ct2, hI⟩ := (show OPI l yX7_mine cX7_mine 6 yX8_mine cX8_mine 6 [.int (xs (i + 1)), .int (xs (i + 2)), .int (xs (i + 3))] from OP_mine) μ ν hv
  refine bw_aload_n (i := 1) C dL_law_817 rfl rfl ?_
  refine bw_arg (i := i) (k := 1) (l1 := 1) hX hbl hbA hL (by omega) C dL_law_818 dL_law_819 (Or.inl ⟨_, dL_law_820, rfl, rfl⟩) dL_law_821 dL_law_822 rfl rfl ?_
  refine bw_arg (i := i) (k := 2) (l1 := 1) hX hbl hbA hL (by omega) C dL_law_823 dL_law_824 (Or.inl ⟨_, dL_law_825, rfl, rfl⟩) dL_law_826 dL_law_827 rfl rfl ?_
  refine bw_arg (i := i) (k := 3) (l1 := 1) hX hbl hbA hL (by omega) C dL_law_828 dL_law_829 (Or.inl ⟨_, dL_law_830, rfl, rfl⟩) dL_law_831 dL_law_832 rfl rfl ?_
  refine bw_c2 (X := (G, cA, ad7, sg)) (as := [.int (xs (i + 1)), .int (xs (i + 2)), .int (xs (i + 3))]) (rest := []) C hE7 dL_law_833 mv_L_87 ct1 ckMain rfl rfl (Nat.le_of_ble_eq_true rfl) (rm_k hk1) hnR (fun r μ1 h1 => ?_)
  obtain ⟨x1, rfl, rfl, hp1⟩ := h1
  refine bw_aload_n (i := 2) C dL_law_836 rfl rfl ?_
  refine bw_arg (i := i) (k := 1) (l1 := 1) hX hbl hbA hL (by omega) C dL_law_837 dL_law_838 (Or.inl ⟨_, dL_law_839, rfl, rfl⟩) dL_law_840 dL_law_841 rfl rfl ?_
  refine bw_arg (i := i) (k := 2) (l1 := 1) hX hbl hbA hL (by omega) C dL_law_842 dL_law_843 (Or.inl ⟨_, dL_law_844, rfl, rfl⟩) dL_law_845 dL_law_846 rfl rfl ?_
  refine bw_arg (i := i) (k := 3) (l1 := 1) hX hbl hbA hL (by omega) C dL_law_847 dL_law_848 (Or.inl ⟨_, dL_law_849, rfl, rfl⟩) dL_law_850 dL_law_851 rfl rfl ?_
  refine bw_c2 (X := (G, cA, ad8, sg)) (as := [.int (xs (i + 1)), .int (xs (i + 2)), .int (xs (i + 3))]) (rest := [.int _]) C hE8 dL_law_852 mv_L_90 ct2 ckModel rfl rfl (Nat.le_of_ble_eq_true rfl) (rm_k hk2) hnR (fun r ν1 h2 => ?_)
  obtain ⟨x2, rfl, rfl, hp2⟩ := h2
  exact bw_same C dL_law_855 (tgt := 1987) rfl (kk μ1 ν1 (hI _ _ hp1 hp2))
theorem LC_18 (K : LAWK p s m meth c b L xs G cA ad7 ad8 sg nc ns) (hi : i + 7 ≤ L) (hv : INV μ ν) (kk : ∀ μ' ν', INV μ' ν' → LW p l e s m below meth c b G cA ad7 ad8 Z nc ns 1987 i μ' ν') : LW p l e s m below meth c b G cA ad7 ad8 Z nc ns 860 i μ ν := by
  obtain ⟨C, hE7, hE8, hX, hbl, hL, hnR⟩ := K
  have hbA : ¬ (fun q : Nat => s.heap.size ≤ q) b := Nat.not_le.mpr hbl
  obtain ⟨v, k1, k2, P1, P2, hk1, hk2, ct1, ct2, hI⟩ := (show OPI l yX7_round cX7_round 6 yX8_round cX8_round 6 [.int (xs (i + 1))] from OP_round) μ ν hv
  refine bw_aload_n (i := 1) C dL_law_860 rfl rfl ?_
  refine bw_arg (i := i) (k := 1) (l1 := 1) hX hbl hbA hL (by omega) C dL_law_861 dL_law_862 (Or.inl ⟨_, dL_law_863, rfl, rfl⟩) dL_law_864 dL_law_865 rfl rfl ?_
  refine bw_c2 (X := (G, cA, ad7, sg)) (as := [.int (xs (i + 1))]) (rest := []) C hE7 dL_law_866 mv_L_91 ct1 ckMain rfl rfl (Nat.le_of_ble_eq_true rfl) (rm_k hk1) hnR (fun r μ1 h1 => ?_)
  obtain ⟨x1, rfl, rfl, hp1⟩ := h1
  refine bw_aload_n (i := 2) C dL_law_869 rfl rfl ?_
  refine bw_arg (i := i) (k := 1) (l1 := 1) hX hbl hbA hL (by omega) C dL_law_870 dL_law_871 (Or.inl ⟨_, dL_law_872, rfl, rfl⟩) dL_law_873 dL_law_874 rfl rfl ?_
  refine bw_c2 (X := (G, cA, ad8, sg)) (as := [.int (xs (i + 1))]) (rest := [.int _]) C hE8 dL_law_875 mv_L_94 ct2 ckModel rfl rfl (Nat.le_of_ble_eq_true rfl) (rm_k hk2) hnR (fun r ν1 h2 => ?_)
  obtain ⟨x2, rfl, rfl, hp2⟩ := h2
  exact bw_same C dL_law_878 (tgt := 1987) rfl (kk μ1 ν1 (hI _ _ hp1 hp2))
theorem LC_19 (K : LAWK p s m meth c b L xs G cA ad7 ad8 sg nc ns) (hi : i + 7 ≤ L) (hv : INV μ ν) (kk : ∀ μ' ν', INV μ' ν' → LW p l e s m below meth c b G cA ad7 ad8 Z nc ns 1987 i μ' ν') : LW p l e s m below meth c b G cA ad7 ad8 Z nc ns 883 i μ ν := by
  obtain ⟨C, hE7, hE8, hX, hbl, hL, hnR⟩ := K
  have hbA : ¬ (fun q : Nat => s.heap.size ≤ q) b := Nat.not_le.mpr hbl
  obtain ⟨v, k1, k2, P1, P2, hk1, hk2, ct1, ct2, hI⟩ := (show OPI l yX7_last cX7_last 6 yX8_last cX8_last 7 [.int (xs (i + 1))] from OP_last) μ ν hv
  refine bw_aload_n (i := 1) C dL_law_883 rfl rfl ?_
  refine bw_arg (i := i) (k := 1) (l1 := 1) hX hbl hbA hL (by omega) C dL_law_884 dL_law_885 (Or.inl ⟨_, dL_law_886, rfl, rfl⟩) dL_law_887 dL_law_888 rfl rfl ?_
  refine bw_c2 (X := (G, cA, ad7, sg)) (as := [.int (xs (i + 1))]) (rest := []) C hE7 dL_law_889 mv_L_95 ct1 ckMain rfl rfl (Nat.le_of_ble_eq_true rfl) (rm_k hk1) hnR (fun r μ1 h1 => ?_)
  obtain ⟨x1, rfl, rfl, hp1⟩ := h1
  refine bw_aload_n (i := 2) C dL_law_892 rfl rfl ?_
  refine bw_arg (i := i) (k := 1) (l1 := 1) hX hbl hbA hL (by omega) C dL_law_893 dL_law_894 (Or.inl ⟨_, dL_law_895, rfl, rfl⟩) dL_law_896 dL_law_897 rfl rfl ?_
  refine bw_c2 (X := (G, cA, ad8, sg)) (as := [.int (xs (i + 1))]) (rest := [.int _]) C hE8 dL_law_898 mv_L_98 ct2 ckModel rfl rfl (Nat.le_of_ble_eq_true rfl) (rm_k hk2) hnR (fun r ν1 h2 => ?_)
  obtain ⟨x2, rfl, rfl, hp2⟩ := h2
  exact bw_same C dL_law_901 (tgt := 1987) rfl (kk μ1 ν1 (hI _ _ hp1 hp2))
theorem LC_20 (K : LAWK p s m meth c b L xs G cA ad7 ad8 sg nc ns) (hi : i + 7 ≤ L) (hv : INV μ ν) (kk : ∀ μ' ν', INV μ' ν' → LW p l e s m below meth c b G cA ad7 ad8 Z nc ns 1987 i μ' ν') : LW p l e s m below meth c b G cA ad7 ad8 Z nc ns 906 i μ ν := by
  obtain ⟨C, hE7, hE8, hX, hbl, hL, hnR⟩ := K
  have hbA : ¬ (fun q : Nat => s.heap.size ≤ q) b := Nat.not_le.mpr hbl
  obtain ⟨v, k1, k2, P1, P2, hk1, hk2, ct1, ct2, hI⟩ := (show OPI l yX7_caught cX7_caught 5 yX8_caught cX8_caught 5 [.int (xs (i + 1)), .int (xs (i + 2))] from OP_caught) μ ν hv
  refine bw_aload_n (i := 1) C dL_law_906 rfl rfl ?_
  refine bw_arg (i := i) (k := 1) (l1 := 1) hX hbl hbA hL (by omega) C dL_law_907 dL_law_908 (Or.inl ⟨_, dL_law_909, rfl, rfl⟩) dL_law_910 dL_law_911 rfl rfl ?_
  refine bw_arg (i := i) (k := 2) (l1 := 1) hX hbl hbA hL (by omega) C dL_law_912 dL_law_913 (Or.inl ⟨_, dL_law_914, rfl, rfl⟩) dL_law_915 dL_law_916 rfl rfl ?_
  refine bw_c2 (X := (G, cA, ad7, sg)) (as := [.int (xs (i + 1)), .int (xs (i + 2))]) (rest := []) C hE7 dL_law_917 mv_L_99 ct1 ckMain rfl rfl (Nat.le_of_ble_eq_true rfl) (rm_k hk1) hnR (fun r μ1 h1 => ?_)
  obtain ⟨x1, rfl, rfl, hp1⟩ := h1
  refine bw_aload_n (i := 2) C dL_law_920 rfl rfl ?_
  refine bw_arg (i := i) (k := 1) (l1 := 1) hX hbl hbA hL (by omega) C dL_law_921 dL_law_922 (Or.inl ⟨_, dL_law_923, rfl, rfl⟩) dL_law_924 dL_law_925 rfl rfl ?_
  refine bw_arg (i := i) (k := 2) (l1 := 1) hX hbl hbA hL (by omega) C dL_law_926 dL_law_927 (Or.inl ⟨_, dL_law_928, rfl, rfl⟩) dL_law_929 dL_law_930 rfl rfl ?_
  refine bw_c2 (X := (G, cA, ad8, sg)) (as := [.int (xs (i + 1)), .int (xs (i + 2))]) (rest := [.int _]) C hE8 dL_law_931 mv_L_102 ct2 ckModel rfl rfl (Nat.le_of_ble_eq_true rfl) (rm_k hk2) hnR (fun r ν1 h2 => ?_)
  obtain ⟨x2, rfl, rfl, hp2⟩ := h2
  exact bw_same C dL_law_934 (tgt := 1987) rfl (kk μ1 ν1 (hI _ _ hp1 hp2))
theorem LC_21 (K : LAWK p s m meth c b L xs G cA ad7 ad8 sg nc ns) (hi : i + 7 ≤ L) (hv : INV μ ν) (kk : ∀ μ' ν', INV μ' ν' → LW p l e s m below meth c b G cA ad7 ad8 Z nc ns 1987 i μ' ν') : LW p l e s m below meth c b G cA ad7 ad8 Z nc ns 939 i μ ν := by
  obtain ⟨C, hE7, hE8, hX, hbl, hL, hnR⟩ := K
  have hbA : ¬ (fun q : Nat => s.heap.size ≤ q) b := Nat.not_le.mpr hbl
  obtain ⟨v, k1, k2, P1, P2, hk1, hk2, ct1, ct2, hI⟩ := (show OPI l yX7_panic cX7_panic 3 yX8_panic cX8_panic 4 [.int (xs (i + 1)), .int (xs (i + 2))] from OP_panic) μ ν hv
  refine bw_aload_n (i := 1) C dL_law_939 rfl rfl ?_
  refine bw_arg (i := i) (k := 1) (l1 := 1) hX hbl hbA hL (by omega) C dL_law_940 dL_law_941 (Or.inl ⟨_, dL_law_942, rfl, rfl⟩) dL_law_943 dL_law_944 rfl rfl ?_
  refine bw_arg (i := i) (k := 2) (l1 := 1) hX hbl hbA hL (by omega) C dL_law_945 dL_law_946 (Or.inl ⟨_, dL_law_947, rfl, rfl⟩) dL_law_948 dL_law_949 rfl rfl ?_
  refine bw_c2 (X := (G, cA, ad7, sg)) (as := [.int (xs (i + 1)), .int (xs (i + 2))]) (rest := []) C hE7 dL_law_950 mv_L_103 ct1 ckMain rfl rfl (Nat.le_of_ble_eq_true rfl) (rm_k hk1) hnR (fun r μ1 h1 => ?_)
  obtain ⟨x1, rfl, rfl, hp1⟩ := h1
  refine bw_aload_n (i := 2) C dL_law_953 rfl rfl ?_
  refine bw_arg (i := i) (k := 1) (l1 := 1) hX hbl hbA hL (by omega) C dL_law_954 dL_law_955 (Or.inl ⟨_, dL_law_956, rfl, rfl⟩) dL_law_957 dL_law_958 rfl rfl ?_
  refine bw_arg (i := i) (k := 2) (l1 := 1) hX hbl hbA hL (by omega) C dL_law_959 dL_law_960 (Or.inl ⟨_, dL_law_961, rfl, rfl⟩) dL_law_962 dL_law_963 rfl rfl ?_
  refine bw_c2 (X := (G, cA, ad8, sg)) (as := [.int (xs (i + 1)), .int (xs (i + 2))]) (rest := [.int _]) C hE8 dL_law_964 mv_L_106 ct2 ckModel rfl rfl (Nat.le_of_ble_eq_true rfl) (rm_k hk2) hnR (fun r ν1 h2 => ?_)
  obtain ⟨x2, rfl, rfl, hp2⟩ := h2
  exact bw_same C dL_law_967 (tgt := 1987) rfl (kk μ1 ν1 (hI _ _ hp1 hp2))
theorem LC_22 (K : LAWK p s m meth c b L xs G cA ad7 ad8 sg nc ns) (hi : i + 7 ≤ L) (hv : INV μ ν) (kk : ∀ μ' ν', INV μ' ν' → LW p l e s m below meth c b G cA ad7 ad8 Z nc ns 1987 i μ' ν') : LW p l e s m below meth c b G cA ad7 ad8 Z nc ns 972 i μ ν := by
  obtain ⟨C, hE7, hE8, hX, hbl, hL, hnR⟩ := K
  have hbA : ¬ (fun q : Nat => s.heap.size ≤ q) b := Nat.not_le.mpr hbl
  obtain ⟨v, k1, k2, P1, P2, hk1, hk2, ct1, ct2, hI⟩ := (show OPI l yX7_seeds cX7_seeds 5 yX8_seeds cX8_seeds 5 [.int (xs (i + 1))] from OP_seeds) μ ν hv
  refine bw_aload_n (i := 1) C dL_law_972 rfl rfl ?_
  refine bw_arg (i := i) (k := 1) (l1 := 1) hX hbl hbA hL (by omega) C dL_law_973 dL_law_974 (Or.inl ⟨_, dL_law_975, rfl, rfl⟩) dL_law_976 dL_law_977 rfl rfl ?_
  refine bw_c2 (X := (G, cA, ad7, sg)) (as := [.int (xs (i + 1))]) (rest := []) C hE7 dL_law_978 mv_L_107 ct1 ckMain rfl rfl (Nat.le_of_ble_eq_true rfl) (rm_k hk1) hnR (fun r μ1 h1 => ?_)
  obtain ⟨x1, rfl, rfl, hp1⟩ := h1
  refine bw_aload_n (i := 2) C dL_law_981 rfl rfl ?_
  refine bw_arg (i := i) (k := 1) (l1 := 1) hX hbl hbA hL (by omega) C dL_law_982 dL_law_983 (Or.inl ⟨_, dL_law_984, rfl, rfl⟩) dL_law_985 dL_law_986 rfl rfl ?_
  refine bw_c2 (X := (G, cA, ad8, sg)) (as := [.int (xs (i + 1))]) (rest := [.int _]) C hE8 dL_law_987 mv_L_110 ct2 ckModel rfl rfl (Nat.le_of_ble_eq_true rfl) (rm_k hk2) hnR (fun r ν1 h2 => ?_)
  obtain ⟨x2, rfl, rfl, hp2⟩ := h2
  exact bw_same C dL_law_990 (tgt := 1987) rfl (kk μ1 ν1 (hI _ _ hp1 hp2))
theorem LC_23 (K : LAWK p s m meth c b L xs G cA ad7 ad8 sg nc ns) (hi : i + 7 ≤ L) (hv : INV μ ν) (kk : ∀ μ' ν', INV μ' ν' → LW p l e s m below meth c b G cA ad7 ad8 Z nc ns 1987 i μ' ν') : LW p l e s m below meth c b G cA ad7 ad8 Z nc ns 995 i μ ν := by
  obtain ⟨C, hE7, hE8, hX, hbl, hL, hnR⟩ := K
  have hbA : ¬ (fun q : Nat => s.heap.size ≤ q) b := Nat.not_le.mpr hbl
  obtain ⟨v, k1, k2, P1, P2, hk1, hk2, ct1, ct2, hI⟩ := (show OPI l yX7_stop cX7_stop 7 yX8_stop cX8_stop 6 [.int (xs (i + 1)), .int (xs (i + 2))] from OP_stop) μ ν hv
  refine bw_aload_n (i := 1) C dL_law_995 rfl rfl ?_
  refine bw_arg (i := i) (k := 1) (l1 := 1) hX hbl hbA hL (by omega) C dL_law_996 dL_law_997 (Or.inl ⟨_, dL_law_998, rfl, rfl⟩) dL_law_999 dL_law_1000 rfl rfl ?_
  refine bw_arg (i := i) (k := 2) (l1 := 1) hX hbl hbA hL (by omega) C dL_law_1001 dL_law_1002 (Or.inl ⟨_, dL_law_1003, rfl, rfl⟩) dL_law_1004 dL_law_1005 rfl rfl ?_
  refine bw_c2 (X := (G, cA, ad7, sg)) (as := [.int (xs (i + 1)), .int (xs (i + 2))]) (rest := []) C hE7 dL_law_1006 mv_L_111 ct1 ckMain rfl rfl (Nat.le_of_ble_eq_true rfl) (rm_k hk1) hnR (fun r μ1 h1 => ?_)
  obtain ⟨x1, rfl, rfl, hp1⟩ := h1
  refine bw_aload_n (i := 2) C dL_law_1009 rfl rfl ?_
  refine bw_arg (i := i) (k := 1) (l1 := 1) hX hbl hbA hL (by omega) C dL_law_1010 dL_law_1011 (Or.inl ⟨_, dL_law_1012, rfl, rfl⟩) dL_law_1013 dL_law_1014 rfl rfl ?_
  refine bw_arg (i := i) (k := 2) (l1 := 1) hX hbl hbA hL (by omega) C dL_law_1015 dL_law_1016 (Or.inl ⟨_, dL_law_1017, rfl, rfl⟩) dL_law_1018 dL_law_1019 rfl rfl ?_
  refine bw_c2 (X := (G, cA, ad8, sg)) (as := [.int (xs (i + 1)), .int (xs (i + 2))]) (rest := [.int _]) C hE8 dL_law_1020 mv_L_114 ct2 ckModel rfl rfl (Nat.le_of_ble_eq_true rfl) (rm_k hk2) hnR (fun r ν1 h2 => ?_)
  obtain ⟨x2, rfl, rfl, hp2⟩ := h2
  exact bw_same C dL_law_1023 (tgt := 1987) rfl (kk μ1 ν1 (hI _ _ hp1 hp2))
theorem LC_24 (K : LAWK p s m meth c b L xs G cA ad7 ad8 sg nc ns) (hi : i + 7 ≤ L) (hv : INV μ ν) (kk : ∀ μ' ν', INV μ' ν' → LW p l e s m below meth c b G cA ad7 ad8 Z nc ns 1987 i μ' ν') : LW p l e s m below meth c b G cA ad7 ad8 Z nc ns 1028 i μ ν := by
  obtain ⟨C, hE7, hE8, hX, hbl, hL, hnR⟩ := K
  have hbA : ¬ (fun q : Nat => s.heap.size ≤ q) b := Nat.not_le.mpr hbl
  obtain ⟨v, k1, k2, P1, P2, hk1, hk2, ct1, ct2, hI⟩ := (show OPI l yX7_spread cX7_spread 4 yX8_spread cX8_spread 4 [.int (xs (i + 1)), .int (xs (i + 2)), .int (xs (i + 3))] from OP_spread) μ ν hv
  refine bw_aload_n (i := 1) C dL_law_1028 rfl rfl ?_
  refine bw_arg (i := i) (k := 1) (l1 := 1) hX hbl hbA hL (by omega) C dL_law_1029 dL_law_1030 (Or.inl ⟨_, dL_law_1031, rfl, rfl⟩) dL_law_1032 dL_law_1033 rfl rfl ?_
  refine bw_arg (i := i) (k := 2) (l1 := 1) hX hbl hbA hL (by omega) C dL_law_1034 dL_law_1035 (Or.inl ⟨_, dL_law_1036, rfl, rfl⟩) dL_law_1037 dL_law_1038 rfl rfl ?_
  refine bw_arg (i := i) (k := 3) (l1 := 1) hX hbl hbA hL (by omega) C dL_law_1039 dL_law_1040 (Or.inl ⟨_, dL_law_1041, rfl, rfl⟩) dL_law_1042 dL_law_1043 rfl rfl ?_
  refine bw_c2 (X := (G, cA, ad7, sg)) (as := [.int (xs (i + 1)), .int (xs (i + 2)), .int (xs (i + 3))]) (rest := []) C hE7 dL_law_1044 mv_L_115 ct1 ckMain rfl rfl (Nat.le_of_ble_eq_true rfl) (rm_k hk1) hnR (fun r μ1 h1 => ?_)
  obtain ⟨x1, rfl, rfl, hp1⟩ := h1
  refine bw_aload_n (i := 2) C dL_law_1047 rfl rfl ?_
  refine bw_arg (i := i) (k := 1) (l1 := 1) hX hbl hbA hL (by omega) C dL_law_1048 dL_law_1049 (Or.inl ⟨_, dL_law_1050, rfl, rfl⟩) dL_law_1051 dL_law_1052 rfl rfl ?_
  refine bw_arg (i := i) (k := 2) (l1 := 1) hX hbl hbA hL (by omega) C dL_law_1053 dL_law_1054 (Or.inl ⟨_, dL_law_1055, rfl, rfl⟩) dL_law_1056 dL_law_1057 rfl rfl ?_
  refine bw_arg (i := i) (k := 3) (l1 := 1) hX hbl hbA hL (by omega) C dL_law_1058 dL_law_1059 (Or.inl ⟨_, dL_law_1060, rfl, rfl⟩) dL_law_1061 dL_law_1062 rfl rfl ?_
  refine bw_c2 (X := (G, cA, ad8, sg)) (as := [.int (xs (i + 1)), .int (xs (i + 2)), .int (xs (i + 3))]) (rest := [.int _]) C hE8 dL_law_1063 mv_L_118 ct2 ckModel rfl rfl (Nat.le_of_ble_eq_true rfl) (rm_k hk2) hnR (fun r ν1 h2 => ?_)
  obtain ⟨x2, rfl, rfl, hp2⟩ := h2
  exact bw_same C dL_law_1066 (tgt := 1987) rfl (kk μ1 ν1 (hI _ _ hp1 hp2))
theorem LC_25 (K : LAWK p s m meth c b L xs G cA ad7 ad8 sg nc ns) (hi : i + 7 ≤ L) (hv : INV μ ν) (kk : ∀ μ' ν', INV μ' ν' → LW p l e s m below meth c b G cA ad7 ad8 Z nc ns 1987 i μ' ν') : LW p l e s m below meth c b G cA ad7 ad8 Z nc ns 1071 i μ ν := by
  obtain ⟨C, hE7, hE8, hX, hbl, hL, hnR⟩ := K
  have hbA : ¬ (fun q : Nat => s.heap.size ≤ q) b := Nat.not_le.mpr hbl
  obtain ⟨v, k1, k2, P1, P2, hk1, hk2, ct1, ct2, hI⟩ := (show OPI l yX7_through cX7_through 5 yX8_through cX8_through 4 [.int (xs (i + 1)), .int (xs (i + 2))] from OP_through) μ ν hv
  refine bw_aload_n (i := 1) C dL_law_1071 rfl rfl ?_
  refine bw_arg (i := i) (k := 1) (l1 := 1) hX hbl hbA hL (by omega) C dL_law_1072 dL_law_1073 (Or.inl ⟨_, dL_law_1074, rfl, rfl⟩) dL_law_1075 dL_law_1076 rfl rfl ?_
  refine bw_arg (i := i) (k := 2) (l1 := 1) hX hbl hbA hL (by omega) C dL_law_1077 dL_law_1078 (Or.inl ⟨_, dL_law_1079, rfl, rfl⟩) dL_law_1080 dL_law_1081 rfl rfl ?_
  refine bw_c2 (X := (G, cA, ad7, sg)) (as := [.int (xs (i + 1)), .int (xs (i + 2))]) (rest := []) C hE7 dL_law_1082 mv_L_119 ct1 ckMain rfl rfl (Nat.le_of_ble_eq_true rfl) (rm_k hk1) hnR (fun r μ1 h1 => ?_)
  obtain ⟨x1, rfl, rfl, hp1⟩ := h1
  refine bw_aload_n (i := 2) C dL_law_1085 rfl rfl ?_
  refine bw_arg (i := i) (k := 1) (l1 := 1) hX hbl hbA hL (by omega) C dL_law_1086 dL_law_1087 (Or.inl ⟨_, dL_law_1088, rfl, rfl⟩) dL_law_1089 dL_law_1090 rfl rfl ?_
  refine bw_arg (i := i) (k := 2) (l1 := 1) hX hbl hbA hL (by omega) C dL_law_1091 dL_law_1092 (Or.inl ⟨_, dL_law_1093, rfl, rfl⟩) dL_law_1094 dL_law_1095 rfl rfl ?_
  refine bw_c2 (X := (G, cA, ad8, sg)) (as := [.int (xs (i + 1)), .int (xs (i + 2))]) (rest := [.int _]) C hE8 dL_law_1096 mv_L_122 ct2 ckModel rfl rfl (Nat.le_of_ble_eq_true rfl) (rm_k hk2) hnR (fun r ν1 h2 => ?_)
  obtain ⟨x2, rfl, rfl, hp2⟩ := h2
  exact bw_same C dL_law_1099 (tgt := 1987) rfl (kk μ1 ν1 (hI _ _ hp1 hp2))
theorem LC_26 (K : LAWK p s m meth c b L xs G cA ad7 ad8 sg nc ns) (hi : i + 7 ≤ L) (hv : INV μ ν) (kk : ∀ μ' ν', INV μ' ν' → LW p l e s m below meth c b G cA ad7 ad8 Z nc ns 1987 i μ' ν') : LW p l e s m below meth c b G cA ad7 ad8 Z nc ns 1104 i μ ν := by
  obtain ⟨C, hE7, hE8, hX, hbl, hL, hnR⟩ := K
  have hbA : ¬ (fun q : Nat => s.heap.size ≤ q) b := Nat.not_le.mpr hbl
  obtain ⟨v, k1, k2, P1, P2, hk1, hk2, ct1, ct2, hI⟩ := (show OPI l yX7_origin cX7_origin 6 yX8_origin cX8_origin 6 [.int (xs (i + 1)), .int (xs (i + 2)), .int (xs (i + 3))] from OP_origin) μ ν hv
  refine bw_aload_n (i := 1) C dL_law_1104 rfl rfl ?_
  refine bw_arg (i := i) (k := 1) (l1 := 1) hX hbl hbA hL (by omega) C dL_law_1105 dL_law_1106 (Or.inl ⟨_, dL_law_1107, rfl, rfl⟩) dL_law_1108 dL_law_1109 rfl rfl ?_
  refine bw_arg (i := i) (k := 2) (l1 := 1) hX hbl hbA hL (by omega) C dL_law_1110 dL_law_1111 (Or.inl ⟨_, dL_law_1112, rfl, rfl⟩) dL_law_1113 dL_law_1114 rfl rfl ?_
  refine bw_arg (i := i) (k := 3) (l1 := 1) hX hbl hbA hL (by omega) C dL_law_1115 dL_law_1116 (Or.inl ⟨_, dL_law_1117, rfl, rfl⟩) dL_law_1118 dL_law_1119 rfl rfl ?_
  refine bw_c2 (X := (G, cA, ad7, sg)) (as := [.int (xs (i + 1)), .int (xs (i + 2)), .int (xs (i + 3))]) (rest := []) C hE7 dL_law_1120 mv_L_123 ct1 ckMain rfl rfl (Nat.le_of_ble_eq_true rfl) (rm_k hk1) hnR (fun r μ1 h1 => ?_)
  obtain ⟨x1, rfl, rfl, hp1⟩ := h1
  refine bw_aload_n (i := 2) C dL_law_1123 rfl rfl ?_
  refine bw_arg (i := i) (k := 1) (l1 := 1) hX hbl hbA hL (by omega) C dL_law_1124 dL_law_1125 (Or.inl ⟨_, dL_law_1126, rfl, rfl⟩) dL_law_1127 dL_law_1128 rfl rfl ?_
  refine bw_arg (i := i) (k := 2) (l1 := 1) hX hbl hbA hL (by omega) C dL_law_1129 dL_law_1130 (Or.inl ⟨_, dL_law_1131, rfl, rfl⟩) dL_law_1132 dL_law_1133 rfl rfl ?_
  refine bw_arg (i := i) (k := 3) (l1 := 1) hX hbl hbA hL (by omega) C dL_law_1134 dL_law_1135 (Or.inl ⟨_, dL_law_1136, rfl, rfl⟩) dL_law_1137 dL_law_1138 rfl rfl ?_
  refine bw_c2 (X := (G, cA, ad8, sg)) (as := [.int (xs (i + 1)), .int (xs (i + 2)), .int (xs (i + 3))]) (rest := [.int _]) C hE8 dL_law_1139 mv_L_126 ct2 ckModel rfl rfl (Nat.le_of_ble_eq_true rfl) (rm_k hk2) hnR (fun r ν1 h2 => ?_)
  obtain ⟨x2, rfl, rfl, hp2⟩ := h2
  exact bw_same C dL_law_1142 (tgt := 1987) rfl (kk μ1 ν1 (hI _ _ hp1 hp2))
theorem LC_27 (K : LAWK p s m meth c b L xs G cA ad7 ad8 sg nc ns) (hi : i + 7 ≤ L) (hv : INV μ ν) (kk : ∀ μ' ν', INV μ' ν' → LW p l e s m below meth c b G cA ad7 ad8 Z nc ns 1987 i μ' ν') : LW p l e s m below meth c b G cA ad7 ad8 Z nc ns 1147 i μ ν := by
  obtain ⟨C, hE7, hE8, hX, hbl, hL, hnR⟩ := K
  have hbA : ¬ (fun q : Nat => s.heap.size ≤ q) b := Nat.not_le.mpr hbl
  obtain ⟨v, k1, k2, P1, P2, hk1, hk2, ct1, ct2, hI⟩ := (show OPI l yX7_furthest cX7_furthest 8 yX8_furthest cX8_furthest 8 [.int (xs (i + 1)), .int (xs (i + 2)), .int (xs (i + 3))] from OP_furthest) μ ν hv
  refine bw_aload_n (i := 1) C dL_law_1147 rfl rfl ?_
  refine bw_arg (i := i) (k := 1) (l1 := 1) hX hbl hbA hL (by omega) C dL_law_1148 dL_law_1149 (Or.inl ⟨_, dL_law_1150, rfl, rfl⟩) dL_law_1151 dL_law_1152 rfl rfl ?_
  refine bw_arg (i := i) (k := 2) (l1 := 1) hX hbl hbA hL (by omega) C dL_law_1153 dL_law_1154 (Or.inl ⟨_, dL_law_1155, rfl, rfl⟩) dL_law_1156 dL_law_1157 rfl rfl ?_
  refine bw_arg (i := i) (k := 3) (l1 := 1) hX hbl hbA hL (by omega) C dL_law_1158 dL_law_1159 (Or.inl ⟨_, dL_law_1160, rfl, rfl⟩) dL_law_1161 dL_law_1162 rfl rfl ?_
  refine bw_c2 (X := (G, cA, ad7, sg)) (as := [.int (xs (i + 1)), .int (xs (i + 2)), .int (xs (i + 3))]) (rest := []) C hE7 dL_law_1163 mv_L_127 ct1 ckMain rfl rfl (Nat.le_of_ble_eq_true rfl) (rm_k hk1) hnR (fun r μ1 h1 => ?_)
  obtain ⟨x1, rfl, rfl, hp1⟩ := h1
  refine bw_aload_n (i := 2) C dL_law_1166 rfl rfl ?_
  refine bw_arg (i := i) (k := 1) (l1 := 1) hX hbl hbA hL (by omega) C dL_law_1167 dL_law_1168 (Or.inl ⟨_, dL_law_1169, rfl, rfl⟩) dL_law_1170 dL_law_1171 rfl rfl ?_
  refine bw_arg (i := i) (k := 2) (l1 := 1) hX hbl hbA hL (by omega) C dL_law_1172 dL_law_1173 (Or.inl ⟨_, dL_law_1174, rfl, rfl⟩) dL_law_1175 dL_law_1176 rfl rfl ?_
  refine bw_arg (i := i) (k := 3) (l1 := 1) hX hbl hbA hL (by omega) C dL_law_1177 dL_law_1178 (Or.inl ⟨_, dL_law_1179, rfl, rfl⟩) dL_law_1180 dL_law_1181 rfl rfl ?_
  refine bw_c2 (X := (G, cA, ad8, sg)) (as := [.int (xs (i + 1)), .int (xs (i + 2)), .int (xs (i + 3))]) (rest := [.int _]) C hE8 dL_law_1182 mv_L_130 ct2 ckModel rfl rfl (Nat.le_of_ble_eq_true rfl) (rm_k hk2) hnR (fun r ν1 h2 => ?_)
  obtain ⟨x2, rfl, rfl, hp2⟩ := h2
  exact bw_same C dL_law_1185 (tgt := 1987) rfl (kk μ1 ν1 (hI _ _ hp1 hp2))
theorem LC_28 (K : LAWK p s m meth c b L xs G cA ad7 ad8 sg nc ns) (hi : i + 7 ≤ L) (hv : INV μ ν) (kk : ∀ μ' ν', INV μ' ν' → LW p l e s m below meth c b G cA ad7 ad8 Z nc ns 1987 i μ' ν') : LW p l e s m below meth c b G cA ad7 ad8 Z nc ns 1190 i μ ν := by
  obtain ⟨C, hE7, hE8, hX, hbl, hL, hnR⟩ := K
  have hbA : ¬ (fun q : Nat => s.heap.size ≤ q) b := Nat.not_le.mpr hbl
  obtain ⟨v, k1, k2, P1, P2, hk1, hk2, ct1, ct2, hI⟩ := (show OPI l yX7_rate cX7_rate 6 yX8_rate cX8_rate 5 [.int (xs (i + 1)), .int (xs (i + 2)), .int (xs (i + 3))] from OP_rate) μ ν hv
  refine bw_aload_n (i := 1) C dL_law_1190 rfl rfl ?_
  refine bw_arg (i := i) (k := 1) (l1 := 1) hX hbl hbA hL (by omega) C dL_law_1191 dL_law_1192 (Or.inl ⟨_, dL_law_1193, rfl, rfl⟩) dL_law_1194 dL_law_1195 rfl rfl ?_
  refine bw_arg (i := i) (k := 2) (l1 := 1) hX hbl hbA hL (by omega) C dL_law_1196 dL_law_1197 (Or.inl ⟨_, dL_law_1198, rfl, rfl⟩) dL_law_1199 dL_law_1200 rfl rfl ?_
  refine bw_arg (i := i) (k := 3) (l1 := 1) hX hbl hbA hL (by omega) C dL_law_1201 dL_law_1202 (Or.inl ⟨_, dL_law_1203, rfl, rfl⟩) dL_law_1204 dL_law_1205 rfl rfl ?_
  refine bw_c2 (X := (G, cA, ad7, sg)) (as := [.int (xs (i + 1)), .int (xs (i + 2)), .int (xs (i + 3))]) (rest := []) C hE7 dL_law_1206 mv_L_131 ct1 ckMain rfl rfl (Nat.le_of_ble_eq_true rfl) (rm_k hk1) hnR (fun r μ1 h1 => ?_)
  obtain ⟨x1, rfl, rfl, hp1⟩ := h1
  refine bw_aload_n (i := 2) C dL_law_1209 rfl rfl ?_
  refine bw_arg (i := i) (k := 1) (l1 := 1) hX hbl hbA hL (by omega) C dL_law_1210 dL_law_1211 (Or.inl ⟨_, dL_law_1212, rfl, rfl⟩) dL_law_1213 dL_law_1214 rfl rfl ?_
  refine bw_arg (i := i) (k := 2) (l1 := 1) hX hbl hbA hL (by omega) C dL_law_1215 dL_law_1216 (Or.inl ⟨_, dL_law_1217, rfl, rfl⟩) dL_law_1218 dL_law_1219 rfl rfl ?_
  refine bw_arg (i := i) (k := 3) (l1 := 1) hX hbl hbA hL (by omega) C dL_law_1220 dL_law_1221 (Or.inl ⟨_, dL_law_1222, rfl, rfl⟩) dL_law_1223 dL_law_1224 rfl rfl ?_
  refine bw_c2 (X := (G, cA, ad8, sg)) (as := [.int (xs (i + 1)), .int (xs (i + 2)), .int (xs (i + 3))]) (rest := [.int _]) C hE8 dL_law_1225 mv_L_134 ct2 ckModel rfl rfl (Nat.le_of_ble_eq_true rfl) (rm_k hk2) hnR (fun r ν1 h2 => ?_)
  obtain ⟨x2, rfl, rfl, hp2⟩ := h2
  exact bw_same C dL_law_1228 (tgt := 1987) rfl (kk μ1 ν1 (hI _ _ hp1 hp2))
theorem LC_29 (K : LAWK p s m meth c b L xs G cA ad7 ad8 sg nc ns) (hi : i + 7 ≤ L) (hv : INV μ ν) (kk : ∀ μ' ν', INV μ' ν' → LW p l e s m below meth c b G cA ad7 ad8 Z nc ns 1987 i μ' ν') : LW p l e s m below meth c b G cA ad7 ad8 Z nc ns 1233 i μ ν := by
  obtain ⟨C, hE7, hE8, hX, hbl, hL, hnR⟩ := K
  have hbA : ¬ (fun q : Nat => s.heap.size ≤ q) b := Nat.not_le.mpr hbl
  obtain ⟨v, k1, k2, P1, P2, hk1, hk2, ct1, ct2, hI⟩ := (show OPL l yX7_change cX7_change 4 yX8_change cX8_change 4 [.int (xs (i + 1)), .int (xs (i + 2)), .int (xs (i + 3))] from OP_change) μ ν hv
  refine bw_aload_n (i := 1) C dL_law_1233 rfl rfl ?_
  refine bw_arg (i := i) (k := 1) (l1 := 1) hX hbl hbA hL (by omega) C dL_law_1234 dL_law_1235 (Or.inl ⟨_, dL_law_1236, rfl, rfl⟩) dL_law_1237 dL_law_1238 rfl rfl ?_
  refine bw_arg (i := i) (k := 2) (l1 := 1) hX hbl hbA hL (by omega) C dL_law_1239 dL_law_1240 (Or.inl ⟨_, dL_law_1241, rfl, rfl⟩) dL_law_1242 dL_law_1243 rfl rfl ?_
  refine bw_arg (i := i) (k := 3) (l1 := 1) hX hbl hbA hL (by omega) C dL_law_1244 dL_law_1245 (Or.inl ⟨_, dL_law_1246, rfl, rfl⟩) dL_law_1247 dL_law_1248 rfl rfl ?_
  refine bw_c2 (X := (G, cA, ad7, sg)) (as := [.int (xs (i + 1)), .int (xs (i + 2)), .int (xs (i + 3))]) (rest := []) C hE7 dL_law_1249 mv_L_135 ct1 ckMain rfl rfl (Nat.le_of_ble_eq_true rfl) (rm_k hk1) hnR (fun r μ1 h1 => ?_)
  obtain ⟨x1, rfl, rfl, hp1⟩ := h1
  refine bw_aload_n (i := 2) C dL_law_1252 rfl rfl ?_
  refine bw_arg (i := i) (k := 1) (l1 := 1) hX hbl hbA hL (by omega) C dL_law_1253 dL_law_1254 (Or.inl ⟨_, dL_law_1255, rfl, rfl⟩) dL_law_1256 dL_law_1257 rfl rfl ?_
  refine bw_arg (i := i) (k := 2) (l1 := 1) hX hbl hbA hL (by omega) C dL_law_1258 dL_law_1259 (Or.inl ⟨_, dL_law_1260, rfl, rfl⟩) dL_law_1261 dL_law_1262 rfl rfl ?_
  refine bw_arg (i := i) (k := 3) (l1 := 1) hX hbl hbA hL (by omega) C dL_law_1263 dL_law_1264 (Or.inl ⟨_, dL_law_1265, rfl, rfl⟩) dL_law_1266 dL_law_1267 rfl rfl ?_
  refine bw_c2 (X := (G, cA, ad8, sg)) (as := [.int (xs (i + 1)), .int (xs (i + 2)), .int (xs (i + 3))]) (rest := [.long _]) C hE8 dL_law_1268 mv_L_139 ct2 ckModel rfl rfl (Nat.le_of_ble_eq_true rfl) (rm_k hk2) hnR (fun r ν1 h2 => ?_)
  obtain ⟨x2, rfl, rfl, hp2⟩ := h2
  exact bw_sameL C dL_law_1271 dL_law_1272 (tgt := 1987) rfl (kk μ1 ν1 (hI _ _ hp1 hp2))
theorem LC_30 (K : LAWK p s m meth c b L xs G cA ad7 ad8 sg nc ns) (hi : i + 7 ≤ L) (hv : INV μ ν) (kk : ∀ μ' ν', INV μ' ν' → LW p l e s m below meth c b G cA ad7 ad8 Z nc ns 1987 i μ' ν') : LW p l e s m below meth c b G cA ad7 ad8 Z nc ns 1277 i μ ν := by
  obtain ⟨C, hE7, hE8, hX, hbl, hL, hnR⟩ := K
  have hbA : ¬ (fun q : Nat => s.heap.size ≤ q) b := Nat.not_le.mpr hbl
  obtain ⟨v, k1, k2, P1, P2, hk1, hk2, ct1, ct2, hI⟩ := (show OPL l yX7_gain cX7_gain 4 yX8_gain cX8_gain 5 [.int (xs (i + 1)), .int (xs (i + 2)), .int (xs (i + 3))] from OP_gain) μ ν hv
  refine bw_aload_n (i := 1) C dL_law_1277 rfl rfl ?_
  refine bw_arg (i := i) (k := 1) (l1 := 1) hX hbl hbA hL (by omega) C dL_law_1278 dL_law_1279 (Or.inl ⟨_, dL_law_1280, rfl, rfl⟩) dL_law_1281 dL_law_1282 rfl rfl ?_
  refine bw_arg (i := i) (k := 2) (l1 := 1) hX hbl hbA hL (by omega) C dL_law_1283 dL_law_1284 (Or.inl ⟨_, dL_law_1285, rfl, rfl⟩) dL_law_1286 dL_law_1287 rfl rfl ?_
  refine bw_arg (i := i) (k := 3) (l1 := 1) hX hbl hbA hL (by omega) C dL_law_1288 dL_law_1289 (Or.inl ⟨_, dL_law_1290, rfl, rfl⟩) dL_law_1291 dL_law_1292 rfl rfl ?_
  refine bw_c2 (X := (G, cA, ad7, sg)) (as := [.int (xs (i + 1)), .int (xs (i + 2)), .int (xs (i + 3))]) (rest := []) C hE7 dL_law_1293 mv_L_140 ct1 ckMain rfl rfl (Nat.le_of_ble_eq_true rfl) (rm_k hk1) hnR (fun r μ1 h1 => ?_)
  obtain ⟨x1, rfl, rfl, hp1⟩ := h1
  refine bw_aload_n (i := 2) C dL_law_1296 rfl rfl ?_
  refine bw_arg (i := i) (k := 1) (l1 := 1) hX hbl hbA hL (by omega) C dL_law_1297 dL_law_1298 (Or.inl ⟨_, dL_law_1299, rfl, rfl⟩) dL_law_1300 dL_law_1301 rfl rfl ?_
  refine bw_arg (i := i) (k := 2) (l1 := 1) hX hbl hbA hL (by omega) C dL_law_1302 dL_law_1303 (Or.inl ⟨_, dL_law_1304, rfl, rfl⟩) dL_law_1305 dL_law_1306 rfl rfl ?_
  refine bw_arg (i := i) (k := 3) (l1 := 1) hX hbl hbA hL (by omega) C dL_law_1307 dL_law_1308 (Or.inl ⟨_, dL_law_1309, rfl, rfl⟩) dL_law_1310 dL_law_1311 rfl rfl ?_
  refine bw_c2 (X := (G, cA, ad8, sg)) (as := [.int (xs (i + 1)), .int (xs (i + 2)), .int (xs (i + 3))]) (rest := [.long _]) C hE8 dL_law_1312 mv_L_143 ct2 ckModel rfl rfl (Nat.le_of_ble_eq_true rfl) (rm_k hk2) hnR (fun r ν1 h2 => ?_)
  obtain ⟨x2, rfl, rfl, hp2⟩ := h2
  exact bw_sameL C dL_law_1315 dL_law_1316 (tgt := 1987) rfl (kk μ1 ν1 (hI _ _ hp1 hp2))
theorem LC_31 (K : LAWK p s m meth c b L xs G cA ad7 ad8 sg nc ns) (hi : i + 7 ≤ L) (hv : INV μ ν) (kk : ∀ μ' ν', INV μ' ν' → LW p l e s m below meth c b G cA ad7 ad8 Z nc ns 1987 i μ' ν') : LW p l e s m below meth c b G cA ad7 ad8 Z nc ns 1321 i μ ν := by
  obtain ⟨C, hE7, hE8, hX, hbl, hL, hnR⟩ := K
  have hbA : ¬ (fun q : Nat => s.heap.size ≤ q) b := Nat.not_le.mpr hbl
  obtain ⟨v, k1, k2, P1, P2, hk1, hk2, ct1, ct2, hI⟩ := (show OPI l yX7_judge cX7_judge 4 yX8_judge cX8_judge 4 [.int (xs (i + 1)), .int (xs (i + 2))] from OP_judge) μ ν hv
  refine bw_aload_n (i := 1) C dL_law_1321 rfl rfl ?_
  refine bw_arg (i := i) (k := 1) (l1 := 1) hX hbl hbA hL (by omega) C dL_law_1322 dL_law_1323 (Or.inl ⟨_, dL_law_1324, rfl, rfl⟩) dL_law_1325 dL_law_1326 rfl rfl ?_
  refine bw_arg (i := i) (k := 2) (l1 := 1) hX hbl hbA hL (by omega) C dL_law_1327 dL_law_1328 (Or.inl ⟨_, dL_law_1329, rfl, rfl⟩) dL_law_1330 dL_law_1331 rfl rfl ?_
  refine bw_c2 (X := (G, cA, ad7, sg)) (as := [.int (xs (i + 1)), .int (xs (i + 2))]) (rest := []) C hE7 dL_law_1332 mv_L_144 ct1 ckMain rfl rfl (Nat.le_of_ble_eq_true rfl) (rm_k hk1) hnR (fun r μ1 h1 => ?_)
  obtain ⟨x1, rfl, rfl, hp1⟩ := h1
  refine bw_aload_n (i := 2) C dL_law_1335 rfl rfl ?_
  refine bw_arg (i := i) (k := 1) (l1 := 1) hX hbl hbA hL (by omega) C dL_law_1336 dL_law_1337 (Or.inl ⟨_, dL_law_1338, rfl, rfl⟩) dL_law_1339 dL_law_1340 rfl rfl ?_
  refine bw_arg (i := i) (k := 2) (l1 := 1) hX hbl hbA hL (by omega) C dL_law_1341 dL_law_1342 (Or.inl ⟨_, dL_law_1343, rfl, rfl⟩) dL_law_1344 dL_law_1345 rfl rfl ?_
  refine bw_c2 (X := (G, cA, ad8, sg)) (as := [.int (xs (i + 1)), .int (xs (i + 2))]) (rest := [.int _]) C hE8 dL_law_1346 mv_L_147 ct2 ckModel rfl rfl (Nat.le_of_ble_eq_true rfl) (rm_k hk2) hnR (fun r ν1 h2 => ?_)
  obtain ⟨x2, rfl, rfl, hp2⟩ := h2
  exact bw_same C dL_law_1349 (tgt := 1987) rfl (kk μ1 ν1 (hI _ _ hp1 hp2))
theorem LC_32 (K : LAWK p s m meth c b L xs G cA ad7 ad8 sg nc ns) (hi : i + 7 ≤ L) (hv : INV μ ν) (kk : ∀ μ' ν', INV μ' ν' → LW p l e s m below meth c b G cA ad7 ad8 Z nc ns 1987 i μ' ν') : LW p l e s m below meth c b G cA ad7 ad8 Z nc ns 1354 i μ ν := by
  obtain ⟨C, hE7, hE8, hX, hbl, hL, hnR⟩ := K
  have hbA : ¬ (fun q : Nat => s.heap.size ≤ q) b := Nat.not_le.mpr hbl
  obtain ⟨v, k1, k2, P1, P2, hk1, hk2, ct1, ct2, hI⟩ := (show OPI l yX7_humours cX7_humours 6 yX8_humours cX8_humours 7 [.int (xs (i + 1)), .int (xs (i + 2))] from OP_humours) μ ν hv
  refine bw_aload_n (i := 1) C dL_law_1354 rfl rfl ?_
  refine bw_arg (i := i) (k := 1) (l1 := 1) hX hbl hbA hL (by omega) C dL_law_1355 dL_law_1356 (Or.inl ⟨_, dL_law_1357, rfl, rfl⟩) dL_law_1358 dL_law_1359 rfl rfl ?_
  refine bw_arg (i := i) (k := 2) (l1 := 1) hX hbl hbA hL (by omega) C dL_law_1360 dL_law_1361 (Or.inl ⟨_, dL_law_1362, rfl, rfl⟩) dL_law_1363 dL_law_1364 rfl rfl ?_
  refine bw_c2 (X := (G, cA, ad7, sg)) (as := [.int (xs (i + 1)), .int (xs (i + 2))]) (rest := []) C hE7 dL_law_1365 mv_L_148 ct1 ckMain rfl rfl (Nat.le_of_ble_eq_true rfl) (rm_k hk1) hnR (fun r μ1 h1 => ?_)
  obtain ⟨x1, rfl, rfl, hp1⟩ := h1
  refine bw_aload_n (i := 2) C dL_law_1368 rfl rfl ?_
  refine bw_arg (i := i) (k := 1) (l1 := 1) hX hbl hbA hL (by omega) C dL_law_1369 dL_law_1370 (Or.inl ⟨_, dL_law_1371, rfl, rfl⟩) dL_law_1372 dL_law_1373 rfl rfl ?_
  refine bw_arg (i := i) (k := 2) (l1 := 1) hX hbl hbA hL (by omega) C dL_law_1374 dL_law_1375 (Or.inl ⟨_, dL_law_1376, rfl, rfl⟩) dL_law_1377 dL_law_1378 rfl rfl ?_
  refine bw_c2 (X := (G, cA, ad8, sg)) (as := [.int (xs (i + 1)), .int (xs (i + 2))]) (rest := [.int _]) C hE8 dL_law_1379 mv_L_151 ct2 ckModel rfl rfl (Nat.le_of_ble_eq_true rfl) (rm_k hk2) hnR (fun r ν1 h2 => ?_)
  obtain ⟨x2, rfl, rfl, hp2⟩ := h2
  exact bw_same C dL_law_1382 (tgt := 1987) rfl (kk μ1 ν1 (hI _ _ hp1 hp2))
theorem LC_33 (K : LAWK p s m meth c b L xs G cA ad7 ad8 sg nc ns) (hi : i + 7 ≤ L) (hv : INV μ ν) (kk : ∀ μ' ν', INV μ' ν' → LW p l e s m below meth c b G cA ad7 ad8 Z nc ns 1987 i μ' ν') : LW p l e s m below meth c b G cA ad7 ad8 Z nc ns 1387 i μ ν := by
  obtain ⟨C, hE7, hE8, hX, hbl, hL, hnR⟩ := K
  have hbA : ¬ (fun q : Nat => s.heap.size ≤ q) b := Nat.not_le.mpr hbl
  obtain ⟨v, k1, k2, P1, P2, hk1, hk2, ct1, ct2, hI⟩ := (show OPI l yX7_heards cX7_heards 9 yX8_heards cX8_heards 11 [.int (xs (i + 1)), .int (xs (i + 2)), .int (xs (i + 3))] from OP_heards) μ ν hv
  refine bw_aload_n (i := 1) C dL_law_1387 rfl rfl ?_
  refine bw_arg (i := i) (k := 1) (l1 := 1) hX hbl hbA hL (by omega) C dL_law_1388 dL_law_1389 (Or.inl ⟨_, dL_law_1390, rfl, rfl⟩) dL_law_1391 dL_law_1392 rfl rfl ?_
  refine bw_arg (i := i) (k := 2) (l1 := 1) hX hbl hbA hL (by omega) C dL_law_1393 dL_law_1394 (Or.inl ⟨_, dL_law_1395, rfl, rfl⟩) dL_law_1396 dL_law_1397 rfl rfl ?_
  refine bw_arg (i := i) (k := 3) (l1 := 1) hX hbl hbA hL (by omega) C dL_law_1398 dL_law_1399 (Or.inl ⟨_, dL_law_1400, rfl, rfl⟩) dL_law_1401 dL_law_1402 rfl rfl ?_
  refine bw_c2 (X := (G, cA, ad7, sg)) (as := [.int (xs (i + 1)), .int (xs (i + 2)), .int (xs (i + 3))]) (rest := []) C hE7 dL_law_1403 mv_L_152 ct1 ckMain rfl rfl (Nat.le_of_ble_eq_true rfl) (rm_k hk1) hnR (fun r μ1 h1 => ?_)
  obtain ⟨x1, rfl, rfl, hp1⟩ := h1
  refine bw_aload_n (i := 2) C dL_law_1406 rfl rfl ?_
  refine bw_arg (i := i) (k := 1) (l1 := 1) hX hbl hbA hL (by omega) C dL_law_1407 dL_law_1408 (Or.inl ⟨_, dL_law_1409, rfl, rfl⟩) dL_law_1410 dL_law_1411 rfl rfl ?_
  refine bw_arg (i := i) (k := 2) (l1 := 1) hX hbl hbA hL (by omega) C dL_law_1412 dL_law_1413 (Or.inl ⟨_, dL_law_1414, rfl, rfl⟩) dL_law_1415 dL_law_1416 rfl rfl ?_
  refine bw_arg (i := i) (k := 3) (l1 := 1) hX hbl hbA hL (by omega) C dL_law_1417 dL_law_1418 (Or.inl ⟨_, dL_law_1419, rfl, rfl⟩) dL_law_1420 dL_law_1421 rfl rfl ?_
  refine bw_c2 (X := (G, cA, ad8, sg)) (as := [.int (xs (i + 1)), .int (xs (i + 2)), .int (xs (i + 3))]) (rest := [.int _]) C hE8 dL_law_1422 mv_L_155 ct2 ckModel rfl rfl (Nat.le_of_ble_eq_true rfl) (rm_k hk2) hnR (fun r ν1 h2 => ?_)
  obtain ⟨x2, rfl, rfl, hp2⟩ := h2
  exact bw_same C dL_law_1425 (tgt := 1987) rfl (kk μ1 ν1 (hI _ _ hp1 hp2))
theorem LC_34 (K : LAWK p s m meth c b L xs G cA ad7 ad8 sg nc ns) (hi : i + 7 ≤ L) (hv : INV μ ν) (kk : ∀ μ' ν', INV μ' ν' → LW p l e s m below meth c b G cA ad7 ad8 Z nc ns 1987 i μ' ν') : LW p l e s m below meth c b G cA ad7 ad8 Z nc ns 1430 i μ ν := by
  obtain ⟨C, hE7, hE8, hX, hbl, hL, hnR⟩ := K
  have hbA : ¬ (fun q : Nat => s.heap.size ≤ q) b := Nat.not_le.mpr hbl
  obtain ⟨v, k1, k2, P1, P2, hk1, hk2, ct1, ct2, hI⟩ := (show OPI l yX7_kinds cX7_kinds 8 yX8_kinds cX8_kinds 11 [.int (xs (i + 1)), .int (xs (i + 2)), .int (xs (i + 3))] from OP_kinds) μ ν hv
  refine bw_aload_n (i := 1) C dL_law_1430 rfl rfl ?_
  refine bw_arg (i := i) (k := 1) (l1 := 1) hX hbl hbA hL (by omega) C dL_law_1431 dL_law_1432 (Or.inl ⟨_, dL_law_1433, rfl, rfl⟩) dL_law_1434 dL_law_1435 rfl rfl ?_
  refine bw_arg (i := i) (k := 2) (l1 := 1) hX hbl hbA hL (by omega) C dL_law_1436 dL_law_1437 (Or.inl ⟨_, dL_law_1438, rfl, rfl⟩) dL_law_1439 dL_law_1440 rfl rfl ?_
  refine bw_arg (i := i) (k := 3) (l1 := 1) hX hbl hbA hL (by omega) C dL_law_1441 dL_law_1442 (Or.inl ⟨_, dL_law_1443, rfl, rfl⟩) dL_law_1444 dL_law_1445 rfl rfl ?_
  refine bw_c2 (X := (G, cA, ad7, sg)) (as := [.int (xs (i + 1)), .int (xs (i + 2)), .int (xs (i + 3))]) (rest := []) C hE7 dL_law_1446 mv_L_156 ct1 ckMain rfl rfl (Nat.le_of_ble_eq_true rfl) (rm_k hk1) hnR (fun r μ1 h1 => ?_)
  obtain ⟨x1, rfl, rfl, hp1⟩ := h1
  refine bw_aload_n (i := 2) C dL_law_1449 rfl rfl ?_
  refine bw_arg (i := i) (k := 1) (l1 := 1) hX hbl hbA hL (by omega) C dL_law_1450 dL_law_1451 (Or.inl ⟨_, dL_law_1452, rfl, rfl⟩) dL_law_1453 dL_law_1454 rfl rfl ?_
  refine bw_arg (i := i) (k := 2) (l1 := 1) hX hbl hbA hL (by omega) C dL_law_1455 dL_law_1456 (Or.inl ⟨_, dL_law_1457, rfl, rfl⟩) dL_law_1458 dL_law_1459 rfl rfl ?_
  refine bw_arg (i := i) (k := 3) (l1 := 1) hX hbl hbA hL (by omega) C dL_law_1460 dL_law_1461 (Or.inl ⟨_, dL_law_1462, rfl, rfl⟩) dL_law_1463 dL_law_1464 rfl rfl ?_
  refine bw_c2 (X := (G, cA, ad8, sg)) (as := [.int (xs (i + 1)), .int (xs (i + 2)), .int (xs (i + 3))]) (rest := [.int _]) C hE8 dL_law_1465 mv_L_159 ct2 ckModel rfl rfl (Nat.le_of_ble_eq_true rfl) (rm_k hk2) hnR (fun r ν1 h2 => ?_)
  obtain ⟨x2, rfl, rfl, hp2⟩ := h2
  exact bw_same C dL_law_1468 (tgt := 1987) rfl (kk μ1 ν1 (hI _ _ hp1 hp2))
theorem LC_35 (K : LAWK p s m meth c b L xs G cA ad7 ad8 sg nc ns) (hi : i + 7 ≤ L) (hv : INV μ ν) (kk : ∀ μ' ν', INV μ' ν' → LW p l e s m below meth c b G cA ad7 ad8 Z nc ns 1987 i μ' ν') : LW p l e s m below meth c b G cA ad7 ad8 Z nc ns 1473 i μ ν := by
  obtain ⟨C, hE7, hE8, hX, hbl, hL, hnR⟩ := K
  have hbA : ¬ (fun q : Nat => s.heap.size ≤ q) b := Nat.not_le.mpr hbl
  obtain ⟨v, k1, k2, P1, P2, hk1, hk2, ct1, ct2, hI⟩ := (show OPI l yX7_wear cX7_wear 9 yX8_wear cX8_wear 12 [.int (xs (i + 1)), .int (xs (i + 2)), .int (xs (i + 3))] from OP_wear) μ ν hv
  refine bw_aload_n (i := 1) C dL_law_1473 rfl rfl ?_
  refine bw_arg (i := i) (k := 1) (l1 := 1) hX hbl hbA hL (by omega) C dL_law_1474 dL_law_1475 (Or.inl ⟨_, dL_law_1476, rfl, rfl⟩) dL_law_1477 dL_law_1478 rfl rfl ?_
  refine bw_arg (i := i) (k := 2) (l1 := 1) hX hbl hbA hL (by omega) C dL_law_1479 dL_law_1480 (Or.inl ⟨_, dL_law_1481, rfl, rfl⟩) dL_law_1482 dL_law_1483 rfl rfl ?_
  refine bw_arg (i := i) (k := 3) (l1 := 1) hX hbl hbA hL (by omega) C dL_law_1484 dL_law_1485 (Or.inl ⟨_, dL_law_1486, rfl, rfl⟩) dL_law_1487 dL_law_1488 rfl rfl ?_
  refine bw_c2 (X := (G, cA, ad7, sg)) (as := [.int (xs (i + 1)), .int (xs (i + 2)), .int (xs (i + 3))]) (rest := []) C hE7 dL_law_1489 mv_L_160 ct1 ckMain rfl rfl (Nat.le_of_ble_eq_true rfl) (rm_k hk1) hnR (fun r μ1 h1 => ?_)
  obtain ⟨x1, rfl, rfl, hp1⟩ := h1
  refine bw_aload_n (i := 2) C dL_law_1492 rfl rfl ?_
  refine bw_arg (i := i) (k := 1) (l1 := 1) hX hbl hbA hL (by omega) C dL_law_1493 dL_law_1494 (Or.inl ⟨_, dL_law_1495, rfl, rfl⟩) dL_law_1496 dL_law_1497 rfl rfl ?_
  refine bw_arg (i := i) (k := 2) (l1 := 1) hX hbl hbA hL (by omega) C dL_law_1498 dL_law_1499 (Or.inl ⟨_, dL_law_1500, rfl, rfl⟩) dL_law_1501 dL_law_1502 rfl rfl ?_
  refine bw_arg (i := i) (k := 3) (l1 := 1) hX hbl hbA hL (by omega) C dL_law_1503 dL_law_1504 (Or.inl ⟨_, dL_law_1505, rfl, rfl⟩) dL_law_1506 dL_law_1507 rfl rfl ?_
  refine bw_c2 (X := (G, cA, ad8, sg)) (as := [.int (xs (i + 1)), .int (xs (i + 2)), .int (xs (i + 3))]) (rest := [.int _]) C hE8 dL_law_1508 mv_L_163 ct2 ckModel rfl rfl (Nat.le_of_ble_eq_true rfl) (rm_k hk2) hnR (fun r ν1 h2 => ?_)
  obtain ⟨x2, rfl, rfl, hp2⟩ := h2
  exact bw_same C dL_law_1511 (tgt := 1987) rfl (kk μ1 ν1 (hI _ _ hp1 hp2))
theorem LC_36 (K : LAWK p s m meth c b L xs G cA ad7 ad8 sg nc ns) (hi : i + 7 ≤ L) (hv : INV μ ν) (kk : ∀ μ' ν', INV μ' ν' → LW p l e s m below meth c b G cA ad7 ad8 Z nc ns 1987 i μ' ν') : LW p l e s m below meth c b G cA ad7 ad8 Z nc ns 1516 i μ ν := by
  obtain ⟨C, hE7, hE8, hX, hbl, hL, hnR⟩ := K
  have hbA : ¬ (fun q : Nat => s.heap.size ≤ q) b := Nat.not_le.mpr hbl
  obtain ⟨v, k1, k2, P1, P2, hk1, hk2, ct1, ct2, hI⟩ := (show OPI l yX7_whose cX7_whose 5 yX8_whose cX8_whose 5 [.int (xs (i + 1))] from OP_whose) μ ν hv
  refine bw_aload_n (i := 1) C dL_law_1516 rfl rfl ?_
  refine bw_arg (i := i) (k := 1) (l1 := 1) hX hbl hbA hL (by omega) C dL_law_1517 dL_law_1518 (Or.inl ⟨_, dL_law_1519, rfl, rfl⟩) dL_law_1520 dL_law_1521 rfl rfl ?_
  refine bw_c2 (X := (G, cA, ad7, sg)) (as := [.int (xs (i + 1))]) (rest := []) C hE7 dL_law_1522 mv_L_164 ct1 ckMain rfl rfl (Nat.le_of_ble_eq_true rfl) (rm_k hk1) hnR (fun r μ1 h1 => ?_)
  obtain ⟨x1, rfl, rfl, hp1⟩ := h1
  refine bw_aload_n (i := 2) C dL_law_1525 rfl rfl ?_
  refine bw_arg (i := i) (k := 1) (l1 := 1) hX hbl hbA hL (by omega) C dL_law_1526 dL_law_1527 (Or.inl ⟨_, dL_law_1528, rfl, rfl⟩) dL_law_1529 dL_law_1530 rfl rfl ?_
  refine bw_c2 (X := (G, cA, ad8, sg)) (as := [.int (xs (i + 1))]) (rest := [.int _]) C hE8 dL_law_1531 mv_L_167 ct2 ckModel rfl rfl (Nat.le_of_ble_eq_true rfl) (rm_k hk2) hnR (fun r ν1 h2 => ?_)
  obtain ⟨x2, rfl, rfl, hp2⟩ := h2
  exact bw_same C dL_law_1534 (tgt := 1987) rfl (kk μ1 ν1 (hI _ _ hp1 hp2))
theorem LC_37 (K : LAWK p s m meth c b L xs G cA ad7 ad8 sg nc ns) (hi : i + 7 ≤ L) (hv : INV μ ν) (kk : ∀ μ' ν', INV μ' ν' → LW p l e s m below meth c b G cA ad7 ad8 Z nc ns 1987 i μ' ν') : LW p l e s m below meth c b G cA ad7 ad8 Z nc ns 1539 i μ ν := by
  obtain ⟨C, hE7, hE8, hX, hbl, hL, hnR⟩ := K
  have hbA : ¬ (fun q : Nat => s.heap.size ≤ q) b := Nat.not_le.mpr hbl
  obtain ⟨v, k1, k2, P1, P2, hk1, hk2, ct1, ct2, hI⟩ := (show OPI l yX7_laws cX7_laws 6 yX8_laws cX8_laws 7 [.int (xs (i + 1)), .int (xs (i + 2))] from OP_laws) μ ν hv
  refine bw_aload_n (i := 1) C dL_law_1539 rfl rfl ?_
  refine bw_arg (i := i) (k := 1) (l1 := 1) hX hbl hbA hL (by omega) C dL_law_1540 dL_law_1541 (Or.inl ⟨_, dL_law_1542, rfl, rfl⟩) dL_law_1543 dL_law_1544 rfl rfl ?_
  refine bw_arg (i := i) (k := 2) (l1 := 1) hX hbl hbA hL (by omega) C dL_law_1545 dL_law_1546 (Or.inl ⟨_, dL_law_1547, rfl, rfl⟩) dL_law_1548 dL_law_1549 rfl rfl ?_
  refine bw_c2 (X := (G, cA, ad7, sg)) (as := [.int (xs (i + 1)), .int (xs (i + 2))]) (rest := []) C hE7 dL_law_1550 mv_L_168 ct1 ckMain rfl rfl (Nat.le_of_ble_eq_true rfl) (rm_k hk1) hnR (fun r μ1 h1 => ?_)
  obtain ⟨x1, rfl, rfl, hp1⟩ := h1
  refine bw_aload_n (i := 2) C dL_law_1553 rfl rfl ?_
  refine bw_arg (i := i) (k := 1) (l1 := 1) hX hbl hbA hL (by omega) C dL_law_1554 dL_law_1555 (Or.inl ⟨_, dL_law_1556, rfl, rfl⟩) dL_law_1557 dL_law_1558 rfl rfl ?_
  refine bw_arg (i := i) (k := 2) (l1 := 1) hX hbl hbA hL (by omega) C dL_law_1559 dL_law_1560 (Or.inl ⟨_, dL_law_1561, rfl, rfl⟩) dL_law_1562 dL_law_1563 rfl rfl ?_
  refine bw_c2 (X := (G, cA, ad8, sg)) (as := [.int (xs (i + 1)), .int (xs (i + 2))]) (rest := [.int _]) C hE8 dL_law_1564 mv_L_171 ct2 ckModel rfl rfl (Nat.le_of_ble_eq_true rfl) (rm_k hk2) hnR (fun r ν1 h2 => ?_)
  obtain ⟨x2, rfl, rfl, hp2⟩ := h2
  exact bw_same C dL_law_1567 (tgt := 1987) rfl (kk μ1 ν1 (hI _ _ hp1 hp2))
theorem LC_38 (K : LAWK p s m meth c b L xs G cA ad7 ad8 sg nc ns) (hi : i + 7 ≤ L) (hv : INV μ ν) (kk : ∀ μ' ν', INV μ' ν' → LW p l e s m below meth c b G cA ad7 ad8 Z nc ns 1987 i μ' ν') : LW p l e s m below meth c b G cA ad7 ad8 Z nc ns 1572 i μ ν := by
  obtain ⟨C, hE7, hE8, hX, hbl, hL, hnR⟩ := K
  have hbA : ¬ (fun q : Nat => s.heap.size ≤ q) b := Nat.not_le.mpr hbl
  obtain ⟨v, k1, k2, P1, P2, hk1, hk2, ct1, ct2, hI⟩ := (show OPL l yX7_amiss cX7_amiss 8 yX8_amiss cX8_amiss 8 [.int (xs (i + 1)), .int (xs (i + 2))] from OP_amiss) μ ν hv
  refine bw_aload_n (i := 1) C dL_law_1572 rfl rfl ?_
  refine bw_arg (i := i) (k := 1) (l1 := 1) hX hbl hbA hL (by omega) C dL_law_1573 dL_law_1574 (Or.inl ⟨_, dL_law_1575, rfl, rfl⟩) dL_law_1576 dL_law_1577 rfl rfl ?_
  refine bw_arg (i := i) (k := 2) (l1 := 1) hX hbl hbA hL (by omega) C dL_law_1578 dL_law_1579 (Or.inl ⟨_, dL_law_1580, rfl, rfl⟩) dL_law_1581 dL_law_1582 rfl rfl ?_
  refine bw_c2 (X := (G, cA, ad7, sg)) (as := [.int (xs (i + 1)), .int (xs (i + 2))]) (rest := []) C hE7 dL_law_1583 mv_L_172 ct1 ckMain rfl rfl (Nat.le_of_ble_eq_true rfl) (rm_k hk1) hnR (fun r μ1 h1 => ?_)
  obtain ⟨x1, rfl, rfl, hp1⟩ := h1
  refine bw_aload_n (i := 2) C dL_law_1586 rfl rfl ?_
  refine bw_arg (i := i) (k := 1) (l1 := 1) hX hbl hbA hL (by omega) C dL_law_1587 dL_law_1588 (Or.inl ⟨_, dL_law_1589, rfl, rfl⟩) dL_law_1590 dL_law_1591 rfl rfl ?_
  refine bw_arg (i := i) (k := 2) (l1 := 1) hX hbl hbA hL (by omega) C dL_law_1592 dL_law_1593 (Or.inl ⟨_, dL_law_1594, rfl, rfl⟩) dL_law_1595 dL_law_1596 rfl rfl ?_
  refine bw_c2 (X := (G, cA, ad8, sg)) (as := [.int (xs (i + 1)), .int (xs (i + 2))]) (rest := [.long _]) C hE8 dL_law_1597 mv_L_176 ct2 ckModel rfl rfl (Nat.le_of_ble_eq_true rfl) (rm_k hk2) hnR (fun r ν1 h2 => ?_)
  obtain ⟨x2, rfl, rfl, hp2⟩ := h2
  exact bw_sameL C dL_law_1600 dL_law_1601 (tgt := 1987) rfl (kk μ1 ν1 (hI _ _ hp1 hp2))
theorem LC_39 (K : LAWK p s m meth c b L xs G cA ad7 ad8 sg nc ns) (hi : i + 7 ≤ L) (hv : INV μ ν) (kk : ∀ μ' ν', INV μ' ν' → LW p l e s m below meth c b G cA ad7 ad8 Z nc ns 1987 i μ' ν') : LW p l e s m below meth c b G cA ad7 ad8 Z nc ns 1606 i μ ν := by
  obtain ⟨C, hE7, hE8, hX, hbl, hL, hnR⟩ := K
  have hbA : ¬ (fun q : Nat => s.heap.size ≤ q) b := Nat.not_le.mpr hbl
  obtain ⟨v, k1, k2, P1, P2, hk1, hk2, ct1, ct2, hI⟩ := (show OPI l yX7_film cX7_film 4 yX8_film cX8_film 4 [.int (xs (i + 1)), .int (xs (i + 2))] from OP_film) μ ν hv
  refine bw_aload_n (i := 1) C dL_law_1606 rfl rfl ?_
  refine bw_arg (i := i) (k := 1) (l1 := 1) hX hbl hbA hL (by omega) C dL_law_1607 dL_law_1608 (Or.inl ⟨_, dL_law_1609, rfl, rfl⟩) dL_law_1610 dL_law_1611 rfl rfl ?_
  refine bw_arg (i := i) (k := 2) (l1 := 1) hX hbl hbA hL (by omega) C dL_law_1612 dL_law_1613 (Or.inl ⟨_, dL_law_1614, rfl, rfl⟩) dL_law_1615 dL_law_1616 rfl rfl ?_
  refine bw_c2 (X := (G, cA, ad7, sg)) (as := [.int (xs (i + 1)), .int (xs (i + 2))]) (rest := []) C hE7 dL_law_1617 mv_L_177 ct1 ckMain rfl rfl (Nat.le_of_ble_eq_true rfl) (rm_k hk1) hnR (fun r μ1 h1 => ?_)
  obtain ⟨x1, rfl, rfl, hp1⟩ := h1
  refine bw_aload_n (i := 2) C dL_law_1620 rfl rfl ?_
  refine bw_arg (i := i) (k := 1) (l1 := 1) hX hbl hbA hL (by omega) C dL_law_1621 dL_law_1622 (Or.inl ⟨_, dL_law_1623, rfl, rfl⟩) dL_law_1624 dL_law_1625 rfl rfl ?_
  refine bw_arg (i := i) (k := 2) (l1 := 1) hX hbl hbA hL (by omega) C dL_law_1626 dL_law_1627 (Or.inl ⟨_, dL_law_1628, rfl, rfl⟩) dL_law_1629 dL_law_1630 rfl rfl ?_
  refine bw_c2 (X := (G, cA, ad8, sg)) (as := [.int (xs (i + 1)), .int (xs (i + 2))]) (rest := [.int _]) C hE8 dL_law_1631 mv_L_180 ct2 ckModel rfl rfl (Nat.le_of_ble_eq_true rfl) (rm_k hk2) hnR (fun r ν1 h2 => ?_)
  obtain ⟨x2, rfl, rfl, hp2⟩ := h2
  exact bw_same C dL_law_1634 (tgt := 1987) rfl (kk μ1 ν1 (hI _ _ hp1 hp2))
theorem LC_40 (K : LAWK p s m meth c b L xs G cA ad7 ad8 sg nc ns) (hi : i + 7 ≤ L) (hv : INV μ ν) (kk : ∀ μ' ν', INV μ' ν' → LW p l e s m below meth c b G cA ad7 ad8 Z nc ns 1987 i μ' ν') : LW p l e s m below meth c b G cA ad7 ad8 Z nc ns 1639 i μ ν := by
  obtain ⟨C, hE7, hE8, hX, hbl, hL, hnR⟩ := K
  have hbA : ¬ (fun q : Nat => s.heap.size ≤ q) b := Nat.not_le.mpr hbl
  obtain ⟨v, k1, k2, P1, P2, hk1, hk2, ct1, ct2, hI⟩ := (show OPI l yX7_drawn cX7_drawn 3 yX8_drawn cX8_drawn 3 [.int (xs (i + 1)), .int (xs (i + 2))] from OP_drawn) μ ν hv
  refine bw_aload_n (i := 1) C dL_law_1639 rfl rfl ?_
  refine bw_arg (i := i) (k := 1) (l1 := 1) hX hbl hbA hL (by omega) C dL_law_1640 dL_law_1641 (Or.inl ⟨_, dL_law_1642, rfl, rfl⟩) dL_law_1643 dL_law_1644 rfl rfl ?_
  refine bw_arg (i := i) (k := 2) (l1 := 1) hX hbl hbA hL (by omega) C dL_law_1645 dL_law_1646 (Or.inl ⟨_, dL_law_1647, rfl, rfl⟩) dL_law_1648 dL_law_1649 rfl rfl ?_
  refine bw_c2 (X := (G, cA, ad7, sg)) (as := [.int (xs (i + 1)), .int (xs (i + 2))]) (rest := []) C hE7 dL_law_1650 mv_L_181 ct1 ckMain rfl rfl (Nat.le_of_ble_eq_true rfl) (rm_k hk1) hnR (fun r μ1 h1 => ?_)
  obtain ⟨x1, rfl, rfl, hp1⟩ := h1
  refine bw_aload_n (i := 2) C dL_law_1653 rfl rfl ?_
  refine bw_arg (i := i) (k := 1) (l1 := 1) hX hbl hbA hL (by omega) C dL_law_1654 dL_law_1655 (Or.inl ⟨_, dL_law_1656, rfl, rfl⟩) dL_law_1657 dL_law_1658 rfl rfl ?_
  refine bw_arg (i := i) (k := 2) (l1 := 1) hX hbl hbA hL (by omega) C dL_law_1659 dL_law_1660 (Or.inl ⟨_, dL_law_1661, rfl, rfl⟩) dL_law_1662 dL_law_1663 rfl rfl ?_
  refine bw_c2 (X := (G, cA, ad8, sg)) (as := [.int (xs (i + 1)), .int (xs (i + 2))]) (rest := [.int _]) C hE8 dL_law_1664 mv_L_184 ct2 ckModel rfl rfl (Nat.le_of_ble_eq_true rfl) (rm_k hk2) hnR (fun r ν1 h2 => ?_)
  obtain ⟨x2, rfl, rfl, hp2⟩ := h2
  exact bw_same C dL_law_1667 (tgt := 1987) rfl (kk μ1 ν1 (hI _ _ hp1 hp2))
theorem LC_41 (K : LAWK p s m meth c b L xs G cA ad7 ad8 sg nc ns) (hi : i + 7 ≤ L) (hv : INV μ ν) (kk : ∀ μ' ν', INV μ' ν' → LW p l e s m below meth c b G cA ad7 ad8 Z nc ns 1987 i μ' ν') : LW p l e s m below meth c b G cA ad7 ad8 Z nc ns 1672 i μ ν := by
  obtain ⟨C, hE7, hE8, hX, hbl, hL, hnR⟩ := K
  have hbA : ¬ (fun q : Nat => s.heap.size ≤ q) b := Nat.not_le.mpr hbl
  obtain ⟨v, k1, k2, P1, P2, hk1, hk2, ct1, ct2, hI⟩ := (show OPL l yX7_odds cX7_odds 10 yX8_odds cX8_odds 9 [.int (xs (i + 1)), .int (xs (i + 2)), .int (xs (i + 3)), .int (xs (i + 4))] from OP_odds) μ ν hv
  refine bw_aload_n (i := 1) C dL_law_1672 rfl rfl ?_
  refine bw_arg (i := i) (k := 1) (l1 := 1) hX hbl hbA hL (by omega) C dL_law_1673 dL_law_1674 (Or.inl ⟨_, dL_law_1675, rfl, rfl⟩) dL_law_1676 dL_law_1677 rfl rfl ?_
  refine bw_arg (i := i) (k := 2) (l1 := 1) hX hbl hbA hL (by omega) C dL_law_1678 dL_law_1679 (Or.inl ⟨_, dL_law_1680, rfl, rfl⟩) dL_law_1681 dL_law_1682 rfl rfl ?_
  refine bw_arg (i := i) (k := 3) (l1 := 1) hX hbl hbA hL (by omega) C dL_law_1683 dL_law_1684 (Or.inl ⟨_, dL_law_1685, rfl, rfl⟩) dL_law_1686 dL_law_1687 rfl rfl ?_
  refine bw_arg (i := i) (k := 4) (l1 := 1) hX hbl hbA hL (by omega) C dL_law_1688 dL_law_1689 (Or.inl ⟨_, dL_law_1690, rfl, rfl⟩) dL_law_1691 dL_law_1692 rfl rfl ?_
  refine bw_c2 (X := (G, cA, ad7, sg)) (as := [.int (xs (i + 1)), .int (xs (i + 2)), .int (xs (i + 3)), .int (xs (i + 4))]) (rest := []) C hE7 dL_law_1693 mv_L_185 ct1 ckMain rfl rfl (Nat.le_of_ble_eq_true rfl) (rm_k hk1) hnR (fun r μ1 h1 => ?_)
  obtain ⟨x1, rfl, rfl, hp1⟩ := h1
  refine bw_aload_n (i := 2) C dL_law_1696 rfl rfl ?_
  refine bw_arg (i := i) (k := 1) (l1 := 1) hX hbl hbA hL (by omega) C dL_law_1697 dL_law_1698 (Or.inl ⟨_, dL_law_1699, rfl, rfl⟩) dL_law_1700 dL_law_1701 rfl rfl ?_
  refine bw_arg (i := i) (k := 2) (l1 := 1) hX hbl hbA hL (by omega) C dL_law_1702 dL_law_1703 (Or.inl ⟨_, dL_law_1704, rfl, rfl⟩) dL_law_1705 dL_law_1706 rfl rfl ?_
  refine bw_arg (i := i) (k := 3) (l1 := 1) hX hbl hbA hL (by omega) C dL_law_1707 dL_law_1708 (Or.inl ⟨_, dL_law_1709, rfl, rfl⟩) dL_law_1710 dL_law_1711 rfl rfl ?_
  refine bw_arg (i := i) (k := 4) (l1 := 1) hX hbl hbA hL (by omega) C dL_law_1712 dL_law_1713 (Or.inl ⟨_, dL_law_1714, rfl, rfl⟩) dL_law_1715 dL_law_1716 rfl rfl ?_
  refine bw_c2 (X := (G, cA, ad8, sg)) (as := [.int (xs (i + 1)), .int (xs (i + 2)), .int (xs (i + 3)), .int (xs (i + 4))]) (rest := [.long _]) C hE8 dL_law_1717 mv_L_189 ct2 ckModel rfl rfl (Nat.le_of_ble_eq_true rfl) (rm_k hk2) hnR (fun r ν1 h2 => ?_)
  obtain ⟨x2, rfl, rfl, hp2⟩ := h2
  exact bw_sameL C dL_law_1720 dL_law_1721 (tgt := 1987) rfl (kk μ1 ν1 (hI _ _ hp1 hp2))
theorem LC_42 (K : LAWK p s m meth c b L xs G cA ad7 ad8 sg nc ns) (hi : i + 7 ≤ L) (hv : INV μ ν) (kk : ∀ μ' ν', INV μ' ν' → LW p l e s m below meth c b G cA ad7 ad8 Z nc ns 1987 i μ' ν') : LW p l e s m below meth c b G cA ad7 ad8 Z nc ns 1726 i μ ν := by
  obtain ⟨C, hE7, hE8, hX, hbl, hL, hnR⟩ := K
  have hbA : ¬ (fun q : Nat => s.heap.size ≤ q) b := Nat.not_le.mpr hbl
  obtain ⟨v, k1, k2, P1, P2, hk1, hk2, ct1, ct2, hI⟩ := (show OPI l yX7_image cX7_image 1 yX8_image cX8_image 2 [] from OP_image) μ ν hv
  refine bw_aload_n (i := 1) C dL_law_1726 rfl rfl ?_
  refine bw_c2 (X := (G, cA, ad7, sg)) (as := []) (rest := []) C hE7 dL_law_1727 mv_L_190 ct1 ckMain rfl rfl (Nat.le_of_ble_eq_true rfl) (rm_k hk1) hnR (fun r μ1 h1 => ?_)
  obtain ⟨x1, rfl, rfl, hp1⟩ := h1
  refine bw_aload_n (i := 2) C dL_law_1730 rfl rfl ?_
  refine bw_c2 (X := (G, cA, ad8, sg)) (as := []) (rest := [.int _]) C hE8 dL_law_1731 mv_L_193 ct2 ckModel rfl rfl (Nat.le_of_ble_eq_true rfl) (rm_k hk2) hnR (fun r ν1 h2 => ?_)
  obtain ⟨x2, rfl, rfl, hp2⟩ := h2
  exact bw_same C dL_law_1734 (tgt := 1987) rfl (kk μ1 ν1 (hI _ _ hp1 hp2))
theorem LC_43 (K : LAWK p s m meth c b L xs G cA ad7 ad8 sg nc ns) (hi : i + 7 ≤ L) (hv : INV μ ν) (kk : ∀ μ' ν', INV μ' ν' → LW p l e s m below meth c b G cA ad7 ad8 Z nc ns 1987 i μ' ν') : LW p l e s m below meth c b G cA ad7 ad8 Z nc ns 1739 i μ ν := by
  obtain ⟨C, hE7, hE8, hX, hbl, hL, hnR⟩ := K
  have hbA : ¬ (fun q : Nat => s.heap.size ≤ q) b := Nat.not_le.mpr hbl
  obtain ⟨v, k1, k2, P1, P2, hk1, hk2, ct1, ct2, hI⟩ := (show OPI l yX7_back cX7_back 1 yX8_back cX8_back 2 [] from OP_back) μ ν hv
  refine bw_aload_n (i := 1) C dL_law_1739 rfl rfl ?_
  refine bw_c2 (X := (G, cA, ad7, sg)) (as := []) (rest := []) C hE7 dL_law_1740 mv_L_194 ct1 ckMain rfl rfl (Nat.le_of_ble_eq_true rfl) (rm_k hk1) hnR (fun r μ1 h1 => ?_)
  obtain ⟨x1, rfl, rfl, hp1⟩ := h1
  refine bw_aload_n (i := 2) C dL_law_1743 rfl rfl ?_
  refine bw_c2 (X := (G, cA, ad8, sg)) (as := []) (rest := [.int _]) C hE8 dL_law_1744 mv_L_197 ct2 ckModel rfl rfl (Nat.le_of_ble_eq_true rfl) (rm_k hk2) hnR (fun r ν1 h2 => ?_)
  obtain ⟨x2, rfl, rfl, hp2⟩ := h2
  exact bw_same C dL_law_1747 (tgt := 1987) rfl (kk μ1 ν1 (hI _ _ hp1 hp2))
theorem LC_44 (K : LAWK p s m meth c b L xs G cA ad7 ad8 sg nc ns) (hi : i + 7 ≤ L) (hv : INV μ ν) (kk : ∀ μ' ν', INV μ' ν' → LW p l e s m below meth c b G cA ad7 ad8 Z nc ns 1987 i μ' ν') : LW p l e s m below meth c b G cA ad7 ad8 Z nc ns 1752 i μ ν := by
  obtain ⟨C, hE7, hE8, hX, hbl, hL, hnR⟩ := K
  have hbA : ¬ (fun q : Nat => s.heap.size ≤ q) b := Nat.not_le.mpr hbl
  obtain ⟨v, k1, k2, P1, P2, hk1, hk2, ct1, ct2, hI⟩ := (show OPI l yX7_sheet cX7_sheet 4 yX8_sheet cX8_sheet 5 [.int (xs (i + 1)), .int (xs (i + 2)), .int (xs (i + 3))] from OP_sheet) μ ν hv
  refine bw_aload_n (i := 1) C dL_law_1752 rfl rfl ?_
  refine bw_arg (i := i) (k := 1) (l1 := 1) hX hbl hbA hL (by omega) C dL_law_1753 dL_law_1754 (Or.inl ⟨_, dL_law_1755, rfl, rfl⟩) dL_law_1756 dL_law_1757 rfl rfl ?_
  refine bw_arg (i := i) (k := 2) (l1 := 1) hX hbl hbA hL (by omega) C dL_law_1758 dL_law_1759 (Or.inl ⟨_, dL_law_1760, rfl, rfl⟩) dL_law_1761 dL_law_1762 rfl rfl ?_
  refine bw_arg (i := i) (k := 3) (l1 := 1) hX hbl hbA hL (by omega) C dL_law_1763 dL_law_1764 (Or.inl ⟨_, dL_law_1765, rfl, rfl⟩) dL_law_1766 dL_law_1767 rfl rfl ?_
  refine bw_c2 (X := (G, cA, ad7, sg)) (as := [.int (xs (i + 1)), .int (xs (i + 2)), .int (xs (i + 3))]) (rest := []) C hE7 dL_law_1768 mv_L_198 ct1 ckMain rfl rfl (Nat.le_of_ble_eq_true rfl) (rm_k hk1) hnR (fun r μ1 h1 => ?_)
  obtain ⟨x1, rfl, rfl, hp1⟩ := h1
  refine bw_aload_n (i := 2) C dL_law_1771 rfl rfl ?_
  refine bw_arg (i := i) (k := 1) (l1 := 1) hX hbl hbA hL (by omega) C dL_law_1772 dL_law_1773 (Or.inl ⟨_, dL_law_1774, rfl, rfl⟩) dL_law_1775 dL_law_1776 rfl rfl ?_
  refine bw_arg (i := i) (k := 2) (l1 := 1) hX hbl hbA hL (by omega) C dL_law_1777 dL_law_1778 (Or.inl ⟨_, dL_law_1779, rfl, rfl⟩) dL_law_1780 dL_law_1781 rfl rfl ?_
  refine bw_arg (i := i) (k := 3) (l1 := 1) hX hbl hbA hL (by omega) C dL_law_1782 dL_law_1783 (Or.inl ⟨_, dL_law_1784, rfl, rfl⟩) dL_law_1785 dL_law_1786 rfl rfl ?_
  refine bw_c2 (X := (G, cA, ad8, sg)) (as := [.int (xs (i + 1)), .int (xs (i + 2)), .int (xs (i + 3))]) (rest := [.int _]) C hE8 dL_law_1787 mv_L_201 ct2 ckModel rfl rfl (Nat.le_of_ble_eq_true rfl) (rm_k hk2) hnR (fun r ν1 h2 => ?_)
  obtain ⟨x2, rfl, rfl, hp2⟩ := h2
  exact bw_same C dL_law_1790 (tgt := 1987) rfl (kk μ1 ν1 (hI _ _ hp1 hp2))
theorem LC_45 (K : LAWK p s m meth c b L xs G cA ad7 ad8 sg nc ns) (hi : i + 7 ≤ L) (hv : INV μ ν) (kk : ∀ μ' ν', INV μ' ν' → LW p l e s m below meth c b G cA ad7 ad8 Z nc ns 1987 i μ' ν') : LW p l e s m below meth c b G cA ad7 ad8 Z nc ns 1795 i μ ν := by
  obtain ⟨C, hE7, hE8, hX, hbl, hL, hnR⟩ := K
  have hbA : ¬ (fun q : Nat => s.heap.size ≤ q) b := Nat.not_le.mpr hbl
  obtain ⟨v, k1, k2, P1, P2, hk1, hk2, ct1, ct2, hI⟩ := (show OPI l yX7_cell cX7_cell 4 yX8_cell cX8_cell 4 [.int (xs (i + 1)), .int (xs (i + 2)), .int (xs (i + 3))] from OP_cell) μ ν hv
  refine bw_aload_n (i := 1) C dL_law_1795 rfl rfl ?_
  refine bw_arg (i := i) (k := 1) (l1 := 1) hX hbl hbA hL (by omega) C dL_law_1796 dL_law_1797 (Or.inl ⟨_, dL_law_1798, rfl, rfl⟩) dL_law_1799 dL_law_1800 rfl rfl ?_
  refine bw_arg (i := i) (k := 2) (l1 := 1) hX hbl hbA hL (by omega) C dL_law_1801 dL_law_1802 (Or.inl ⟨_, dL_law_1803, rfl, rfl⟩) dL_law_1804 dL_law_1805 rfl rfl ?_
  refine bw_arg (i := i) (k := 3) (l1 := 1) hX hbl hbA hL (by omega) C dL_law_1806 dL_law_1807 (Or.inl ⟨_, dL_law_1808, rfl, rfl⟩) dL_law_1809 dL_law_1810 rfl rfl ?_
  refine bw_c2 (X := (G, cA, ad7, sg)) (as := [.int (xs (i + 1)), .int (xs (i + 2)), .int (xs (i + 3))]) (rest := []) C hE7 dL_law_1811 mv_L_202 ct1 ckMain rfl rfl (Nat.le_of_ble_eq_true rfl) (rm_k hk1) hnR (fun r μ1 h1 => ?_)
  obtain ⟨x1, rfl, rfl, hp1⟩ := h1
  refine bw_aload_n (i := 2) C dL_law_1814 rfl rfl ?_
  refine bw_arg (i := i) (k := 1) (l1 := 1) hX hbl hbA hL (by omega) C dL_law_1815 dL_law_1816 (Or.inl ⟨_, dL_law_1817, rfl, rfl⟩) dL_law_1818 dL_law_1819 rfl rfl ?_
  refine bw_arg (i := i) (k := 2) (l1 := 1) hX hbl hbA hL (by omega) C dL_law_1820 dL_law_1821 (Or.inl ⟨_, dL_law_1822, rfl, rfl⟩) dL_law_1823 dL_law_1824 rfl rfl ?_
  refine bw_arg (i := i) (k := 3) (l1 := 1) hX hbl hbA hL (by omega) C dL_law_1825 dL_law_1826 (Or.inl ⟨_, dL_law_1827, rfl, rfl⟩) dL_law_1828 dL_law_1829 rfl rfl ?_
  refine bw_c2 (X := (G, cA, ad8, sg)) (as := [.int (xs (i + 1)), .int (xs (i + 2)), .int (xs (i + 3))]) (rest := [.int _]) C hE8 dL_law_1830 mv_L_205 ct2 ckModel rfl rfl (Nat.le_of_ble_eq_true rfl) (rm_k hk2) hnR (fun r ν1 h2 => ?_)
  obtain ⟨x2, rfl, rfl, hp2⟩ := h2
  exact bw_same C dL_law_1833 (tgt := 1987) rfl (kk μ1 ν1 (hI _ _ hp1 hp2))
theorem LC_46 (K : LAWK p s m meth c b L xs G cA ad7 ad8 sg nc ns) (hi : i + 7 ≤ L) (hv : INV μ ν) (kk : ∀ μ' ν', INV μ' ν' → LW p l e s m below meth c b G cA ad7 ad8 Z nc ns 1987 i μ' ν') : LW p l e s m below meth c b G cA ad7 ad8 Z nc ns 1838 i μ ν := by
  obtain ⟨C, hE7, hE8, hX, hbl, hL, hnR⟩ := K
  have hbA : ¬ (fun q : Nat => s.heap.size ≤ q) b := Nat.not_le.mpr hbl
  obtain ⟨v, k1, k2, P1, P2, hk1, hk2, ct1, ct2, hI⟩ := (show OPI l yX7_copy cX7_copy 6 yX8_copy cX8_copy 10 [.int (xs (i + 1)), .int (xs (i + 2)), .int (xs (i + 3)), .int (xs (i + 4)), .int (xs (i + 5))] from OP_copy) μ ν hv
  refine bw_aload_n (i := 1) C dL_law_1838 rfl rfl ?_
  refine bw_arg (i := i) (k := 1) (l1 := 1) hX hbl hbA hL (by omega) C dL_law_1839 dL_law_1840 (Or.inl ⟨_, dL_law_1841, rfl, rfl⟩) dL_law_1842 dL_law_1843 rfl rfl ?_
  refine bw_arg (i := i) (k := 2) (l1 := 1) hX hbl hbA hL (by omega) C dL_law_1844 dL_law_1845 (Or.inl ⟨_, dL_law_1846, rfl, rfl⟩) dL_law_1847 dL_law_1848 rfl rfl ?_
  refine bw_arg (i := i) (k := 3) (l1 := 1) hX hbl hbA hL (by omega) C dL_law_1849 dL_law_1850 (Or.inl ⟨_, dL_law_1851, rfl, rfl⟩) dL_law_1852 dL_law_1853 rfl rfl ?_
  refine bw_arg (i := i) (k := 4) (l1 := 1) hX hbl hbA hL (by omega) C dL_law_1854 dL_law_1855 (Or.inl ⟨_, dL_law_1856, rfl, rfl⟩) dL_law_1857 dL_law_1858 rfl rfl ?_
  refine bw_arg (i := i) (k := 5) (l1 := 1) hX hbl hbA hL (by omega) C dL_law_1859 dL_law_1860 (Or.inl ⟨_, dL_law_1861, rfl, rfl⟩) dL_law_1862 dL_law_1863 rfl rfl ?_
  refine bw_c2 (X := (G, cA, ad7, sg)) (as := [.int (xs (i + 1)), .int (xs (i + 2)), .int (xs (i + 3)), .int (xs (i + 4)), .int (xs (i + 5))]) (rest := []) C hE7 dL_law_1864 mv_L_206 ct1 ckMain rfl rfl (Nat.le_of_ble_eq_true rfl) (rm_k hk1) hnR (fun r μ1 h1 => ?_)
  obtain ⟨x1, rfl, rfl, hp1⟩ := h1
  refine bw_aload_n (i := 2) C dL_law_1867 rfl rfl ?_
  refine bw_arg (i := i) (k := 1) (l1 := 1) hX hbl hbA hL (by omega) C dL_law_1868 dL_law_1869 (Or.inl ⟨_, dL_law_1870, rfl, rfl⟩) dL_law_1871 dL_law_1872 rfl rfl ?_
  refine bw_arg (i := i) (k := 2) (l1 := 1) hX hbl hbA hL (by omega) C dL_law_1873 dL_law_1874 (Or.inl ⟨_, dL_law_1875, rfl, rfl⟩) dL_law_1876 dL_law_1877 rfl rfl ?_
  refine bw_arg (i := i) (k := 3) (l1 := 1) hX hbl hbA hL (by omega) C dL_law_1878 dL_law_1879 (Or.inl ⟨_, dL_law_1880, rfl, rfl⟩) dL_law_1881 dL_law_1882 rfl rfl ?_
  refine bw_arg (i := i) (k := 4) (l1 := 1) hX hbl hbA hL (by omega) C dL_law_1883 dL_law_1884 (Or.inl ⟨_, dL_law_1885, rfl, rfl⟩) dL_law_1886 dL_law_1887 rfl rfl ?_
  refine bw_arg (i := i) (k := 5) (l1 := 1) hX hbl hbA hL (by omega) C dL_law_1888 dL_law_1889 (Or.inl ⟨_, dL_law_1890, rfl, rfl⟩) dL_law_1891 dL_law_1892 rfl rfl ?_
  refine bw_c2 (X := (G, cA, ad8, sg)) (as := [.int (xs (i + 1)), .int (xs (i + 2)), .int (xs (i + 3)), .int (xs (i + 4)), .int (xs (i + 5))]) (rest := [.int _]) C hE8 dL_law_1893 mv_L_210 ct2 ckModel rfl rfl (Nat.le_of_ble_eq_true rfl) (rm_k hk2) hnR (fun r ν1 h2 => ?_)
  obtain ⟨x2, rfl, rfl, hp2⟩ := h2
  exact bw_same C dL_law_1896 (tgt := 1987) rfl (kk μ1 ν1 (hI _ _ hp1 hp2))
theorem LC_47 (K : LAWK p s m meth c b L xs G cA ad7 ad8 sg nc ns) (hi : i + 7 ≤ L) (hv : INV μ ν) (kk : ∀ μ' ν', INV μ' ν' → LW p l e s m below meth c b G cA ad7 ad8 Z nc ns 1987 i μ' ν') : LW p l e s m below meth c b G cA ad7 ad8 Z nc ns 1901 i μ ν := by
  obtain ⟨C, hE7, hE8, hX, hbl, hL, hnR⟩ := K
  have hbA : ¬ (fun q : Nat => s.heap.size ≤ q) b := Nat.not_le.mpr hbl
  obtain ⟨v, k1, k2, P1, P2, hk1, hk2, ct1, ct2, hI⟩ := (show OPI l yX7_jokesBy cX7_jokesBy 8 yX8_jokesBy cX8_jokesBy 9 [.int (xs (i + 1)), .int (xs (i + 2)), .int (xs (i + 3)), .int (xs (i + 4))] from OP_jokesBy) μ ν hv
  refine bw_aload_n (i := 1) C dL_law_1901 rfl rfl ?_
  refine bw_arg (i := i) (k := 1) (l1 := 1) hX hbl hbA hL (by omega) C dL_law_1902 dL_law_1903 (Or.inl ⟨_, dL_law_1904, rfl, rfl⟩) dL_law_1905 dL_law_1906 rfl rfl ?_
  refine bw_arg (i := i) (k := 2) (l1 := 1) hX hbl hbA hL (by omega) C dL_law_1907 dL_law_1908 (Or.inl ⟨_, dL_law_1909, rfl, rfl⟩) dL_law_1910 dL_law_1911 rfl rfl ?_
  refine bw_arg (i := i) (k := 3) (l1 := 1) hX hbl hbA hL (by omega) C dL_law_1912 dL_law_1913 (Or.inl ⟨_, dL_law_1914, rfl, rfl⟩) dL_law_1915 dL_law_1916 rfl rfl ?_
  refine bw_arg (i := i) (k := 4) (l1 := 1) hX hbl hbA hL (by omega) C dL_law_1917 dL_law_1918 (Or.inl ⟨_, dL_law_1919, rfl, rfl⟩) dL_law_1920 dL_law_1921 rfl rfl ?_
  refine bw_c2 (X := (G, cA, ad7, sg)) (as := [.int (xs (i + 1)), .int (xs (i + 2)), .int (xs (i + 3)), .int (xs (i + 4))]) (rest := []) C hE7 dL_law_1922 mv_L_211 ct1 ckMain rfl rfl (Nat.le_of_ble_eq_true rfl) (rm_k hk1) hnR (fun r μ1 h1 => ?_)
  obtain ⟨x1, rfl, rfl, hp1⟩ := h1
  refine bw_aload_n (i := 2) C dL_law_1925 rfl rfl ?_
  refine bw_arg (i := i) (k := 1) (l1 := 1) hX hbl hbA hL (by omega) C dL_law_1926 dL_law_1927 (Or.inl ⟨_, dL_law_1928, rfl, rfl⟩) dL_law_1929 dL_law_1930 rfl rfl ?_
  refine bw_arg (i := i) (k := 2) (l1 := 1) hX hbl hbA hL (by omega) C dL_law_1931 dL_law_1932 (Or.inl ⟨_, dL_law_1933, rfl, rfl⟩) dL_law_1934 dL_law_1935 rfl rfl ?_
  refine bw_arg (i := i) (k := 3) (l1 := 1) hX hbl hbA hL (by omega) C dL_law_1936 dL_law_1937 (Or.inl ⟨_, dL_law_1938, rfl, rfl⟩) dL_law_1939 dL_law_1940 rfl rfl ?_
  refine bw_arg (i := i) (k := 4) (l1 := 1) hX hbl hbA hL (by omega) C dL_law_1941 dL_law_1942 (Or.inl ⟨_, dL_law_1943, rfl, rfl⟩) dL_law_1944 dL_law_1945 rfl rfl ?_
  refine bw_c2 (X := (G, cA, ad8, sg)) (as := [.int (xs (i + 1)), .int (xs (i + 2)), .int (xs (i + 3)), .int (xs (i + 4))]) (rest := [.int _]) C hE8 dL_law_1946 mv_L_214 ct2 ckModel rfl rfl (Nat.le_of_ble_eq_true rfl) (rm_k hk2) hnR (fun r ν1 h2 => ?_)
  obtain ⟨x2, rfl, rfl, hp2⟩ := h2
  exact bw_same C dL_law_1949 (tgt := 1987) rfl (kk μ1 ν1 (hI _ _ hp1 hp2))
theorem LC_48 (K : LAWK p s m meth c b L xs G cA ad7 ad8 sg nc ns) (hi : i + 7 ≤ L) (hv : INV μ ν) (kk : ∀ μ' ν', INV μ' ν' → LW p l e s m below meth c b G cA ad7 ad8 Z nc ns 1987 i μ' ν') : LW p l e s m below meth c b G cA ad7 ad8 Z nc ns 1954 i μ ν := by
  obtain ⟨C, hE7, hE8, hX, hbl, hL, hnR⟩ := K
  have hbA : ¬ (fun q : Nat => s.heap.size ≤ q) b := Nat.not_le.mpr hbl
  obtain ⟨v, k1, k2, P1, P2, hk1, hk2, ct1, ct2, hI⟩ := (show OPI l yX7_taken cX7_taken 3 yX8_taken cX8_taken 3 [.int (xs (i + 1)), .int (xs (i + 2))] from OP_taken) μ ν hv
  refine bw_aload_n (i := 1) C dL_law_1954 rfl rfl ?_
  refine bw_arg (i := i) (k := 1) (l1 := 1) hX hbl hbA hL (by omega) C dL_law_1955 dL_law_1956 (Or.inl ⟨_, dL_law_1957, rfl, rfl⟩) dL_law_1958 dL_law_1959 rfl rfl ?_
  refine bw_arg (i := i) (k := 2) (l1 := 1) hX hbl hbA hL (by omega) C dL_law_1960 dL_law_1961 (Or.inl ⟨_, dL_law_1962, rfl, rfl⟩) dL_law_1963 dL_law_1964 rfl rfl ?_
  refine bw_c2 (X := (G, cA, ad7, sg)) (as := [.int (xs (i + 1)), .int (xs (i + 2))]) (rest := []) C hE7 dL_law_1965 mv_L_215 ct1 ckMain rfl rfl (Nat.le_of_ble_eq_true rfl) (rm_k hk1) hnR (fun r μ1 h1 => ?_)
  obtain ⟨x1, rfl, rfl, hp1⟩ := h1
  refine bw_aload_n (i := 2) C dL_law_1968 rfl rfl ?_
  refine bw_arg (i := i) (k := 1) (l1 := 1) hX hbl hbA hL (by omega) C dL_law_1969 dL_law_1970 (Or.inl ⟨_, dL_law_1971, rfl, rfl⟩) dL_law_1972 dL_law_1973 rfl rfl ?_
  refine bw_arg (i := i) (k := 2) (l1 := 1) hX hbl hbA hL (by omega) C dL_law_1974 dL_law_1975 (Or.inl ⟨_, dL_law_1976, rfl, rfl⟩) dL_law_1977 dL_law_1978 rfl rfl ?_
  refine bw_c2 (X := (G, cA, ad8, sg)) (as := [.int (xs (i + 1)), .int (xs (i + 2))]) (rest := [.int _]) C hE8 dL_law_1979 mv_L_218 ct2 ckModel rfl rfl (Nat.le_of_ble_eq_true rfl) (rm_k hk2) hnR (fun r ν1 h2 => ?_)
  obtain ⟨x2, rfl, rfl, hp2⟩ := h2
  exact bw_same C dL_law_1982 (tgt := 1987) rfl (kk μ1 ν1 (hI _ _ hp1 hp2))
end CASES
