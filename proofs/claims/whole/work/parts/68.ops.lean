/-! ONE CALL ON BOTH, of what only reads -/
theorem OP_asks {l : Launch} {p t h mo : Int32} : OPI l yX7_asks cX7_asks 5 yX8_asks cX8_asks 5 [.int p, .int t, .int h, .int mo] := by
  rintro μ ν ⟨μ0, V, nm, sk, ν0, U, nm2, sk2, st, rfl, rfl, r⟩
  obtain ⟨nj, nh, hA, hB, hT, hW, hS, hI⟩ := id r
  have e := hA.2.2.2.2.1
  refine ⟨asksF (bk μ0) V p t h mo, 5, 4, PC μ0 V, PN ν0 U, by decide, by decide, ?_, ?_, fun a b => INV_of r⟩
  · exact CT.mono (T_X7_asks (hc := r.okC) (h5 := hA.2.2.1) (hh6 := hA.2.2.2.1)) (QI.mono fun x m h => ⟨h.1, pc_b h.2⟩)
  · exact CT.mono (T_X8_asks (hL := r.okL) (h5 := hA.u5) (hh6 := hA.2.2.2.1)) (QI.mono fun x m h => ⟨h.1.trans (asksF_c e hA.u5 hA.2.2.2.1 _ _ _ _).symm, pn_b h.2⟩)
theorem OP_told {l : Launch} {j what : Int32} : OPI l yX7_told cX7_told 3 yX8_told cX8_told 3 [.int j, .int what] := by
  rintro μ ν ⟨μ0, V, nm, sk, ν0, U, nm2, sk2, st, rfl, rfl, r⟩
  obtain ⟨nj, nh, hA, hB, hT, hW, hS, hI⟩ := id r
  have e := hA.2.2.2.2.1
  refine ⟨toldF V j what, 3, 3, PC μ0 V, PN ν0 U, by decide, by decide, ?_, ?_, fun a b => INV_of r⟩
  · exact CT.mono (T_X7_told (h1 := hA.1) (hj5 := hA.2.1)) (QI.mono fun x m h => ⟨h.1, pc_a h.2⟩)
  · exact CT.mono (T_X8_told (h1 := hA.u1) (hj5 := hA.2.1)) (QI.mono fun x m h => ⟨h.1.trans (toldF_c e hA.u1 hA.2.1 _ _).symm, pn_a h.2⟩)
theorem OP_of {l : Launch} {h what : Int32} : OPI l yX7_of cX7_of 3 yX8_of cX8_of 3 [.int h, .int what] := by
  rintro μ ν ⟨μ0, V, nm, sk, ν0, U, nm2, sk2, st, rfl, rfl, r⟩
  obtain ⟨nj, nh, hA, hB, hT, hW, hS, hI⟩ := id r
  have e := hA.2.2.2.2.1
  refine ⟨ofF V h what, 3, 3, PC μ0 V, PN ν0 U, by decide, by decide, ?_, ?_, fun a b => INV_of r⟩
  · exact CT.mono (T_X7_of (h5 := hA.2.2.1) (hh6 := hA.2.2.2.1)) (QI.mono fun x m h => ⟨h.1, pc_a h.2⟩)
  · exact CT.mono (T_X8_of (h5 := hA.u5) (hh6 := hA.2.2.2.1)) (QI.mono fun x m h => ⟨h.1.trans (ofF_c e hA.u5 hA.2.2.2.1 _ _).symm, pn_a h.2⟩)
theorem OP_yields {l : Launch} {j h : Int32} : OPI l yX7_yields cX7_yields 4 yX8_yields cX8_yields 3 [.int j, .int h] := by
  rintro μ ν ⟨μ0, V, nm, sk, ν0, U, nm2, sk2, st, rfl, rfl, r⟩
  obtain ⟨nj, nh, hA, hB, hT, hW, hS, hI⟩ := id r
  have e := hA.2.2.2.2.1
  refine ⟨yieldsF (bk μ0) V j h, 6, 5, PC μ0 V, PN ν0 U, by decide, by decide, ?_, ?_, fun a b => INV_of r⟩
  · exact CT.mono (T_X7_yields (hc := r.okC) (h1 := hA.1) (hj5 := hA.2.1) (h5 := hA.2.2.1) (hh6 := hA.2.2.2.1)) (QI.mono fun x m h => ⟨h.1, pc_b h.2⟩)
  · exact CT.mono (T_X8_yields (hL := r.okL) (h1 := hA.u1) (hj5 := hA.2.1) (h5 := hA.u5) (hh6 := hA.2.2.2.1)) (QI.mono fun x m h => ⟨h.1.trans (yieldsF_c e hA.u1 hA.2.1 hA.u5 hA.2.2.2.1 _ _).symm, pn_b h.2⟩)
theorem OP_fades {l : Launch} {h : Int32} : OPI l yX7_fades cX7_fades 2 yX8_fades cX8_fades 2 [.int h] := by
  rintro μ ν ⟨μ0, V, nm, sk, ν0, U, nm2, sk2, st, rfl, rfl, r⟩
  obtain ⟨nj, nh, hA, hB, hT, hW, hS, hI⟩ := id r
  have e := hA.2.2.2.2.1
  refine ⟨fadesF (bk μ0) V h, 6, 5, PC μ0 V, PN ν0 U, by decide, by decide, ?_, ?_, fun a b => INV_of r⟩
  · exact CT.mono (T_X7_fades (hc := r.okC) (h5 := hA.2.2.1) (hh6 := hA.2.2.2.1)) (QI.mono fun x m h => ⟨h.1, pc_b h.2⟩)
  · exact CT.mono (T_X8_fades (hL := r.okL) (h5 := hA.u5) (hh6 := hA.2.2.2.1)) (QI.mono fun x m h => ⟨h.1.trans (fadesF_c e hA.u5 hA.2.2.2.1 _).symm, pn_b h.2⟩)
theorem OP_mine {l : Launch} {j h mu : Int32} : OPI l yX7_mine cX7_mine 6 yX8_mine cX8_mine 6 [.int j, .int h, .int mu] := by
  rintro μ ν ⟨μ0, V, nm, sk, ν0, U, nm2, sk2, st, rfl, rfl, r⟩
  obtain ⟨nj, nh, hA, hB, hT, hW, hS, hI⟩ := id r
  have e := hA.2.2.2.2.1
  refine ⟨mineF (bk μ0) V j h mu, 7, 6, PC μ0 V, PN ν0 U, by decide, by decide, ?_, ?_, fun a b => INV_of r⟩
  · rw [m32]
    exact CT.mono (T_X7_mine (hc := r.okC) (h1 := hA.1) (hj5 := hA.2.1) (h5 := hA.2.2.1) (hh6 := hA.2.2.2.1)) (QI.mono fun x m h => ⟨h.1, pc_c h.2⟩)
  · exact CT.mono (T_X8_mine (hL := r.okL) (h1 := hA.u1) (hj5 := hA.2.1) (h5 := hA.u5) (hh6 := hA.2.2.2.1) (hpw := hA.pw)) (QI.mono fun x m h => ⟨h.1.trans (mineF_c e hA.u1 hA.2.1 hA.u5 hA.2.2.2.1 _ _ _).symm, pn_c h.2⟩)
theorem OP_round {l : Launch} {wh : Int32} : OPI l yX7_round cX7_round 6 yX8_round cX8_round 6 [.int wh] := by
  rintro μ ν ⟨μ0, V, nm, sk, ν0, U, nm2, sk2, st, rfl, rfl, r⟩
  obtain ⟨nj, nh, hA, hB, hT, hW, hS, hI⟩ := id r
  have e := hA.2.2.2.2.1
  refine ⟨roundF (bk μ0) V nj nh wh, 8, 7, PC μ0 V, PN ν0 U, by decide, by decide, ?_, ?_, fun a b => INV_of r⟩
  · rw [m32]
    exact CT.mono (T_X7_round (hc := r.okC) (h1 := hA.1) (hj5 := hA.2.1) (h5 := hA.2.2.1) (hh6 := hA.2.2.2.1)) (QI.mono fun x m h => ⟨h.1, pc_c h.2⟩)
  · exact CT.mono (T_X8_round (hL := r.okL) (h1 := hA.u1) (hj5 := hA.2.1) (h5 := hA.u5) (hh6 := hA.2.2.2.1) (hpw := hA.pw)) (QI.mono fun x m h => ⟨h.1.trans (roundF_c e _).symm, pn_c h.2⟩)
theorem OP_last {l : Launch} {j : Int32} : OPI l yX7_last cX7_last 6 yX8_last cX8_last 7 [.int j] := by
  rintro μ ν ⟨μ0, V, nm, sk, ν0, U, nm2, sk2, st, rfl, rfl, r⟩
  obtain ⟨nj, nh, hA, hB, hT, hW, hS, hI⟩ := id r
  have e := hA.2.2.2.2.1
  refine ⟨lastF (bk μ0) V nh j, 8, 7, PC μ0 V, PN ν0 U, by decide, by decide, ?_, ?_, fun a b => INV_of r⟩
  · rw [m32]
    exact CT.mono (T_X7_last (hc := r.okC) (h1 := hA.1) (hj5 := hA.2.1) (h5 := hA.2.2.1) (hh6 := hA.2.2.2.1)) (QI.mono fun x m h => ⟨h.1, pc_c h.2⟩)
  · exact CT.mono (T_X8_last (hL := r.okL) (h1 := hA.u1) (hj5 := hA.2.1) (h5 := hA.u5) (hh6 := hA.2.2.2.1) (hpw := hA.pw)) (QI.mono fun x m h => ⟨h.1.trans (lastF_c e hA.u1 hA.2.1 _).symm, pn_c h.2⟩)
theorem OP_greedy {l : Launch} {n wh : Int32} : OPI l yX7_greedy cX7_greedy 7 yX8_greedy cX8_greedy 6 [.int n, .int wh] := by
  rintro μ ν ⟨μ0, V, nm, sk, ν0, U, nm2, sk2, st, rfl, rfl, r⟩
  obtain ⟨nj, nh, hA, hB, hT, hW, hS, hI⟩ := id r
  have e := hA.2.2.2.2.1
  refine ⟨greedyF (bk μ0) V nj nh n wh, 7, 7, PC μ0 V, PN ν0 U, by decide, by decide, ?_, ?_, fun a b => INV_of r⟩
  · rw [m32]
    exact CT.mono (T_X7_greedy (hc := r.okC) (h1 := hA.1) (hj5 := hA.2.1) (h5 := hA.2.2.1) (hh6 := hA.2.2.2.1)) (QI.mono fun x m h => ⟨h.1, pc_c h.2⟩)
  · exact CT.mono (T_X8_greedy (hL := r.okL) (h1 := hA.u1) (hj5 := hA.2.1) (h5 := hA.u5) (hh6 := hA.2.2.2.1) (hpw := hA.pw)) (QI.mono fun x m h => ⟨h.1.trans (greedyF_c e _ _).symm, pn_c h.2⟩)
theorem OP_caught {l : Launch} {fi mi : Int32} : OPI l yX7_caught cX7_caught 5 yX8_caught cX8_caught 5 [.int fi, .int mi] := by
  rintro μ ν ⟨μ0, V, nm, sk, ν0, U, nm2, sk2, st, rfl, rfl, r⟩
  obtain ⟨nj, nh, hA, hB, hT, hW, hS, hI⟩ := id r
  have e := hA.2.2.2.2.1
  refine ⟨caughtF V nh fi mi, 3, 3, PC μ0 V, PN ν0 U, by decide, by decide, ?_, ?_, fun a b => INV_of r⟩
  · exact CT.mono (T_X7_caught (h5 := hA.2.2.1) (hh6 := hA.2.2.2.1)) (QI.mono fun x m h => ⟨h.1, pc_a h.2⟩)
  · exact CT.mono (T_X8_caught (hn := hA.u5) (hn6 := hA.2.2.2.1)) (QI.mono fun x m h => ⟨h.1.trans (caughtF_c e _ _).symm, pn_a h.2⟩)
theorem OP_panic {l : Launch} {fi wh : Int32} : OPI l yX7_panic cX7_panic 3 yX8_panic cX8_panic 4 [.int fi, .int wh] := by
  rintro μ ν ⟨μ0, V, nm, sk, ν0, U, nm2, sk2, st, rfl, rfl, r⟩
  obtain ⟨nj, nh, hA, hB, hT, hW, hS, hI⟩ := id r
  have e := hA.2.2.2.2.1
  refine ⟨panicF V nh fi wh, 4, 4, PC μ0 V, PN ν0 U, by decide, by decide, ?_, ?_, fun a b => INV_of r⟩
  · exact CT.mono (T_X7_panic (h5 := hA.2.2.1) (hh6 := hA.2.2.2.1)) (QI.mono fun x m h => ⟨h.1, pc_a h.2⟩)
  · exact CT.mono (T_X8_panic (hn := hA.u5) (hn6 := hA.2.2.2.1)) (QI.mono fun x m h => ⟨h.1.trans (panicF_c e _ _).symm, pn_s h.2⟩)
theorem OP_seeds {l : Launch} {wh : Int32} : OPI l yX7_seeds cX7_seeds 5 yX8_seeds cX8_seeds 5 [.int wh] := by
  rintro μ ν ⟨μ0, V, nm, sk, ν0, U, nm2, sk2, st, rfl, rfl, r⟩
  obtain ⟨nj, nh, hA, hB, hT, hW, hS, hI⟩ := id r
  have e := hA.2.2.2.2.1
  refine ⟨seedsF V nh wh, 4, 4, PC μ0 V, PN ν0 U, by decide, by decide, ?_, ?_, fun a b => INV_of r⟩
  · exact CT.mono (T_X7_seeds (h5 := hA.2.2.1) (hh6 := hA.2.2.2.1)) (QI.mono fun x m h => ⟨h.1, pc_a h.2⟩)
  · exact CT.mono (T_X8_seeds (hn := hA.u5) (hn6 := hA.2.2.2.1)) (QI.mono fun x m h => ⟨h.1.trans (seedsF_c e _).symm, pn_s h.2⟩)
theorem OP_stop {l : Launch} {fi ma : Int32} : OPI l yX7_stop cX7_stop 7 yX8_stop cX8_stop 6 [.int fi, .int ma] := by
  rintro μ ν ⟨μ0, V, nm, sk, ν0, U, nm2, sk2, st, rfl, rfl, r⟩
  obtain ⟨nj, nh, hA, hB, hT, hW, hS, hI⟩ := id r
  have e := hA.2.2.2.2.1
  refine ⟨stopF V nh fi ma, 4, 4, PC μ0 V, PN ν0 U, by decide, by decide, ?_, ?_, fun a b => INV_of r⟩
  · exact CT.mono (T_X7_stop (h5 := hA.2.2.1) (hh6 := hA.2.2.2.1)) (QI.mono fun x m h => ⟨h.1, pc_a h.2⟩)
  · exact CT.mono (T_X8_stop (hn := hA.u5) (hn6 := hA.2.2.2.1)) (QI.mono fun x m h => ⟨h.1.trans (stopF_c e _ _).symm, pn_s h.2⟩)
theorem OP_spread {l : Launch} {j fi da : Int32} : OPI l yX7_spread cX7_spread 4 yX8_spread cX8_spread 4 [.int j, .int fi, .int da] := by
  rintro μ ν ⟨μ0, V, nm, sk, ν0, U, nm2, sk2, st, rfl, rfl, r⟩
  obtain ⟨nj, nh, hA, hB, hT, hW, hS, hI⟩ := id r
  have e := hA.2.2.2.2.1
  refine ⟨spreadF V nh j fi da, 4, 4, PC μ0 V, PN ν0 U, by decide, by decide, ?_, ?_, fun a b => INV_of r⟩
  · exact CT.mono (T_X7_spread (h1 := hA.1) (hj5 := hA.2.1) (h5 := hA.2.2.1) (hh6 := hA.2.2.2.1)) (QI.mono fun x m h => ⟨h.1, pc_a h.2⟩)
  · exact CT.mono (T_X8_spread (h1 := hA.u1) (hj5 := hA.2.1) (h5 := hA.u5) (hh6 := hA.2.2.2.1)) (QI.mono fun x m h => ⟨h.1.trans (spreadF_c e hA.u1 hA.2.1 _ _ _).symm, pn_a h.2⟩)
theorem OP_through {l : Launch} {j h : Int32} : OPI l yX7_through cX7_through 5 yX8_through cX8_through 4 [.int j, .int h] := by
  rintro μ ν ⟨μ0, V, nm, sk, ν0, U, nm2, sk2, st, rfl, rfl, r⟩
  obtain ⟨nj, nh, hA, hB, hT, hW, hS, hI⟩ := id r
  have e := hA.2.2.2.2.1
  refine ⟨throughF V nh j h, 4, 4, PC μ0 V, PN ν0 U, by decide, by decide, ?_, ?_, fun a b => INV_of r⟩
  · exact CT.mono (T_X7_through (h1 := hA.1) (hj5 := hA.2.1) (h5 := hA.2.2.1) (hh6 := hA.2.2.2.1)) (QI.mono fun x m h => ⟨h.1, pc_a h.2⟩)
  · exact CT.mono (T_X8_through (h1 := hA.u1) (hj5 := hA.2.1) (h5 := hA.u5) (hh6 := hA.2.2.2.1)) (QI.mono fun x m h => ⟨h.1.trans (throughF_c e hA.u1 hA.2.1 hA.u5 hA.2.2.2.1 _ _).symm, pn_a h.2⟩)
theorem OP_origin {l : Launch} {j ha da : Int32} : OPI l yX7_origin cX7_origin 6 yX8_origin cX8_origin 6 [.int j, .int ha, .int da] := by
  rintro μ ν ⟨μ0, V, nm, sk, ν0, U, nm2, sk2, st, rfl, rfl, r⟩
  obtain ⟨nj, nh, hA, hB, hT, hW, hS, hI⟩ := id r
  have e := hA.2.2.2.2.1
  refine ⟨originF V nh j ha da, 4, 4, PC μ0 V, PN ν0 U, by decide, by decide, ?_, ?_, fun a b => INV_of r⟩
  · exact CT.mono (T_X7_origin (h1 := hA.1) (hj5 := hA.2.1) (h5 := hA.2.2.1) (hh6 := hA.2.2.2.1)) (QI.mono fun x m h => ⟨h.1, pc_a h.2⟩)
  · exact CT.mono (T_X8_origin (h1 := hA.u1) (hj5 := hA.2.1) (h5 := hA.u5) (hh6 := hA.2.2.2.1)) (QI.mono fun x m h => ⟨h.1.trans (originF_c e hA.u1 hA.2.1 _ _ _).symm, pn_a h.2⟩)
theorem OP_furthest {l : Launch} {j da wh : Int32} : OPI l yX7_furthest cX7_furthest 8 yX8_furthest cX8_furthest 8 [.int j, .int da, .int wh] := by
  rintro μ ν ⟨μ0, V, nm, sk, ν0, U, nm2, sk2, st, rfl, rfl, r⟩
  obtain ⟨nj, nh, hA, hB, hT, hW, hS, hI⟩ := id r
  have e := hA.2.2.2.2.1
  refine ⟨furF V nh j da wh, 4, 4, PC μ0 V, PN ν0 U, by decide, by decide, ?_, ?_, fun a b => INV_of r⟩
  · exact CT.mono (T_X7_furthest (h1 := hA.1) (hj5 := hA.2.1) (h5 := hA.2.2.1) (hh6 := hA.2.2.2.1)) (QI.mono fun x m h => ⟨h.1, pc_a h.2⟩)
  · exact CT.mono (T_X8_furthest (h1 := hA.u1) (hj5 := hA.2.1) (h5 := hA.u5) (hh6 := hA.2.2.2.1)) (QI.mono fun x m h => ⟨h.1.trans (furF_c e hA.u1 hA.2.1 _ _ _).symm, pn_a h.2⟩)
theorem OP_change {l : Launch} {a b mu : Int32} : OPL l yX7_change cX7_change 4 yX8_change cX8_change 4 [.int a, .int b, .int mu] := by
  rintro μ ν ⟨μ0, V, nm, sk, ν0, U, nm2, sk2, st, rfl, rfl, r⟩
  obtain ⟨nj, nh, hA, hB, hT, hW, hS, hI⟩ := id r
  have e := hA.2.2.2.2.1
  refine ⟨changeF V a b mu, 3, 3, PC μ0 V, PN ν0 U, by decide, by decide, ?_, ?_, fun a b => INV_of r⟩
  · exact CT.mono (T_X7_change ) (QL.mono fun x m h => ⟨h.1, pc_a h.2⟩)
  · exact CT.mono (T_X8_change ) (QL.mono fun x m h => ⟨h.1.trans (changeF_c hA.2.2.2.2.2.1 _ _ _).symm, pn_a h.2⟩)
theorem OP_drawn {l : Launch} {sd n : Int32} : OPI l yX7_drawn cX7_drawn 3 yX8_drawn cX8_drawn 3 [.int sd, .int n] := by
  rintro μ ν ⟨μ0, V, nm, sk, ν0, U, nm2, sk2, st, rfl, rfl, r⟩
  obtain ⟨nj, nh, hA, hB, hT, hW, hS, hI⟩ := id r
  have e := hA.2.2.2.2.1
  refine ⟨drawnF (bk μ0) V nj nh sd n, 8, 7, PC μ0 V, PN ν0 U, by decide, by decide, ?_, ?_, fun a b => INV_of r⟩
  · rw [m32]
    exact CT.mono (T_X7_drawn (hc := r.okC) (h1 := hA.1) (hj5 := hA.2.1) (h5 := hA.2.2.1) (hh6 := hA.2.2.2.1)) (QI.mono fun x m h => ⟨h.1, pc_c h.2⟩)
  · exact CT.mono (T_X8_drawn (hL := r.okL) (h1 := hA.u1) (hj5 := hA.2.1) (h5 := hA.u5) (hh6 := hA.2.2.2.1) (hpw := hA.pw)) (QI.mono fun x m h => ⟨h.1.trans (drawnF_c e _ _).symm, pn_c h.2⟩)
theorem OP_odds {l : Launch} {sd ms mu pa : Int32} : OPL l yX7_odds cX7_odds 10 yX8_odds cX8_odds 9 [.int sd, .int ms, .int mu, .int pa] := by
  rintro μ ν ⟨μ0, V, nm, sk, ν0, U, nm2, sk2, st, rfl, rfl, r⟩
  obtain ⟨nj, nh, hA, hB, hT, hW, hS, hI⟩ := id r
  have e := hA.2.2.2.2.1
  refine ⟨oddsF (bk μ0) V nj nh sd ms mu pa, 8, 7, PC μ0 V, PN ν0 U, by decide, by decide, ?_, ?_, fun a b => INV_of r⟩
  · rw [m32]
    exact CT.mono (T_X7_odds (hc := r.okC) (h1 := hA.1) (hj5 := hA.2.1) (h5 := hA.2.2.1) (hh6 := hA.2.2.2.1)) (QL.mono fun x m h => ⟨h.1, pc_c h.2⟩)
  · exact CT.mono (T_X8_odds (hL := r.okL) (h1 := hA.u1) (hj5 := hA.2.1) (h5 := hA.u5) (hh6 := hA.2.2.2.1) (hpw := hA.pw)) (QL.mono fun x m h => ⟨h.1.trans (oddsF_c e _ _ _ _).symm, pn_c h.2⟩)
theorem OP_judge {l : Launch} {s h : Int32} : OPI l yX7_judge cX7_judge 4 yX8_judge cX8_judge 4 [.int s, .int h] := by
  rintro μ ν ⟨μ0, V, nm, sk, ν0, U, nm2, sk2, st, rfl, rfl, r⟩
  obtain ⟨nj, nh, hA, hB, hT, hW, hS, hI⟩ := id r
  have e := hA.2.2.2.2.1
  refine ⟨judgeF (bk μ0) V (ν0.1 10) (ν0.1 11) (ν0.1 12) nj s h, 7, 6, PC μ0 V, PN ν0 U, by decide, by decide, ?_, ?_, fun a b => INV_of r⟩
  · exact CT.mono (T_X7_judge (hc := r.okC) (h1 := hA.1) (hj5 := hA.2.1) (h5 := hA.2.2.1) (hh6 := hA.2.2.2.1)) (QI.mono fun x m h => ⟨(by rw [← hS.1, ← hS.2.1, ← hS.2.2.1]; exact h.1), pc_b h.2⟩)
  · exact CT.mono (T_X8_judge (hL := r.okL) (h1 := hA.u1) (hj5 := hA.2.1) (h5 := hA.u5) (hh6 := hA.2.2.2.1)) (QI.mono fun x m h => ⟨h.1.trans (judgeF_c e hA.u5 hA.2.2.2.1 _ _ _ _ _).symm, pn_b h.2⟩)
theorem OP_whose {l : Launch} {s : Int32} : OPI l yX7_whose cX7_whose 5 yX8_whose cX8_whose 5 [.int s] := by
  rintro μ ν ⟨μ0, V, nm, sk, ν0, U, nm2, sk2, st, rfl, rfl, r⟩
  obtain ⟨nj, nh, hA, hB, hT, hW, hS, hI⟩ := id r
  have e := hA.2.2.2.2.1
  refine ⟨whoseF (bk μ0) V (ν0.1 10) (ν0.1 11) (ν0.1 12) nj nh s, 7, 6, PC μ0 V, PN ν0 U, by decide, by decide, ?_, ?_, fun a b => INV_of r⟩
  · exact CT.mono (T_X7_whose (hc := r.okC) (h1 := hA.1) (hj5 := hA.2.1) (h5 := hA.2.2.1) (hh6 := hA.2.2.2.1)) (QI.mono fun x m h => ⟨(by rw [← hS.1, ← hS.2.1, ← hS.2.2.1]; exact h.1), pc_b h.2⟩)
  · exact CT.mono (T_X8_whose (hL := r.okL) (h1 := hA.u1) (hj5 := hA.2.1) (h5 := hA.u5) (hh6 := hA.2.2.2.1)) (QI.mono fun x m h => ⟨h.1.trans (whoseF_c e _ _ _ _).symm, pn_b h.2⟩)
theorem OP_humours {l : Launch} {s h : Int32} : OPI l yX7_humours cX7_humours 6 yX8_humours cX8_humours 7 [.int s, .int h] := by
  rintro μ ν ⟨μ0, V, nm, sk, ν0, U, nm2, sk2, st, rfl, rfl, r⟩
  obtain ⟨nj, nh, hA, hB, hT, hW, hS, hI⟩ := id r
  have e := hA.2.2.2.2.1
  refine ⟨humF (bk μ0) V (ν0.1 10) (ν0.1 11) (ν0.1 12) nj s h, 8, 6, PC μ0 V, PN ν0 U, by decide, by decide, ?_, ?_, fun a b => INV_of r⟩
  · rw [m32]
    exact CT.mono (T_X7_humours (hc := r.okC) (h1 := hA.1) (hj5 := hA.2.1) (h5 := hA.2.2.1) (hh6 := hA.2.2.2.1)) (QI.mono fun x m h => ⟨(by rw [← hS.1, ← hS.2.1, ← hS.2.2.1]; exact h.1), pc_c h.2⟩)
  · exact CT.mono (T_X8_humours (hL := r.okL) (h1 := hA.u1) (hj5 := hA.2.1) (h5 := hA.u5) (hh6 := hA.2.2.2.1)) (QI.mono fun x m h => ⟨h.1.trans (humF_c e hA.u5 hA.2.2.2.1 _ _ _ _ _).symm, pn_b h.2⟩)
theorem OP_kinds {l : Launch} {s h ja : Int32} : OPI l yX7_kinds cX7_kinds 8 yX8_kinds cX8_kinds 11 [.int s, .int h, .int ja] := by
  rintro μ ν ⟨μ0, V, nm, sk, ν0, U, nm2, sk2, st, rfl, rfl, r⟩
  obtain ⟨nj, nh, hA, hB, hT, hW, hS, hI⟩ := id r
  have e := hA.2.2.2.2.1
  refine ⟨kindsF (bk μ0) V (ν0.1 10) (ν0.1 11) (ν0.1 12) nj s h ja, 8, 6, PC μ0 V, PN ν0 U, by decide, by decide, ?_, ?_, fun a b => INV_of r⟩
  · rw [m32]
    exact CT.mono (T_X7_kinds (hc := r.okC) (h1 := hA.1) (hj5 := hA.2.1) (h5 := hA.2.2.1) (hh6 := hA.2.2.2.1)) (QI.mono fun x m h => ⟨(by rw [← hS.1, ← hS.2.1, ← hS.2.2.1]; exact h.1), pc_c h.2⟩)
  · exact CT.mono (T_X8_kinds (hL := r.okL) (h1 := hA.u1) (hj5 := hA.2.1) (h5 := hA.u5) (hh6 := hA.2.2.2.1)) (QI.mono fun x m h => ⟨h.1.trans (kindsF_c e hA.u5 hA.2.2.2.1 _ _ _ _ _ _).symm, pn_b h.2⟩)
theorem OP_wear {l : Launch} {s h ja : Int32} : OPI l yX7_wear cX7_wear 9 yX8_wear cX8_wear 12 [.int s, .int h, .int ja] := by
  rintro μ ν ⟨μ0, V, nm, sk, ν0, U, nm2, sk2, st, rfl, rfl, r⟩
  obtain ⟨nj, nh, hA, hB, hT, hW, hS, hI⟩ := id r
  have e := hA.2.2.2.2.1
  refine ⟨wearF (bk μ0) V (ν0.1 10) (ν0.1 11) (ν0.1 12) nj s h ja, 8, 6, PC μ0 V, PN ν0 U, by decide, by decide, ?_, ?_, fun a b => INV_of r⟩
  · rw [m32]
    exact CT.mono (T_X7_wear (hc := r.okC) (h1 := hA.1) (hj5 := hA.2.1) (h5 := hA.2.2.1) (hh6 := hA.2.2.2.1)) (QI.mono fun x m h => ⟨(by rw [← hS.1, ← hS.2.1, ← hS.2.2.1]; exact h.1), pc_c h.2⟩)
  · exact CT.mono (T_X8_wear (hL := r.okL) (h1 := hA.u1) (hj5 := hA.2.1) (h5 := hA.u5) (hh6 := hA.2.2.2.1)) (QI.mono fun x m h => ⟨h.1.trans (wearF_c e hA.u5 hA.2.2.2.1 _ _ _ _ _ _).symm, pn_b h.2⟩)
theorem OP_heards {l : Launch} {s h wh : Int32} : OPI l yX7_heards cX7_heards 9 yX8_heards cX8_heards 11 [.int s, .int h, .int wh] := by
  rintro μ ν ⟨μ0, V, nm, sk, ν0, U, nm2, sk2, st, rfl, rfl, r⟩
  obtain ⟨nj, nh, hA, hB, hT, hW, hS, hI⟩ := id r
  have e := hA.2.2.2.2.1
  refine ⟨heaF (bk μ0) V (ν0.1 10) (ν0.1 11) (ν0.1 12) nj s h wh, 8, 6, PC μ0 V, PN ν0 U, by decide, by decide, ?_, ?_, fun a b => INV_of r⟩
  · rw [m32]
    exact CT.mono (T_X7_heards (hc := r.okC) (h1 := hA.1) (hj5 := hA.2.1) (h5 := hA.2.2.1) (hh6 := hA.2.2.2.1)) (QI.mono fun x m h => ⟨(by rw [← hS.1, ← hS.2.1, ← hS.2.2.1]; exact h.1), pc_c h.2⟩)
  · exact CT.mono (T_X8_heards (hL := r.okL) (h1 := hA.u1) (hj5 := hA.2.1) (h5 := hA.u5) (hh6 := hA.2.2.2.1)) (QI.mono fun x m h => ⟨h.1.trans (heaF_c e hA.u5 hA.2.2.2.1 _ _ _ _ _ _).symm, pn_b h.2⟩)
theorem OP_amiss {l : Launch} {s h : Int32} : OPL l yX7_amiss cX7_amiss 8 yX8_amiss cX8_amiss 8 [.int s, .int h] := by
  rintro μ ν ⟨μ0, V, nm, sk, ν0, U, nm2, sk2, st, rfl, rfl, r⟩
  obtain ⟨nj, nh, hA, hB, hT, hW, hS, hI⟩ := id r
  have e := hA.2.2.2.2.1
  refine ⟨amissF (bk μ0) V (ν0.1 10) (ν0.1 11) (ν0.1 12) nj s h, 6, 6, PC μ0 V, PN ν0 U, by decide, by decide, ?_, ?_, fun a b => INV_of r⟩
  · exact CT.mono (T_X7_amiss (hc := r.okC) (h1 := hA.1) (hj5 := hA.2.1) (h5 := hA.2.2.1) (hh6 := hA.2.2.2.1)) (QL.mono fun x m h => ⟨(by rw [← hS.1, ← hS.2.1, ← hS.2.2.1]; exact h.1), pc_b h.2⟩)
  · exact CT.mono (T_X8_amiss (hL := r.okL) (h1 := hA.u1) (hj5 := hA.2.1) (h5 := hA.u5) (hh6 := hA.2.2.2.1)) (QL.mono fun x m h => ⟨h.1.trans (amissF_c e hA.u5 hA.2.2.2.1 _ _ _ _ _).symm, pn_b h.2⟩)
theorem OP_taken {l : Launch} {i k0 : Int32} : OPI l yX7_taken cX7_taken 3 yX8_taken cX8_taken 3 [.int i, .int k0] := by
  rintro μ ν ⟨μ0, V, nm, sk, ν0, U, nm2, sk2, st, rfl, rfl, r⟩
  obtain ⟨nj, nh, hA, hB, hT, hW, hS, hI⟩ := id r
  have e := hA.2.2.2.2.1
  refine ⟨takF V i k0, 4, 3, PC μ0 V, PN ν0 U, by decide, by decide, ?_, ?_, fun a b => INV_of r⟩
  · exact CT.mono (T_X7_taken (h1 := hA.1) (hj5 := hA.2.1) (h5 := hA.2.2.1) (hh6 := hA.2.2.2.1)) (QI.mono fun x m h => ⟨h.1, pc_a h.2⟩)
  · exact CT.mono (T_X8_taken hA.u1 hA.2.1 hA.u5 hA.2.2.2.1 (fun j hj => by obtain ⟨k, hk, g⟩ := hA.2.2.2.2.2.2.2.2.2.1 j hj; rw [g]; exact ⟨fun q => absurd ((nI_eq (b := 6) (by omega) (by decide)).1 q) (by omega), fun q => absurd ((nI_eq (b := 6) (by omega) (by decide)).1 q) (by omega)⟩)) (QI.mono fun x m h => ⟨h.1.trans (takF_c e hA.u1 hA.2.1 hA.u5 hA.2.2.2.1 _ _).symm, pn_a h.2⟩)
theorem OP_count {l : Launch} {what : Int32} : OPI l yX7_count cX7_count 2 yX8_count cX8_count 2 [.int what] := by
  rintro μ ν ⟨μ0, V, nm, sk, ν0, U, nm2, sk2, st, rfl, rfl, r⟩
  obtain ⟨nj, nh, hA, hB, hT, hW, hS, hI⟩ := id r
  have e := hA.2.2.2.2.1
  have hB4 : ν0.1 0 12 = μ0.1 1 0 := by obtain ⟨n, _, _, a, b, _⟩ := hB; rw [a, b]
  have hT3 : ν0.1 0 9 = μ0.1 6 0 := by obtain ⟨n, _, a, b, _⟩ := hT; rw [a, b]
  refine ⟨countF V (μ0.1 1 0) (μ0.1 6 0) what, 1, 1, PC μ0 V, PN ν0 U, by decide, by decide, ?_, ?_, fun a b => INV_of r⟩
  · exact CT.mono (T_X7_count ) (QI.mono fun x m h => ⟨h.1, pc_a h.2⟩)
  · exact CT.mono (T_X8_count ) (QI.mono fun x m h => ⟨h.1.trans ((congr (congrArg (fun a b => countF U a b what) hB4) hT3).trans (countF_c e _ _ _).symm), pn_a h.2⟩)
theorem OP_laws {l : Launch} {s h : Int32} : OPI l yX7_laws cX7_laws 6 yX8_laws cX8_laws 7 [.int s, .int h] := by
  rintro μ ν ⟨μ0, V, nm, sk, ν0, U, nm2, sk2, st, rfl, rfl, r⟩
  obtain ⟨nj, nh, hA, hB, hT, hW, hS, hI⟩ := id r
  have e := hA.2.2.2.2.1
  obtain ⟨n, _, b0, b1, b3, _, _, b2⟩ := id hB
  refine ⟨lawsF (bk μ0) V (ν0.1 10) (ν0.1 11) (ν0.1 12) nj n s h, 8, 6, PC μ0 V, PN ν0 U, by decide, by decide, ?_, ?_, fun a b => INV_of r⟩
  · rw [m32]
    exact CT.mono (T_X7_laws (hc := r.okC) (h1 := hA.1) (hj5 := hA.2.1) (h5 := hA.2.2.1) (hh6 := hA.2.2.2.1) (hn := b1) (hn6 := b0)) (QI.mono fun x m h => ⟨(by rw [← hS.1, ← hS.2.1, ← hS.2.2.1]; exact h.1), pc_c h.2⟩)
  · exact CT.mono (T_X8_laws (hLs := b2) (hn := b3) (hn6 := b0) (h1 := hA.u1) (hj5 := hA.2.1) (h5 := hA.u5) (hh6 := hA.2.2.2.1)) (QI.mono fun x m h => ⟨h.1.trans (lawsF_c e hA.u5 hA.2.2.2.1 _ _ _ _ _ _).symm, pn_b h.2⟩)
theorem SameC_rw {μ : PM} {f d : Int32} {b : Int64} : SameC μ (rwM μ f d b) := ⟨rfl, rfl, rfl, rfl, rfl, rfl, rfl, rfl, rfl, funext fun q => by
  show (if 42 + q = 17 then _ else μ.1 (42 + q)) = μ.1 (42 + q)
  rw [if_neg (by omega)]⟩
theorem OP_gain {l : Launch} {a mu wh : Int32} : OPL l yX7_gain cX7_gain 4 yX8_gain cX8_gain 5 [.int a, .int mu, .int wh] := by
  rintro μ ν ⟨μ0, V, nm, sk, ν0, U, nm2, sk2, st, rfl, rfl, r⟩
  obtain ⟨nj, nh, hA, hB, hT, hW, hS, hI⟩ := id r
  refine ⟨gainF V a mu wh, 9, 5, PC μ0 V, PN ν0 U, by decide, by decide, ?_, ?_, fun a b => INV_of r⟩
  · refine CT.mono T_X7_gain (QL.mono fun x m h => ⟨h.1, ?_⟩)
    obtain ⟨f, d, b, hm⟩ := h.2
    exact ⟨rwM μ0 f d b, nm, sk, SameC_rw, hm⟩
  · exact CT.mono T_X8_gain (QL.mono fun x m h => ⟨h.1.trans (gainF_c hA.2.2.2.2.2.1 _ _ _).symm, pn_g h.2⟩)
theorem SameC_fr {μ : PM} {lv be : Int32} {r br ws : Nat → Int32} {T : VW} : SameC μ (wr (sM μ lv be r br ws) 32 T) := ⟨rfl, rfl, rfl, rfl, rfl, rfl, rfl, rfl, rfl, funext fun q => by
  show (wr (sM μ lv be r br ws) 32 T).1 (42 + q) = μ.1 (42 + q)
  rw [rd_wrO (by omega)]
  show (if 42 + q = 13 then _ else if 42 + q = 14 then _ else if 42 + q = 15 then _ else if 42 + q = 16 then _ else μ.1 (42 + q)) = μ.1 (42 + q)
  rw [if_neg (by omega), if_neg (by omega), if_neg (by omega), if_neg (by omega)]⟩
theorem OP_friday {l : Launch} {n wh : Int32} : OPI l yX7_friday cX7_friday 3 yX8_friday cX8_friday 7 [.int n, .int wh] := by
  rintro μ ν ⟨μ0, V, nm, sk, ν0, U, nm2, sk2, st, rfl, rfl, r⟩
  obtain ⟨nj, nh, hA, hB, hT, hW, hS, hI⟩ := id r
  have e := hA.2.2.2.2.1
  refine ⟨friF (bk μ0) U nj nh n wh, 13, 8, PC μ0 V, PN ν0 U, by decide, by decide, ?_, ?_, fun a b => INV_of r⟩
  · rw [m32]
    refine CT.mono (T_X7_friday (hc := r.okC) (h1 := hA.1) (hj5 := hA.2.1) (h5 := hA.2.2.1) (hh6 := hA.2.2.2.1)) (QI.mono fun x m h => ?_)
    obtain ⟨br, be, ⟨hx, hr⟩, T2, nm3, sk3, lv2, be2, r2, br2, ws2, hm⟩ := h
    refine ⟨hx.trans (fri_eq ?_), ⟨wr (sM μ0 lv2 be2 r2 br2 ws2) 32 T2, nm3, sk3, SameC_fr, by rw [hm, wr_comm]⟩⟩
    intro hi hca
    have := hr hi hca
    rwa [dsc_c _ e] at this
  · exact CT.mono (T_X8_friday (hL := r.okL) (h1 := hA.u1) (hj5 := hA.2.1) (h5 := hA.u5) (hh6 := hA.2.2.2.1) (hpw := hA.pw)) (QI.mono fun x m h => ⟨h.1, pn_f h.2⟩)
