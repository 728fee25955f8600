/-! THE LOOP OF THE LAW, AND ITS START -/
theorem lp_gt7 : ∀ L, L < 7 → ∀ i, i < 8 → nI L - 7 < nI i := by decide
theorem lp_gt {L i : Nat} (hL : L ≤ 3584) (hi : i ≤ L) : nI L - 7 < nI i ↔ L < i + 7 := by
  by_cases h7 : L < 7
  · exact ⟨fun _ => by omega, fun _ => lp_gt7 L h7 i (by omega)⟩
  · have e : nI L - 7 = nI (L - 7) := by
      have h := nI_add (L - 7) 7
      rw [show L - 7 + 7 = L by omega] at h
      rw [← h]
      exact Int32.add_sub_cancel _ _
    rw [e, Int32.lt_iff_toInt_lt, nI_toInt (by omega), nI_toInt (by omega)]
    omega
section LOOP
variable {p : Program} {l : Launch} {e : Env} {s : State} {m : MethodId} {below : List Frame} {meth : Method} {c : Code} {b L i nc ns : Nat} {xs : Nat → Int32} {G : va_G} {cA : ClassId} {ad7 ad8 sg : Nat → Nat} {Z : State → Prop} {μ ν : PM}
theorem law_case (K : LAWK p s m meth c b L xs G cA ad7 ad8 sg nc ns) (hi : i + 7 ≤ L) (hv : INV μ ν) {n : Nat} (hn : n < 64) (kk : ∀ μ' ν', INV μ' ν' → LW p l e s m below meth c b G cA ad7 ad8 Z nc ns 1987 i μ' ν') : BW p l e room_1 s m #[Value.ref b] below meth c G (fun q => s.heap.size ≤ q) Z 4 33 [(3, .int (nI i)), (2, .ref (ad8 0)), (1, .ref (ad7 0)), (0, .ref b)] [.int (nI n)] (wsO SC cA ad7 μ ++ wsO SM cA ad8 ν) nc ns := by
  match n, hn with
  | 0, _ => exact bw_tableIn (off := 211) (tgt := 244) K.1 dL_law_33 (by decide) (by decide) rfl rfl (LC_0 K hi hv kk)
  | 1, _ => exact bw_tableIn (off := 234) (tgt := 267) K.1 dL_law_33 (by decide) (by decide) rfl rfl (LC_1 K hi hv kk)
  | 2, _ => exact bw_tableIn (off := 309) (tgt := 342) K.1 dL_law_33 (by decide) (by decide) rfl rfl (LC_2 K hi hv kk)
  | 3, _ => exact bw_tableIn (off := 322) (tgt := 355) K.1 dL_law_33 (by decide) (by decide) rfl rfl (LC_3 K hi hv kk)
  | 4, _ => exact bw_tableIn (off := 345) (tgt := 378) K.1 dL_law_33 (by decide) (by decide) rfl rfl (LC_4 K hi hv kk)
  | 5, _ => exact bw_tableIn (off := 398) (tgt := 431) K.1 dL_law_33 (by decide) (by decide) rfl rfl (LC_5 K hi hv kk)
  | 6, _ => exact bw_tableIn (off := 431) (tgt := 464) K.1 dL_law_33 (by decide) (by decide) rfl rfl (LC_6 K hi hv kk)
  | 7, _ => exact bw_tableIn (off := 464) (tgt := 497) K.1 dL_law_33 (by decide) (by decide) rfl rfl (LC_7 K hi hv kk)
  | 8, _ => exact bw_tableIn (off := 497) (tgt := 530) K.1 dL_law_33 (by decide) (by decide) rfl rfl (LC_8 K hi hv kk)
  | 9, _ => exact bw_tableIn (off := 540) (tgt := 573) K.1 dL_law_33 (by decide) (by decide) rfl rfl (LC_9 K hi hv kk)
  | 10, _ => exact bw_tableIn (off := 573) (tgt := 606) K.1 dL_law_33 (by decide) (by decide) rfl rfl (LC_10 K hi hv kk)
  | 11, _ => exact bw_tableIn (off := 606) (tgt := 639) K.1 dL_law_33 (by decide) (by decide) rfl rfl (LC_11 K hi hv kk)
  | 12, _ => exact bw_tableIn (off := 639) (tgt := 672) K.1 dL_law_33 (by decide) (by decide) rfl rfl (LC_12 K hi hv kk)
  | 13, _ => exact bw_tableIn (off := 682) (tgt := 715) K.1 dL_law_33 (by decide) (by decide) rfl rfl (LC_13 K hi hv kk)
  | 14, _ => exact bw_tableIn (off := 705) (tgt := 738) K.1 dL_law_33 (by decide) (by decide) rfl rfl (LC_14 K hi hv kk)
  | 15, _ => exact bw_tableIn (off := 718) (tgt := 751) K.1 dL_law_33 (by decide) (by decide) rfl rfl (LC_15 K hi hv kk)
  | 16, _ => exact bw_tableIn (off := 751) (tgt := 784) K.1 dL_law_33 (by decide) (by decide) rfl rfl (LC_16 K hi hv kk)
  | 17, _ => exact bw_tableIn (off := 784) (tgt := 817) K.1 dL_law_33 (by decide) (by decide) rfl rfl (LC_17 K hi hv kk)
  | 18, _ => exact bw_tableIn (off := 827) (tgt := 860) K.1 dL_law_33 (by decide) (by decide) rfl rfl (LC_18 K hi hv kk)
  | 19, _ => exact bw_tableIn (off := 850) (tgt := 883) K.1 dL_law_33 (by decide) (by decide) rfl rfl (LC_19 K hi hv kk)
  | 20, _ => exact bw_tableIn (off := 873) (tgt := 906) K.1 dL_law_33 (by decide) (by decide) rfl rfl (LC_20 K hi hv kk)
  | 21, _ => exact bw_tableIn (off := 906) (tgt := 939) K.1 dL_law_33 (by decide) (by decide) rfl rfl (LC_21 K hi hv kk)
  | 22, _ => exact bw_tableIn (off := 939) (tgt := 972) K.1 dL_law_33 (by decide) (by decide) rfl rfl (LC_22 K hi hv kk)
  | 23, _ => exact bw_tableIn (off := 962) (tgt := 995) K.1 dL_law_33 (by decide) (by decide) rfl rfl (LC_23 K hi hv kk)
  | 24, _ => exact bw_tableIn (off := 995) (tgt := 1028) K.1 dL_law_33 (by decide) (by decide) rfl rfl (LC_24 K hi hv kk)
  | 25, _ => exact bw_tableIn (off := 1038) (tgt := 1071) K.1 dL_law_33 (by decide) (by decide) rfl rfl (LC_25 K hi hv kk)
  | 26, _ => exact bw_tableIn (off := 1071) (tgt := 1104) K.1 dL_law_33 (by decide) (by decide) rfl rfl (LC_26 K hi hv kk)
  | 27, _ => exact bw_tableIn (off := 1114) (tgt := 1147) K.1 dL_law_33 (by decide) (by decide) rfl rfl (LC_27 K hi hv kk)
  | 28, _ => exact bw_tableIn (off := 1157) (tgt := 1190) K.1 dL_law_33 (by decide) (by decide) rfl rfl (LC_28 K hi hv kk)
  | 29, _ => exact bw_tableIn (off := 1200) (tgt := 1233) K.1 dL_law_33 (by decide) (by decide) rfl rfl (LC_29 K hi hv kk)
  | 30, _ => exact bw_tableIn (off := 1244) (tgt := 1277) K.1 dL_law_33 (by decide) (by decide) rfl rfl (LC_30 K hi hv kk)
  | 31, _ => exact bw_tableIn (off := 1288) (tgt := 1321) K.1 dL_law_33 (by decide) (by decide) rfl rfl (LC_31 K hi hv kk)
  | 32, _ => exact bw_tableIn (off := 1321) (tgt := 1354) K.1 dL_law_33 (by decide) (by decide) rfl rfl (LC_32 K hi hv kk)
  | 33, _ => exact bw_tableIn (off := 1354) (tgt := 1387) K.1 dL_law_33 (by decide) (by decide) rfl rfl (LC_33 K hi hv kk)
  | 34, _ => exact bw_tableIn (off := 1397) (tgt := 1430) K.1 dL_law_33 (by decide) (by decide) rfl rfl (LC_34 K hi hv kk)
  | 35, _ => exact bw_tableIn (off := 1440) (tgt := 1473) K.1 dL_law_33 (by decide) (by decide) rfl rfl (LC_35 K hi hv kk)
  | 36, _ => exact bw_tableIn (off := 1483) (tgt := 1516) K.1 dL_law_33 (by decide) (by decide) rfl rfl (LC_36 K hi hv kk)
  | 37, _ => exact bw_tableIn (off := 1506) (tgt := 1539) K.1 dL_law_33 (by decide) (by decide) rfl rfl (LC_37 K hi hv kk)
  | 38, _ => exact bw_tableIn (off := 1539) (tgt := 1572) K.1 dL_law_33 (by decide) (by decide) rfl rfl (LC_38 K hi hv kk)
  | 39, _ => exact bw_tableIn (off := 1573) (tgt := 1606) K.1 dL_law_33 (by decide) (by decide) rfl rfl (LC_39 K hi hv kk)
  | 40, _ => exact bw_tableIn (off := 1606) (tgt := 1639) K.1 dL_law_33 (by decide) (by decide) rfl rfl (LC_40 K hi hv kk)
  | 41, _ => exact bw_tableIn (off := 1639) (tgt := 1672) K.1 dL_law_33 (by decide) (by decide) rfl rfl (LC_41 K hi hv kk)
  | 42, _ => exact bw_tableIn (off := 1693) (tgt := 1726) K.1 dL_law_33 (by decide) (by decide) rfl rfl (LC_42 K hi hv kk)
  | 43, _ => exact bw_tableIn (off := 1706) (tgt := 1739) K.1 dL_law_33 (by decide) (by decide) rfl rfl (LC_43 K hi hv kk)
  | 44, _ => exact bw_tableIn (off := 1719) (tgt := 1752) K.1 dL_law_33 (by decide) (by decide) rfl rfl (LC_44 K hi hv kk)
  | 45, _ => exact bw_tableIn (off := 1762) (tgt := 1795) K.1 dL_law_33 (by decide) (by decide) rfl rfl (LC_45 K hi hv kk)
  | 46, _ => exact bw_tableIn (off := 1805) (tgt := 1838) K.1 dL_law_33 (by decide) (by decide) rfl rfl (LC_46 K hi hv kk)
  | 47, _ => exact bw_tableIn (off := 1868) (tgt := 1901) K.1 dL_law_33 (by decide) (by decide) rfl rfl (LC_47 K hi hv kk)
  | 48, _ => exact bw_tableIn (off := 1921) (tgt := 1954) K.1 dL_law_33 (by decide) (by decide) rfl rfl (LC_48 K hi hv kk)
  | n + 49, hn =>
    refine bw_tableOut (tgt := 1987) K.1 dL_law_33 (Or.inr ?_) rfl (kk μ ν hv)
    rw [nI_toInt (by omega)]
    omega
theorem law_loop (K : LAWK p s m meth c b L xs G cA ad7 ad8 sg nc ns) (hr : meth.sig.returnType = ret) (hlocks : meth.locks = false) : ∀ (fu i : Nat) (μ ν : PM), i ≤ L → L < i + 7 * (fu + 1) → INV μ ν → LW p l e s m below meth c b G cA ad7 ad8 (lw_Z below #[Value.ref b] s) nc ns 18 i μ ν := by
  obtain ⟨C, hE7, hE8, hX, hbl, hL, hnR⟩ := id K
  have hbA : ¬ (fun q : Nat => s.heap.size ≤ q) b := Nat.not_le.mpr hbl
  have hend : ∀ (i : Nat) (μ ν : PM), BW p l e room_1 s m #[Value.ref b] below meth c G (fun q => s.heap.size ≤ q) (lw_Z below #[Value.ref b] s) 4 1993 [(3, .int (nI i)), (2, .ref (ad8 0)), (1, .ref (ad7 0)), (0, .ref b)] [] (wsO SC cA ad7 μ ++ wsO SM cA ad8 ν) nc ns := by
    intro i μ ν
    refine bw_iconst (v := 1) C dL_law_1993 rfl ?_
    exact bw_end C hr hlocks hnR.1 hnR.2 dL_law_1994
  intro fu
  induction fu with
  | zero =>
    intro i μ ν hi hf hv
    refine bw_iload_n (i := 3) C dL_law_18 rfl rfl ?_
    refine bw_aload_n (i := 0) C dL_law_19 rfl rfl ?_
    refine bw_slen C hX hbl hbA dL_law_20 ?_
    refine bw_bipush (v := 7) C dL_law_21 rfl ?_
    refine bw_isub (v := nI L - 7) C dL_law_23 rfl ?_
    refine bw_icmp_gt C dL_law_24 (tgt := 1993) rfl (fun _ => hend i μ ν) (fun h => absurd ((lp_gt hL hi).2 (by omega)) h)
  | succ fu ih =>
    intro i μ ν hi hf hv
    refine bw_iload_n (i := 3) C dL_law_18 rfl rfl ?_
    refine bw_aload_n (i := 0) C dL_law_19 rfl rfl ?_
    refine bw_slen C hX hbl hbA dL_law_20 ?_
    refine bw_bipush (v := 7) C dL_law_21 rfl ?_
    refine bw_isub (v := nI L - 7) C dL_law_23 rfl ?_
    refine bw_icmp_gt C dL_law_24 (tgt := 1993) rfl (fun _ => hend i μ ν) (fun h => ?_)
    have h7 : i + 7 ≤ L := Nat.le_of_not_lt (fun z => h ((lp_gt hL hi).2 z))
    refine bw_aload_n (i := 0) C dL_law_27 rfl rfl ?_
    refine bw_iload_n (i := 3) C dL_law_28 rfl rfl ?_
    refine bw_sld C hX hbl hbA hL (by omega) dL_law_29 ?_
    refine bw_bipush (v := 63) C dL_law_30 rfl ?_
    obtain ⟨n, hn, en⟩ := pk_andE (xs i) (m := 63) 6 (by decide)
    refine bw_iand (v := nI n) C dL_law_32 en ?_
    refine law_case K h7 hv hn (fun μ' ν' hv' => ?_)
    refine bw_iinc (i := 3) (v := nI (i + 7)) (ls2 := [(3, .int (nI (i + 7))), (2, .ref (ad8 0)), (1, .ref (ad7 0)), (0, .ref b)]) C dL_law_1987 rfl (nI_add i 7) (by decide) rfl ?_
    refine bw_goto C dL_law_1990 (tgt := 18) rfl ?_
    exact ih (i + 7) μ' ν' h7 (by omega) hv'
end LOOP

set_option maxHeartbeats 4000000 in
set_option maxRecDepth 100000 in
theorem whole_start {p : Program} {e : Env} {s : State} {m : MethodId} {below : List Frame} {meth : Method} {c : Code} (l : Launch) (hflags : l.flags = flags0) {b L : Nat} {xs : Nat → Int32} (hL : L ≤ 3584) (C0 : lw_At p s m meth c b L xs) : W p l e room_1 s m #[Value.ref b] below meth c s.heap [] 0 0 (lw_Z below #[Value.ref b] s) (entryFrame m ([Value.ref b] : List Value).toArray 4) := by
  obtain ⟨hx, hb, hr, hml, hown, hts, hX, hbl, hlocks, hgv⟩ := id C0
  obtain ⟨G, cA, hK⟩ := K_start hts
  obtain ⟨ad, hE⟩ := EX_start hts hgv G cA
  have C : BC RL code 4 p s m #[Value.ref b] meth c G cA (fun q => s.heap.size ≤ q) := ⟨hx, hb, hml, hown, fun w hw => hts w (List.mem_filter.mp hw).1, hK, fun q hq => hq, Or.inl rfl, hE.2.2.2.2⟩
  have hl := lv_entry ([.ref b]) (n := 4) (Nat.le_of_ble_eq_true rfl)
  rw [lg_entry_eq]
  have Y : BW p l e room_1 s m #[Value.ref b] below meth c G (fun q => s.heap.size ≤ q) (lw_Z below #[Value.ref b] s) 4 0 [(0, .ref b)] [] [] 0 0 := by
    refine bw_new (ci := 6) (N := 9) (CC := RX7) (T := TX7) (fs := [.null, .null, .null, .null, .null, .int 0, .null, .null, .null]) C tyX7 dL_law_0 rfl utX7 tyX7_ok (mT1 18 rfl rfl) (mT1 19 rfl rfl) ini_X7 (by intro j hj; rcases (show j = 0 ∨ j = 1 ∨ j = 2 ∨ j = 3 ∨ j = 4 ∨ j = 5 ∨ j = 6 ∨ j = 7 ∨ j = 8 by omega) with rfl | rfl | rfl | rfl | rfl | rfl | rfl | rfl | rfl <;> rfl) (Nat.le_of_ble_eq_true rfl) (Nat.le_of_ble_eq_true rfl) (fun q7 => ?_)
    refine bw_dup C dL_law_3 rfl ?_
    refine bl_newo (X := (G, cA, ad, fun _ => 0)) (wr := []) (rest := [.ref q7]) C hE dL_law_4 (mT1 20 rfl rfl) cd_X7_init ini_X7 ins_X7_init rfl nmh_X7 (by decide +kernel) B_7 (by decide) (Nat.le_of_ble_eq_true rfl) (rm_k (by decide)) (Nat.le_of_ble_eq_true rfl) (Nat.le_of_ble_eq_true rfl) (fun u7 μ hμ => ?_)
    refine bw_astore_n (i := 1) (ls2 := [(1, .ref q7), (0, .ref b)]) C dL_law_7 rfl (by decide) rfl ?_
    refine bw_new (ci := 7) (N := 41) (CC := RX8) (T := TX8) (fs := [.int 0, .null, .null, .null, .int 0, .null, .int 0, .null, .null, .int 0, .null, .null, .int 0, .int 0, .int 0, .int 0, .int 0, .int 0, .int 0, .null, .null, .null, .null, .null, .int 0, .int 0, .int 0, .int 0, .null, .null, .int 0, .int 0, .int 0, .null, .null, .null, .int 0, .null, .int 0, .long 0, .int 0]) C tyX8 dL_law_8 rfl utX8 tyX8_ok (mT4 230 rfl rfl) (mT4 231 rfl rfl) ini_X8 (by intro j hj; rcases (show j = 0 ∨ j = 1 ∨ j = 2 ∨ j = 3 ∨ j = 4 ∨ j = 5 ∨ j = 6 ∨ j = 7 ∨ j = 8 ∨ j = 9 ∨ j = 10 ∨ j = 11 ∨ j = 12 ∨ j = 13 ∨ j = 14 ∨ j = 15 ∨ j = 16 ∨ j = 17 ∨ j = 18 ∨ j = 19 ∨ j = 20 ∨ j = 21 ∨ j = 22 ∨ j = 23 ∨ j = 24 ∨ j = 25 ∨ j = 26 ∨ j = 27 ∨ j = 28 ∨ j = 29 ∨ j = 30 ∨ j = 31 ∨ j = 32 ∨ j = 33 ∨ j = 34 ∨ j = 35 ∨ j = 36 ∨ j = 37 ∨ j = 38 ∨ j = 39 ∨ j = 40 by omega) with rfl | rfl | rfl | rfl | rfl | rfl | rfl | rfl | rfl | rfl | rfl | rfl | rfl | rfl | rfl | rfl | rfl | rfl | rfl | rfl | rfl | rfl | rfl | rfl | rfl | rfl | rfl | rfl | rfl | rfl | rfl | rfl | rfl | rfl | rfl | rfl | rfl | rfl | rfl | rfl | rfl <;> rfl) (Nat.le_of_ble_eq_true rfl) (Nat.le_of_ble_eq_true rfl) (fun q8 => ?_)
    refine bw_dup C dL_law_11 rfl ?_
    refine bl_newo (X := (G, cA, ad, fun _ => 0)) (rest := [.ref q8]) C hE dL_law_12 (mT4 232 rfl rfl) cd_X8_init ini_X8 ins_X8_init rfl nmh_X8 (by decide +kernel) B_8 (by decide) (Nat.le_of_ble_eq_true rfl) (rm_k (by decide)) (Nat.le_of_ble_eq_true rfl) (Nat.le_of_ble_eq_true rfl) (fun u8 ν hν => ?_)
    refine bw_astore_n (i := 2) (ls2 := [(2, .ref q8), (1, .ref q7), (0, .ref b)]) C dL_law_15 rfl (by decide) rfl ?_
    refine bw_iconst (v := nI 0) C dL_law_16 rfl ?_
    refine bw_istore_n (i := 3) (ls2 := [(3, .int (nI 0)), (2, .ref q8), (1, .ref q7), (0, .ref b)]) C dL_law_17 rfl (by decide) rfl ?_
    have K : LAWK p s m meth c b L xs G cA (adX 52 (q7 :: u7) ad) (adX 20 (q8 :: u8) ad) (fun _ => 0) (0 + 1 + 51 + 1 + 19) (0 + 9 + 2371 + 41 + 2714) := ⟨C, EX_ad (by decide) hE, EX_ad (by decide) hE, hX, hbl, hL, Nat.le_of_ble_eq_true rfl, Nat.le_of_ble_eq_true rfl⟩
    exact law_loop K hr hlocks L 0 μ ν (Nat.zero_le _) (by omega) (INV_0 hμ hν)
  exact Y s.heap [] _ (fun k q h => by simp at h) ⟨fun i j p q h => by simp at h, fun k q h => by simp at h⟩ va_S.rf hl
