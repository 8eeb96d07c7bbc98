/-! the law: wouldAnchor -/
set_option maxHeartbeats 8000000 in
set_option maxRecDepth 100000 in
theorem law_wouldAnchor {p : Program} {e : Env} {s : State} {m : MethodId} {below : List Frame} {meth : Method} {c : Code} {b L : Nat} {xs : Nat → Int32} {Q : State → Prop} (l : Launch) (hfl : l.stackTraces = false) (D : va_G) (cs : Nat → ClassId) (hx : p.tables.exec = Jvm.exec) (hb : c.code = cL_law) (hml : c.maxLocals = 9) (hown : s.vm.findClass RL = some m.cls) (hts : ∀ w ∈ wsL_law, w.before #[Value.ref b] s = true) (hK : va_K D vwCl (zTy cs) s) (hN : zNW s) (hG : zXG s) (hC : zNcP s) (hO : va_AO RX1 s) (hL : L ≤ 2560) (hXs : va_X b L xs s s.heap) (hbl : b < s.heap.size) (xi : Int) (hxi : 0 ≤ xi ∧ xi + 5 ≤ L) (cells slots : Nat) (hcl : cells + 1 ≤ 601024 ∧ slots + 6 ≤ 7293034) (ou : Nat) (o : Nat → Nat → Nat) (q : Nat → Nat) (n : Int) (A T S0 S1 S2 S3 S V : Int → Int) (xm : Int) (f : Int → Int) (xl : Int) (g : Int → Int) (xk xn xd xe xth xam xpl : Int) (gr gu : Int → Int) (hI9 : zInL n A S0 S1 S2 S3 S xm f xl) (hn9 : 0 ≤ n ∧ n ≤ 1200 * xi) (H : Heap) (locs : List Loc) (hP : va_P D vwCl (zest cs o A T S0 S1 S2 S3 xm f xl g xk xn xd xe ++ (zmod cs q A S V xm xth xam f xl xpl gr ++ [(ou, .inl (cs 2, 1, .inr (.inl (zAL gu))))])) H) (hD : va_D (fun z => s.heap.size ≤ z) (zest cs o A T S0 S1 S2 S3 xm f xl g xk xn xd xe ++ (zmod cs q A S V xm xth xam f xl xpl gr ++ [(ou, .inl (cs 2, 1, .inr (.inl (zAL gu))))]))) (hS : va_S (fun z => s.heap.size ≤ z) s.heap H locs) (ls : Array Slot) (hl : lv_has ls 9 [(4, .int (zI xi)), (3, .ref ou), (2, .ref (q 0)), (1, .ref (o 0 0)), (0, .ref b)]) (kk : ∀ (o : Nat → Nat → Nat) (q : Nat → Nat) (n : Int) (A T S0 S1 S2 S3 S V : Int → Int) (xm : Int) (f : Int → Int) (xl : Int) (g : Int → Int) (xk xn xd xe xth xam xpl : Int) (gr gu : Int → Int), zInL n A S0 S1 S2 S3 S xm f xl → (0 ≤ n ∧ n ≤ 1200 * (xi + 5)) → ∀ (H : Heap) (locs : List Loc), va_P D vwCl (zest cs o A T S0 S1 S2 S3 xm f xl g xk xn xd xe ++ (zmod cs q A S V xm xth xam f xl xpl gr ++ [(ou, .inl (cs 2, 1, .inr (.inl (zAL gu))))])) H → va_D (fun z => s.heap.size ≤ z) (zest cs o A T S0 S1 S2 S3 xm f xl g xk xn xd xe ++ (zmod cs q A S V xm xth xam f xl xpl gr ++ [(ou, .inl (cs 2, 1, .inr (.inl (zAL gu))))])) → va_S (fun z => s.heap.size ≤ z) s.heap H locs → ∀ ls : Array Slot, lv_has ls 9 [(4, .int (zI xi)), (3, .ref ou), (2, .ref (q 0)), (1, .ref (o 0 0)), (0, .ref b)] → W p l e room_1 s m #[Value.ref b] below meth c H locs (cells + 1) (slots + 6) Q (F0 m 1683 ls [])) : W p l e room_1 s m #[Value.ref b] below meth c H locs cells slots Q (F0 m 1451 ls []) := by
  have hcl1 := hcl.1
  have hcl2 := hcl.2
  have hA : ∀ z : Nat, s.heap.size ≤ z → s.heap.size ≤ z := fun _ h => h
  have hbA : ¬ (s.heap.size ≤ b) := Nat.not_le.mpr hbl
  have hr1 := zX_r xs (xi + 1)
  have hr2 := zX_r xs (xi + 2)
  have hr3 := zX_r xs (xi + 3)
  have hr4 := zX_r xs (xi + 4)
  by_cases hc9 : ((-50000 ≤ (zX xs (xi + 1)) ∧ (zX xs (xi + 1)) ≤ 50000) ∧ (0 ≤ (0 : Int) ∧ (0 : Int) ≤ 6000) ∧ 1 ≤ (zX xs (xi + 2)) ∧ (zX xs (xi + 2)) ≤ 600) ∧ (0 ≤ (zX xs (xi + 3)) ∧ (zX xs (xi + 3)) ≤ 1000) ∧ 0 ≤ (zX xs (xi + 4)) ∧ (zX xs (xi + 4)) ≤ 500
  · refine lv_aload_n hx hb dL_law_1451 rfl (lv_at hl 3 rfl) ?_
    refine lv_aload_n hx hb dL_law_1452 rfl (lv_at hl 4 rfl) ?_
    refine lv_iload hx hb dL_law_1453 (lv_at hl 0 rfl) ?_
    refine zr_iconst hx hb dL_law_1455 ?_
    refine zr_iadd hx hb dL_law_1456 ?_
    refine zr_sls hx hb hXs hbl hbA hS hL (by omega) dL_law_1457 ?_
    refine lv_aload_n hx hb dL_law_1458 rfl (lv_at hl 4 rfl) ?_
    refine lv_iload hx hb dL_law_1459 (lv_at hl 0 rfl) ?_
    refine zr_iconst hx hb dL_law_1461 ?_
    refine zr_iadd hx hb dL_law_1462 ?_
    refine zr_sls hx hb hXs hbl hbA hS hL (by omega) dL_law_1463 ?_
    refine lv_aload_n hx hb dL_law_1464 rfl (lv_at hl 4 rfl) ?_
    refine lv_iload hx hb dL_law_1465 (lv_at hl 0 rfl) ?_
    refine zr_iconst hx hb dL_law_1467 ?_
    refine zr_iadd hx hb dL_law_1468 ?_
    refine zr_sls hx hb hXs hbl hbA hS hL (by omega) dL_law_1469 ?_
    refine lv_aload_n hx hb dL_law_1470 rfl (lv_at hl 4 rfl) ?_
    refine lv_iload hx hb dL_law_1471 (lv_at hl 0 rfl) ?_
    refine zr_iconst hx hb dL_law_1473 ?_
    refine zr_iadd hx hb dL_law_1474 ?_
    refine zr_sls hx hb hXs hbl hbA hS hL (by omega) dL_law_1475 ?_
    refine lv_aload_n hx hb dL_law_1476 rfl (lv_at hl 1 rfl) ?_
    refine zc_xi (w := [((o 0) 0, .inr (5, [.ref ((o 1) 0), .ref ((o 2) 0), .ref ((o 3) 0), .ref ((o 8) 0)]))] ++ (zbat cs (o 1) A ++ (zbat cs (o 2) T ++ [(ou, .inl (cs 2, 1, .inr (.inl (zAL gu))))]))) (wr := [(o 3 0, .inr (3, [.ref (o 3 1), .int (zI xm)])), (o 3 1, .inl (cs 3, 4, .inr (.inr (.inr (.inr (zR (o 4 0) (o 5 0) (o 6 0) (o 7 0)))))))] ++ (zbat cs (o 4) S0 ++ (zbat cs (o 5) S1 ++ (zbat cs (o 6) S2 ++ (zbat cs (o 7) S3 ++ (ztxt cs (o 8) f xl g xk xn xd xe ++ (zmod cs q A S V xm xth xam f xl xpl gr))))))) (vx_runSX (As := [.ref (o 0 0), .int (zI (zX xs (xi + 1))), .int (zI (zX xs (xi + 2))), .int (zI (zX xs (xi + 3))), .int (zI (zX xs (xi + 4))), .ref ou]) (rest := []) ⟨hx, hb, hml, hown, hts⟩ (met_L_wouldAnchor_ok l D cs o ou gu H.size A T n (zX xs (xi + 1)) (zX xs (xi + 2)) (zX xs (xi + 3)) (zX xs (xi + 4)) (by exact hI9.1) (by omega) (by omega) (zX_r xs _) (zX_r xs _) (zX_r xs _) (zX_r xs _) hc9) (vx_cwSW 6 hts gL_law_L_wouldAnchor rfl rfl rfl (by decide +kernel) ⟨(Nat.le_of_ble_eq_true rfl), (Nat.le_of_ble_eq_true rfl)⟩) ⟨zPreZ.blind, fun U hU hW => zp_Z (hP.sub (ws' := [((o 0) 0, .inr (5, [.ref ((o 1) 0), .ref ((o 2) 0), .ref ((o 3) 0), .ref ((o 8) 0)]))] ++ (zbat cs (o 1) A ++ (zbat cs (o 2) T ++ [(ou, .inl (cs 2, 1, .inr (.inl (zAL gu))))]))) [0, 1, 2, 3, 4, 5, 6, 7, 8, 9, 10, 11, 12, 13, 14, 54] rfl) hK (hD.sub (ws' := [((o 0) 0, .inr (5, [.ref ((o 1) 0), .ref ((o 2) 0), .ref ((o 3) 0), .ref ((o 8) 0)]))] ++ (zbat cs (o 1) A ++ (zbat cs (o 2) T ++ [(ou, .inl (cs 2, 1, .inr (.inl (zAL gu))))]))) [0, 1, 2, 3, 4, 5, 6, 7, 8, 9, 10, 11, 12, 13, 14, 54] (by decide) rfl) hN hU hW⟩ rfl rfl hl.1 rfl (lv_room (Nat.le_of_ble_eq_true rfl)) dL_law_1477 ⟨by show cells + 0 ≤ 601024; omega, by show slots + 0 ≤ 7293034; omega⟩) hS hP hD hA [0, 1, 2, 3, 4, 5, 6, 7, 8, 9, 10, 11, 12, 13, 14, 54] [15, 16, 17, 18, 19, 20, 21, 22, 23, 24, 25, 26, 27, 28, 29, 30, 31, 32, 33, 34, 35, 36, 37, 38, 39, 40, 41, 42, 43, 44, 45, 46, 47, 48, 49, 50, 51, 52, 53] rfl rfl (by decide) (by decide) (fun H locs hP hD hS => ?_)
    have hP : va_P D vwCl (zest cs o A (zMp A (zX xs (xi + 1)) (zX xs (xi + 2)) (zX xs (xi + 3)) (zX xs (xi + 4)).toNat) S0 S1 S2 S3 xm f xl g xk xn xd xe ++ (zmod cs q A S V xm xth xam f xl xpl gr ++ [(ou, .inl (cs 2, 1, .inr (.inl (zAL (zU gu 0 (zW (zMb A (zX xs (xi + 1)) (zX xs (xi + 2)) (zX xs (xi + 3)) (zX xs (xi + 4)).toNat)))))))])) H := zP_perm hP zPe_W
    have hD : va_D (fun z => s.heap.size ≤ z) (zest cs o A (zMp A (zX xs (xi + 1)) (zX xs (xi + 2)) (zX xs (xi + 3)) (zX xs (xi + 4)).toNat) S0 S1 S2 S3 xm f xl g xk xn xd xe ++ (zmod cs q A S V xm xth xam f xl xpl gr ++ [(ou, .inl (cs 2, 1, .inr (.inl (zAL (zU gu 0 (zW (zMb A (zX xs (xi + 1)) (zX xs (xi + 2)) (zX xs (xi + 3)) (zX xs (xi + 4)).toNat)))))))])) := zD_perm hD zPe_W
    refine lv_istore (lv' := [(5, .int (zI 0)), (4, .int (zI xi)), (3, .ref ou), (2, .ref (q 0)), (1, .ref (o 0 0)), (0, .ref b)]) hx hb dL_law_1480 hl (by decide) rfl (fun ls hl => ?_)
    refine lv_aload_n hx hb dL_law_1482 rfl (lv_at hl 3 rfl) ?_
    refine lv_aload_n hx hb dL_law_1483 rfl (lv_at hl 5 rfl) ?_
    refine lv_iload hx hb dL_law_1484 (lv_at hl 1 rfl) ?_
    refine zr_iconst hx hb dL_law_1486 ?_
    refine zr_iadd hx hb dL_law_1487 ?_
    refine zr_sls hx hb hXs hbl hbA hS hL (by omega) dL_law_1488 ?_
    refine lv_aload_n hx hb dL_law_1489 rfl (lv_at hl 5 rfl) ?_
    refine lv_iload hx hb dL_law_1490 (lv_at hl 1 rfl) ?_
    refine zr_iconst hx hb dL_law_1492 ?_
    refine zr_iadd hx hb dL_law_1493 ?_
    refine zr_sls hx hb hXs hbl hbA hS hL (by omega) dL_law_1494 ?_
    refine lv_aload_n hx hb dL_law_1495 rfl (lv_at hl 5 rfl) ?_
    refine lv_iload hx hb dL_law_1496 (lv_at hl 1 rfl) ?_
    refine zr_iconst hx hb dL_law_1498 ?_
    refine zr_iadd hx hb dL_law_1499 ?_
    refine zr_sls hx hb hXs hbl hbA hS hL (by omega) dL_law_1500 ?_
    refine lv_aload_n hx hb dL_law_1501 rfl (lv_at hl 5 rfl) ?_
    refine lv_iload hx hb dL_law_1502 (lv_at hl 1 rfl) ?_
    refine zr_iconst hx hb dL_law_1504 ?_
    refine zr_iadd hx hb dL_law_1505 ?_
    refine zr_sls hx hb hXs hbl hbA hS hL (by omega) dL_law_1506 ?_
    refine zc_ij (w := zmod cs q A S V xm xth xam f xl xpl gr) (wr := zest cs o A (zMp A (zX xs (xi + 1)) (zX xs (xi + 2)) (zX xs (xi + 3)) (zX xs (xi + 4)).toNat) S0 S1 S2 S3 xm f xl g xk xn xd xe ++ [(ou, .inl (cs 2, 1, .inr (.inl (zAL (zU gu 0 (zW (zMb A (zX xs (xi + 1)) (zX xs (xi + 2)) (zX xs (xi + 3)) (zX xs (xi + 4)).toNat)))))))]) (va_runV (As := [.int (zI (zX xs (xi + 1))), .int (zI (zX xs (xi + 2))), .int (zI (zX xs (xi + 3))), .int (zI (zX xs (xi + 4)))]) (rest := []) ⟨hx, hb, hml, hown, hts⟩ (met_X6_wouldAnchor_ok l D cs q H.size A S V xm xth xam f xl xpl gr n (zX xs (xi + 1)) (zX xs (xi + 2)) (zX xs (xi + 3)) (zX xs (xi + 4)) (by exact hI9.1) (by omega) (by omega) (zX_r xs _) (zX_r xs _) (zX_r xs _) (zX_r xs _) hc9) (cwV 4 hts gL_law_X6_wouldAnchor rfl rfl rfl (by decide +kernel) ⟨(Nat.le_of_ble_eq_true rfl), (Nat.le_of_ble_eq_true rfl)⟩) ⟨zPreZ.blind, va_recv hK hP (ci := 6) (q0 := 48) rfl rfl, fun U hU hW => zp_Z (hP.sub (ws' := zmod cs q A S V xm xth xam f xl xpl gr) [48, 49, 50, 51, 52, 53] rfl) hK (hD.sub (ws' := zmod cs q A S V xm xth xam f xl xpl gr) [48, 49, 50, 51, 52, 53] (by decide) rfl) hN hU hW⟩ rfl rfl hl.1 rfl (lv_room (Nat.le_of_ble_eq_true rfl)) dL_law_1507 ⟨by show cells + 0 + 0 ≤ 601024; omega, by show slots + 0 + 0 ≤ 7293034; omega⟩) hS hP hD hA [48, 49, 50, 51, 52, 53] [0, 1, 2, 3, 4, 5, 6, 7, 8, 9, 10, 11, 12, 13, 14, 15, 16, 17, 18, 19, 20, 21, 22, 23, 24, 25, 26, 27, 28, 29, 30, 31, 32, 33, 34, 35, 36, 37, 38, 39, 40, 41, 42, 43, 44, 45, 46, 47, 54] rfl rfl (by decide) (by decide) (fun H locs hP hD hS => ?_)
    have hP : va_P D vwCl (zest cs o A (zMp A (zX xs (xi + 1)) (zX xs (xi + 2)) (zX xs (xi + 3)) (zX xs (xi + 4)).toNat) S0 S1 S2 S3 xm f xl g xk xn xd xe ++ (zmod cs q A S (zC A V 0 0 213) xm 0 (zMc A (zX xs (xi + 1)) (zX xs (xi + 2)) (zX xs (xi + 3)) (zX xs (xi + 4)).toNat) f xl xpl gr ++ [(ou, .inl (cs 2, 1, .inr (.inl (zAL (zU gu 0 (zW (zMb A (zX xs (xi + 1)) (zX xs (xi + 2)) (zX xs (xi + 3)) (zX xs (xi + 4)).toNat)))))))])) H := zP_perm hP zPe_m
    have hD : va_D (fun z => s.heap.size ≤ z) (zest cs o A (zMp A (zX xs (xi + 1)) (zX xs (xi + 2)) (zX xs (xi + 3)) (zX xs (xi + 4)).toNat) S0 S1 S2 S3 xm f xl g xk xn xd xe ++ (zmod cs q A S (zC A V 0 0 213) xm 0 (zMc A (zX xs (xi + 1)) (zX xs (xi + 2)) (zX xs (xi + 3)) (zX xs (xi + 4)).toNat) f xl xpl gr ++ [(ou, .inl (cs 2, 1, .inr (.inl (zAL (zU gu 0 (zW (zMb A (zX xs (xi + 1)) (zX xs (xi + 2)) (zX xs (xi + 3)) (zX xs (xi + 4)).toNat)))))))])) := zD_perm hD zPe_m
    refine lv_istore (lv' := [(6, .int (zI (zMb A (zX xs (xi + 1)) (zX xs (xi + 2)) (zX xs (xi + 3)) (zX xs (xi + 4)).toNat))), (5, .int (zI 0)), (4, .int (zI xi)), (3, .ref ou), (2, .ref (q 0)), (1, .ref (o 0 0)), (0, .ref b)]) hx hb dL_law_1510 hl (by decide) rfl (fun ls hl => ?_)
    refine lv_aload_n hx hb dL_law_1512 rfl (lv_at hl 4 rfl) ?_
    refine zc_ri (va_runV (As := []) (rest := []) ⟨hx, hb, hml, hown, hts⟩ (met_X6_thrown l D cs q A S (zC A V 0 0 213) xm 0 (zMc A (zX xs (xi + 1)) (zX xs (xi + 2)) (zX xs (xi + 3)) (zX xs (xi + 4)).toNat) f xl xpl gr) (cwV 0 hts gL_law_X6_thrown rfl rfl rfl (by decide +kernel) ⟨(Nat.le_of_ble_eq_true rfl), (Nat.le_of_ble_eq_true rfl)⟩) ⟨zPre.blind, va_recv hK hP (ci := 6) (q0 := 48) rfl rfl, fun U hU hW => zp_R (hP.sub (ws' := zmod cs q A S (zC A V 0 0 213) xm 0 (zMc A (zX xs (xi + 1)) (zX xs (xi + 2)) (zX xs (xi + 3)) (zX xs (xi + 4)).toNat) f xl xpl gr) [48, 49, 50, 51, 52, 53] rfl) hK (hD.sub (ws' := zmod cs q A S (zC A V 0 0 213) xm 0 (zMc A (zX xs (xi + 1)) (zX xs (xi + 2)) (zX xs (xi + 3)) (zX xs (xi + 4)).toNat) f xl xpl gr) [48, 49, 50, 51, 52, 53] (by decide) rfl) hN hU hW⟩ rfl rfl hl.1 rfl (lv_room (Nat.le_of_ble_eq_true rfl)) dL_law_1513 ⟨by show cells + 0 + 0 + 0 ≤ 601024; omega, by show slots + 0 + 0 + 0 ≤ 7293034; omega⟩) ?_
    refine lv_iload hx hb dL_law_1516 (lv_at hl 1 rfl) ?_
    refine zr_iceq (tgt := 1523) hx hb dL_law_1518 (by decide) ?_
    refine lv_iload hx hb dL_law_1523 (lv_at hl 1 rfl) ?_
    refine zr_if_ne (tgt := 1540) hx hb dL_law_1525 (by decide) (by decide) (fun h9 => absurd h9 (by decide)) (fun _ => ?_)
    refine lv_aload_n hx hb dL_law_1528 rfl (lv_at hl 3 rfl) ?_
    refine zr_iconst hx hb dL_law_1529 ?_
    refine zr_lald (D := D) (g := zU gu 0 (zW (zMb A (zX xs (xi + 1)) (zX xs (xi + 2)) (zX xs (xi + 3)) (zX xs (xi + 4)).toNat))) hx hb hK hP 54 2 rfl rfl (by decide) (by decide) dL_law_1530 ?_
    rw [show (zU gu 0 (zW (zMb A (zX xs (xi + 1)) (zX xs (xi + 2)) (zX xs (xi + 3)) (zX xs (xi + 4)).toNat))) 0 = zW (zMb A (zX xs (xi + 1)) (zX xs (xi + 2)) (zX xs (xi + 3)) (zX xs (xi + 4)).toNat) from rfl]
    refine lv_iload hx hb dL_law_1531 (lv_at hl 0 rfl) ?_
    refine lv_i2l hx hb dL_law_1533 (zW_l (zMb A (zX xs (xi + 1)) (zX xs (xi + 2)) (zX xs (xi + 3)) (zX xs (xi + 4)).toNat)) ?_
    refine zr_lceq (tgt := 1540) hx hb dL_law_1534 dL_law_1535 (by decide) ?_
    refine lv_goto (tgt := 1683) hx hb dL_law_1540 (by decide) ?_
    refine W.widen (k := cells + 1) (n := slots + 6) (by show cells + 0 + 0 ≤ cells + 1; omega) (by show slots + 0 + 0 ≤ slots + 6; omega) ?_
    exact kk o q n A (zMp A (zX xs (xi + 1)) (zX xs (xi + 2)) (zX xs (xi + 3)) (zX xs (xi + 4)).toNat) S0 S1 S2 S3 S (zC A V 0 0 213) xm f xl g xk xn xd xe 0 (zMc A (zX xs (xi + 1)) (zX xs (xi + 2)) (zX xs (xi + 3)) (zX xs (xi + 4)).toNat) xpl gr (zU gu 0 (zW (zMb A (zX xs (xi + 1)) (zX xs (xi + 2)) (zX xs (xi + 3)) (zX xs (xi + 4)).toNat))) (by exact hI9) (by omega) H locs hP hD hS ls (lv_sub hl [2, 3, 4, 5, 6] rfl)
  replace hc9 := hc9
  refine lv_aload_n hx hb dL_law_1451 rfl (lv_at hl 3 rfl) ?_
  refine lv_aload_n hx hb dL_law_1452 rfl (lv_at hl 4 rfl) ?_
  refine lv_iload hx hb dL_law_1453 (lv_at hl 0 rfl) ?_
  refine zr_iconst hx hb dL_law_1455 ?_
  refine zr_iadd hx hb dL_law_1456 ?_
  refine zr_sls hx hb hXs hbl hbA hS hL (by omega) dL_law_1457 ?_
  refine lv_aload_n hx hb dL_law_1458 rfl (lv_at hl 4 rfl) ?_
  refine lv_iload hx hb dL_law_1459 (lv_at hl 0 rfl) ?_
  refine zr_iconst hx hb dL_law_1461 ?_
  refine zr_iadd hx hb dL_law_1462 ?_
  refine zr_sls hx hb hXs hbl hbA hS hL (by omega) dL_law_1463 ?_
  refine lv_aload_n hx hb dL_law_1464 rfl (lv_at hl 4 rfl) ?_
  refine lv_iload hx hb dL_law_1465 (lv_at hl 0 rfl) ?_
  refine zr_iconst hx hb dL_law_1467 ?_
  refine zr_iadd hx hb dL_law_1468 ?_
  refine zr_sls hx hb hXs hbl hbA hS hL (by omega) dL_law_1469 ?_
  refine lv_aload_n hx hb dL_law_1470 rfl (lv_at hl 4 rfl) ?_
  refine lv_iload hx hb dL_law_1471 (lv_at hl 0 rfl) ?_
  refine zr_iconst hx hb dL_law_1473 ?_
  refine zr_iadd hx hb dL_law_1474 ?_
  refine zr_sls hx hb hXs hbl hbA hS hL (by omega) dL_law_1475 ?_
  refine lv_aload_n hx hb dL_law_1476 rfl (lv_at hl 1 rfl) ?_
  refine zc_xk (vx_runSX (As := [.ref (o 0 0), .int (zI (zX xs (xi + 1))), .int (zI (zX xs (xi + 2))), .int (zI (zX xs (xi + 3))), .int (zI (zX xs (xi + 4))), .ref ou]) (rest := []) ⟨hx, hb, hml, hown, hts⟩ (met_L_wouldAnchor_x l hfl D cs o ou gu A T (zX xs (xi + 1)) (zX xs (xi + 2)) (zX xs (xi + 3)) (zX xs (xi + 4)) (zX_r xs _) (zX_r xs _) (zX_r xs _) (zX_r xs _) hc9) (vx_cwSW 6 hts gL_law_L_wouldAnchor rfl rfl rfl (by decide +kernel) ⟨(Nat.le_of_ble_eq_true rfl), (Nat.le_of_ble_eq_true rfl)⟩) ⟨zPreU.blind, fun U hU hW => zp_U (hP.sub (ws' := [((o 0) 0, .inr (5, [.ref ((o 1) 0), .ref ((o 2) 0), .ref ((o 3) 0), .ref ((o 8) 0)]))] ++ (zbat cs (o 1) A ++ (zbat cs (o 2) T ++ [(ou, .inl (cs 2, 1, .inr (.inl (zAL gu))))]))) [0, 1, 2, 3, 4, 5, 6, 7, 8, 9, 10, 11, 12, 13, 14, 54] rfl) hK (hD.sub (ws' := [((o 0) 0, .inr (5, [.ref ((o 1) 0), .ref ((o 2) 0), .ref ((o 3) 0), .ref ((o 8) 0)]))] ++ (zbat cs (o 1) A ++ (zbat cs (o 2) T ++ [(ou, .inl (cs 2, 1, .inr (.inl (zAL gu))))]))) [0, 1, 2, 3, 4, 5, 6, 7, 8, 9, 10, 11, 12, 13, 14, 54] (by decide) rfl) hN (hG.at hS) hC hU hW⟩ rfl rfl hl.1 rfl (lv_room (Nat.le_of_ble_eq_true rfl)) dL_law_1477 ⟨by show cells + 1 ≤ 601024; omega, by show slots + 6 ≤ 7293034; omega⟩) hS hP (fun H locs hP hS => ?_)
  refine lv_istore (lv' := [(5, .int (zI 1)), (4, .int (zI xi)), (3, .ref ou), (2, .ref (q 0)), (1, .ref (o 0 0)), (0, .ref b)]) hx hb dL_law_1480 hl (by decide) rfl (fun ls hl => ?_)
  refine lv_aload_n hx hb dL_law_1482 rfl (lv_at hl 3 rfl) ?_
  refine lv_aload_n hx hb dL_law_1483 rfl (lv_at hl 5 rfl) ?_
  refine lv_iload hx hb dL_law_1484 (lv_at hl 1 rfl) ?_
  refine zr_iconst hx hb dL_law_1486 ?_
  refine zr_iadd hx hb dL_law_1487 ?_
  refine zr_sls hx hb hXs hbl hbA hS hL (by omega) dL_law_1488 ?_
  refine lv_aload_n hx hb dL_law_1489 rfl (lv_at hl 5 rfl) ?_
  refine lv_iload hx hb dL_law_1490 (lv_at hl 1 rfl) ?_
  refine zr_iconst hx hb dL_law_1492 ?_
  refine zr_iadd hx hb dL_law_1493 ?_
  refine zr_sls hx hb hXs hbl hbA hS hL (by omega) dL_law_1494 ?_
  refine lv_aload_n hx hb dL_law_1495 rfl (lv_at hl 5 rfl) ?_
  refine lv_iload hx hb dL_law_1496 (lv_at hl 1 rfl) ?_
  refine zr_iconst hx hb dL_law_1498 ?_
  refine zr_iadd hx hb dL_law_1499 ?_
  refine zr_sls hx hb hXs hbl hbA hS hL (by omega) dL_law_1500 ?_
  refine lv_aload_n hx hb dL_law_1501 rfl (lv_at hl 5 rfl) ?_
  refine lv_iload hx hb dL_law_1502 (lv_at hl 1 rfl) ?_
  refine zr_iconst hx hb dL_law_1504 ?_
  refine zr_iadd hx hb dL_law_1505 ?_
  refine zr_sls hx hb hXs hbl hbA hS hL (by omega) dL_law_1506 ?_
  refine zc_ij (w := zmod cs q A S V xm xth xam f xl xpl gr) (wr := zest cs o A T S0 S1 S2 S3 xm f xl g xk xn xd xe ++ [(ou, .inl (cs 2, 1, .inr (.inl (zAL gu))))]) (va_runV (As := [.int (zI (zX xs (xi + 1))), .int (zI (zX xs (xi + 2))), .int (zI (zX xs (xi + 3))), .int (zI (zX xs (xi + 4)))]) (rest := []) ⟨hx, hb, hml, hown, hts⟩ (met_X6_wouldAnchor_no1 l D cs q H.size A S V xm xth xam f xl xpl gr (zX xs (xi + 1)) (zX xs (xi + 2)) (zX xs (xi + 3)) (zX xs (xi + 4)) (zX_r xs _) (zX_r xs _) (zX_r xs _) (zX_r xs _) hc9) (cwV 4 hts gL_law_X6_wouldAnchor rfl rfl rfl (by decide +kernel) ⟨(Nat.le_of_ble_eq_true rfl), (Nat.le_of_ble_eq_true rfl)⟩) ⟨zPreZ.blind, va_recv hK hP (ci := 6) (q0 := 48) rfl rfl, fun U hU hW => zp_Z (hP.sub (ws' := zmod cs q A S V xm xth xam f xl xpl gr) [48, 49, 50, 51, 52, 53] rfl) hK (hD.sub (ws' := zmod cs q A S V xm xth xam f xl xpl gr) [48, 49, 50, 51, 52, 53] (by decide) rfl) hN hU hW⟩ rfl rfl hl.1 rfl (lv_room (Nat.le_of_ble_eq_true rfl)) dL_law_1507 ⟨by show cells + 1 + 0 ≤ 601024; omega, by show slots + 6 + 0 ≤ 7293034; omega⟩) hS hP hD hA [48, 49, 50, 51, 52, 53] [0, 1, 2, 3, 4, 5, 6, 7, 8, 9, 10, 11, 12, 13, 14, 15, 16, 17, 18, 19, 20, 21, 22, 23, 24, 25, 26, 27, 28, 29, 30, 31, 32, 33, 34, 35, 36, 37, 38, 39, 40, 41, 42, 43, 44, 45, 46, 47, 54] rfl rfl (by decide) (by decide) (fun H locs hP hD hS => ?_)
  have hP : va_P D vwCl (zest cs o A T S0 S1 S2 S3 xm f xl g xk xn xd xe ++ (zmod cs q A S V xm 1 xam f xl xpl gr ++ [(ou, .inl (cs 2, 1, .inr (.inl (zAL gu))))])) H := zP_perm hP zPe_m
  have hD : va_D (fun z => s.heap.size ≤ z) (zest cs o A T S0 S1 S2 S3 xm f xl g xk xn xd xe ++ (zmod cs q A S V xm 1 xam f xl xpl gr ++ [(ou, .inl (cs 2, 1, .inr (.inl (zAL gu))))])) := zD_perm hD zPe_m
  refine lv_istore (lv' := [(6, .int (zI 0)), (5, .int (zI 1)), (4, .int (zI xi)), (3, .ref ou), (2, .ref (q 0)), (1, .ref (o 0 0)), (0, .ref b)]) hx hb dL_law_1510 hl (by decide) rfl (fun ls hl => ?_)
  refine lv_aload_n hx hb dL_law_1512 rfl (lv_at hl 4 rfl) ?_
  refine zc_ri (va_runV (As := []) (rest := []) ⟨hx, hb, hml, hown, hts⟩ (met_X6_thrown l D cs q A S V xm 1 xam f xl xpl gr) (cwV 0 hts gL_law_X6_thrown rfl rfl rfl (by decide +kernel) ⟨(Nat.le_of_ble_eq_true rfl), (Nat.le_of_ble_eq_true rfl)⟩) ⟨zPre.blind, va_recv hK hP (ci := 6) (q0 := 48) rfl rfl, fun U hU hW => zp_R (hP.sub (ws' := zmod cs q A S V xm 1 xam f xl xpl gr) [48, 49, 50, 51, 52, 53] rfl) hK (hD.sub (ws' := zmod cs q A S V xm 1 xam f xl xpl gr) [48, 49, 50, 51, 52, 53] (by decide) rfl) hN hU hW⟩ rfl rfl hl.1 rfl (lv_room (Nat.le_of_ble_eq_true rfl)) dL_law_1513 ⟨by show cells + 1 + 0 + 0 ≤ 601024; omega, by show slots + 6 + 0 + 0 ≤ 7293034; omega⟩) ?_
  refine lv_iload hx hb dL_law_1516 (lv_at hl 1 rfl) ?_
  refine zr_iceq (tgt := 1523) hx hb dL_law_1518 (by decide) ?_
  refine lv_iload hx hb dL_law_1523 (lv_at hl 1 rfl) ?_
  refine zr_if_ne (tgt := 1540) hx hb dL_law_1525 (by decide) (by decide) (fun _ => ?_) (fun h9 => absurd h9 (by decide))
  refine lv_goto (tgt := 1683) hx hb dL_law_1540 (by decide) ?_
  refine W.widen (k := cells + 1) (n := slots + 6) (by show cells + 1 + 0 ≤ cells + 1; omega) (by show slots + 6 + 0 ≤ slots + 6; omega) ?_
  exact kk o q n A T S0 S1 S2 S3 S V xm f xl g xk xn xd xe 1 xam xpl gr gu (by exact hI9) (by omega) H locs hP hD hS ls (lv_sub hl [2, 3, 4, 5, 6] rfl)
/-! the law: append -/
set_option maxHeartbeats 8000000 in
set_option maxRecDepth 100000 in
theorem law_append {p : Program} {e : Env} {s : State} {m : MethodId} {below : List Frame} {meth : Method} {c : Code} {b L : Nat} {xs : Nat → Int32} {Q : State → Prop} (l : Launch) (hfl : l.stackTraces = false) (D : va_G) (cs : Nat → ClassId) (hx : p.tables.exec = Jvm.exec) (hb : c.code = cL_law) (hml : c.maxLocals = 9) (hown : s.vm.findClass RL = some m.cls) (hts : ∀ w ∈ wsL_law, w.before #[Value.ref b] s = true) (hK : va_K D vwCl (zTy cs) s) (hN : zNW s) (hG : zXG s) (hC : zNcP s) (hO : va_AO RX1 s) (hL : L ≤ 2560) (hXs : va_X b L xs s s.heap) (hbl : b < s.heap.size) (xi : Int) (hxi : 0 ≤ xi ∧ xi + 5 ≤ L) (cells slots : Nat) (hcl : cells + 1 ≤ 601024 ∧ slots + 6 ≤ 7293034) (ou : Nat) (o : Nat → Nat → Nat) (q : Nat → Nat) (n : Int) (A T S0 S1 S2 S3 S V : Int → Int) (xm : Int) (f : Int → Int) (xl : Int) (g : Int → Int) (xk xn xd xe xth xam xpl : Int) (gr gu : Int → Int) (hI9 : zInL n A S0 S1 S2 S3 S xm f xl) (hn9 : 0 ≤ n ∧ n ≤ 1200 * xi) (H : Heap) (locs : List Loc) (hP : va_P D vwCl (zest cs o A T S0 S1 S2 S3 xm f xl g xk xn xd xe ++ (zmod cs q A S V xm xth xam f xl xpl gr ++ [(ou, .inl (cs 2, 1, .inr (.inl (zAL gu))))])) H) (hD : va_D (fun z => s.heap.size ≤ z) (zest cs o A T S0 S1 S2 S3 xm f xl g xk xn xd xe ++ (zmod cs q A S V xm xth xam f xl xpl gr ++ [(ou, .inl (cs 2, 1, .inr (.inl (zAL gu))))]))) (hS : va_S (fun z => s.heap.size ≤ z) s.heap H locs) (ls : Array Slot) (hl : lv_has ls 9 [(4, .int (zI xi)), (3, .ref ou), (2, .ref (q 0)), (1, .ref (o 0 0)), (0, .ref b)]) (kk : ∀ (o : Nat → Nat → Nat) (q : Nat → Nat) (n : Int) (A T S0 S1 S2 S3 S V : Int → Int) (xm : Int) (f : Int → Int) (xl : Int) (g : Int → Int) (xk xn xd xe xth xam xpl : Int) (gr gu : Int → Int), zInL n A S0 S1 S2 S3 S xm f xl → (0 ≤ n ∧ n ≤ 1200 * (xi + 5)) → ∀ (H : Heap) (locs : List Loc), va_P D vwCl (zest cs o A T S0 S1 S2 S3 xm f xl g xk xn xd xe ++ (zmod cs q A S V xm xth xam f xl xpl gr ++ [(ou, .inl (cs 2, 1, .inr (.inl (zAL gu))))])) H → va_D (fun z => s.heap.size ≤ z) (zest cs o A T S0 S1 S2 S3 xm f xl g xk xn xd xe ++ (zmod cs q A S V xm xth xam f xl xpl gr ++ [(ou, .inl (cs 2, 1, .inr (.inl (zAL gu))))])) → va_S (fun z => s.heap.size ≤ z) s.heap H locs → ∀ ls : Array Slot, lv_has ls 9 [(4, .int (zI xi)), (3, .ref ou), (2, .ref (q 0)), (1, .ref (o 0 0)), (0, .ref b)] → W p l e room_1 s m #[Value.ref b] below meth c H locs (cells + 1) (slots + 6) Q (F0 m 1683 ls [])) : W p l e room_1 s m #[Value.ref b] below meth c H locs cells slots Q (F0 m 1543 ls []) := by
  have hcl1 := hcl.1
  have hcl2 := hcl.2
  have hA : ∀ z : Nat, s.heap.size ≤ z → s.heap.size ≤ z := fun _ h => h
  have hbA : ¬ (s.heap.size ≤ b) := Nat.not_le.mpr hbl
  have hr1 := zX_r xs (xi + 1)
  by_cases hc9 : (0 ≤ (zX xs (xi + 1)) ∧ (zX xs (xi + 1)) ≤ 127) ∧ xl < 120
  · refine lv_aload_n hx hb dL_law_1543 rfl (lv_at hl 3 rfl) ?_
    refine lv_aload_n hx hb dL_law_1544 rfl (lv_at hl 4 rfl) ?_
    refine lv_iload hx hb dL_law_1545 (lv_at hl 0 rfl) ?_
    refine zr_iconst hx hb dL_law_1547 ?_
    refine zr_iadd hx hb dL_law_1548 ?_
    refine zr_sls hx hb hXs hbl hbA hS hL (by omega) dL_law_1549 ?_
    refine lv_aload_n hx hb dL_law_1550 rfl (lv_at hl 1 rfl) ?_
    refine zc_xi (w := [((o 0) 0, .inr (5, [.ref ((o 1) 0), .ref ((o 2) 0), .ref ((o 3) 0), .ref ((o 8) 0)])), ((o 8) 0, .inr (4, [.ref ((o 8) 1), .int (zI xl), .ref ((o 8) 2), .int (zI xk), .int (zI xn), .int (zI xd), .int (zI xe)])), ((o 8) 1, .inl (cs 1, 120, .inl (zA f))), ((o 8) 2, .inl (cs 0, 60, .inl (zA g))), (ou, .inl (cs 2, 1, .inr (.inl (zAL gu))))]) (wr := zbat cs (o 1) A ++ (zbat cs (o 2) T ++ ([(o 3 0, .inr (3, [.ref (o 3 1), .int (zI xm)])), (o 3 1, .inl (cs 3, 4, .inr (.inr (.inr (.inr (zR (o 4 0) (o 5 0) (o 6 0) (o 7 0)))))))] ++ (zbat cs (o 4) S0 ++ (zbat cs (o 5) S1 ++ (zbat cs (o 6) S2 ++ (zbat cs (o 7) S3 ++ (zmod cs q A S V xm xth xam f xl xpl gr)))))))) (vx_runSX (As := [.ref (o 0 0), .int (zI (zX xs (xi + 1))), .ref ou]) (rest := []) ⟨hx, hb, hml, hown, hts⟩ (met_L_append_ok l D cs o ou gu H.size f xl g xk xn xd xe (zX xs (xi + 1)) (by exact hI9.2.2.2.1) (zX_r xs _) hc9) (vx_cwSW 3 hts gL_law_L_append rfl rfl rfl (by decide +kernel) ⟨(Nat.le_of_ble_eq_true rfl), (Nat.le_of_ble_eq_true rfl)⟩) ⟨zPreZ.blind, fun U hU hW => zp_Z (hP.sub (ws' := [((o 0) 0, .inr (5, [.ref ((o 1) 0), .ref ((o 2) 0), .ref ((o 3) 0), .ref ((o 8) 0)])), ((o 8) 0, .inr (4, [.ref ((o 8) 1), .int (zI xl), .ref ((o 8) 2), .int (zI xk), .int (zI xn), .int (zI xd), .int (zI xe)])), ((o 8) 1, .inl (cs 1, 120, .inl (zA f))), ((o 8) 2, .inl (cs 0, 60, .inl (zA g))), (ou, .inl (cs 2, 1, .inr (.inl (zAL gu))))]) [0, 45, 46, 47, 54] rfl) hK (hD.sub (ws' := [((o 0) 0, .inr (5, [.ref ((o 1) 0), .ref ((o 2) 0), .ref ((o 3) 0), .ref ((o 8) 0)])), ((o 8) 0, .inr (4, [.ref ((o 8) 1), .int (zI xl), .ref ((o 8) 2), .int (zI xk), .int (zI xn), .int (zI xd), .int (zI xe)])), ((o 8) 1, .inl (cs 1, 120, .inl (zA f))), ((o 8) 2, .inl (cs 0, 60, .inl (zA g))), (ou, .inl (cs 2, 1, .inr (.inl (zAL gu))))]) [0, 45, 46, 47, 54] (by decide) rfl) hN hU hW⟩ rfl rfl hl.1 rfl (lv_room (Nat.le_of_ble_eq_true rfl)) dL_law_1551 ⟨by show cells + 0 ≤ 601024; omega, by show slots + 0 ≤ 7293034; omega⟩) hS hP hD hA [0, 45, 46, 47, 54] [1, 2, 3, 4, 5, 6, 7, 8, 9, 10, 11, 12, 13, 14, 15, 16, 17, 18, 19, 20, 21, 22, 23, 24, 25, 26, 27, 28, 29, 30, 31, 32, 33, 34, 35, 36, 37, 38, 39, 40, 41, 42, 43, 44, 48, 49, 50, 51, 52, 53] rfl rfl (by decide) (by decide) (fun H locs hP hD hS => ?_)
    have hP : va_P D vwCl (zest cs o A T S0 S1 S2 S3 xm (zU f xl (zX xs (xi + 1))) (xl + 1) g xk xn xd xe ++ (zmod cs q A S V xm xth xam f xl xpl gr ++ [(ou, .inl (cs 2, 1, .inr (.inl (zAL (zU gu 0 (zW (xl + 1)))))))])) H := zP_perm hP zPe_Tl
    have hD : va_D (fun z => s.heap.size ≤ z) (zest cs o A T S0 S1 S2 S3 xm (zU f xl (zX xs (xi + 1))) (xl + 1) g xk xn xd xe ++ (zmod cs q A S V xm xth xam f xl xpl gr ++ [(ou, .inl (cs 2, 1, .inr (.inl (zAL (zU gu 0 (zW (xl + 1)))))))])) := zD_perm hD zPe_Tl
    refine lv_istore (lv' := [(5, .int (zI 0)), (4, .int (zI xi)), (3, .ref ou), (2, .ref (q 0)), (1, .ref (o 0 0)), (0, .ref b)]) hx hb dL_law_1554 hl (by decide) rfl (fun ls hl => ?_)
    refine lv_aload_n hx hb dL_law_1556 rfl (lv_at hl 3 rfl) ?_
    refine lv_aload_n hx hb dL_law_1557 rfl (lv_at hl 5 rfl) ?_
    refine lv_iload hx hb dL_law_1558 (lv_at hl 1 rfl) ?_
    refine zr_iconst hx hb dL_law_1560 ?_
    refine zr_iadd hx hb dL_law_1561 ?_
    refine zr_sls hx hb hXs hbl hbA hS hL (by omega) dL_law_1562 ?_
    refine zc_ij (w := zmod cs q A S V xm xth xam f xl xpl gr) (wr := zest cs o A T S0 S1 S2 S3 xm (zU f xl (zX xs (xi + 1))) (xl + 1) g xk xn xd xe ++ [(ou, .inl (cs 2, 1, .inr (.inl (zAL (zU gu 0 (zW (xl + 1)))))))]) (va_runV (As := [.int (zI (zX xs (xi + 1)))]) (rest := []) ⟨hx, hb, hml, hown, hts⟩ (met_X6_append_ok l D cs q H.size A S V xm xth xam f xl xpl gr (zX xs (xi + 1)) (by exact hI9.2.2.2.1) (zX_r xs _) hc9) (cwV 1 hts gL_law_X6_append rfl rfl rfl (by decide +kernel) ⟨(Nat.le_of_ble_eq_true rfl), (Nat.le_of_ble_eq_true rfl)⟩) ⟨zPreZ.blind, va_recv hK hP (ci := 6) (q0 := 48) rfl rfl, fun U hU hW => zp_Z (hP.sub (ws' := zmod cs q A S V xm xth xam f xl xpl gr) [48, 49, 50, 51, 52, 53] rfl) hK (hD.sub (ws' := zmod cs q A S V xm xth xam f xl xpl gr) [48, 49, 50, 51, 52, 53] (by decide) rfl) hN hU hW⟩ rfl rfl hl.1 rfl (lv_room (Nat.le_of_ble_eq_true rfl)) dL_law_1563 ⟨by show cells + 0 + 0 ≤ 601024; omega, by show slots + 0 + 0 ≤ 7293034; omega⟩) hS hP hD hA [48, 49, 50, 51, 52, 53] [0, 1, 2, 3, 4, 5, 6, 7, 8, 9, 10, 11, 12, 13, 14, 15, 16, 17, 18, 19, 20, 21, 22, 23, 24, 25, 26, 27, 28, 29, 30, 31, 32, 33, 34, 35, 36, 37, 38, 39, 40, 41, 42, 43, 44, 45, 46, 47, 54] rfl rfl (by decide) (by decide) (fun H locs hP hD hS => ?_)
    have hP : va_P D vwCl (zest cs o A T S0 S1 S2 S3 xm (zU f xl (zX xs (xi + 1))) (xl + 1) g xk xn xd xe ++ (zmod cs q A S V xm 0 xam (zU f xl (zX xs (xi + 1))) (xl + 1) xpl gr ++ [(ou, .inl (cs 2, 1, .inr (.inl (zAL (zU gu 0 (zW (xl + 1)))))))])) H := zP_perm hP zPe_m
    have hD : va_D (fun z => s.heap.size ≤ z) (zest cs o A T S0 S1 S2 S3 xm (zU f xl (zX xs (xi + 1))) (xl + 1) g xk xn xd xe ++ (zmod cs q A S V xm 0 xam (zU f xl (zX xs (xi + 1))) (xl + 1) xpl gr ++ [(ou, .inl (cs 2, 1, .inr (.inl (zAL (zU gu 0 (zW (xl + 1)))))))])) := zD_perm hD zPe_m
    refine lv_istore (lv' := [(6, .int (zI (xl + 1))), (5, .int (zI 0)), (4, .int (zI xi)), (3, .ref ou), (2, .ref (q 0)), (1, .ref (o 0 0)), (0, .ref b)]) hx hb dL_law_1566 hl (by decide) rfl (fun ls hl => ?_)
    refine lv_aload_n hx hb dL_law_1568 rfl (lv_at hl 4 rfl) ?_
    refine zc_ri (va_runV (As := []) (rest := []) ⟨hx, hb, hml, hown, hts⟩ (met_X6_thrown l D cs q A S V xm 0 xam (zU f xl (zX xs (xi + 1))) (xl + 1) xpl gr) (cwV 0 hts gL_law_X6_thrown rfl rfl rfl (by decide +kernel) ⟨(Nat.le_of_ble_eq_true rfl), (Nat.le_of_ble_eq_true rfl)⟩) ⟨zPre.blind, va_recv hK hP (ci := 6) (q0 := 48) rfl rfl, fun U hU hW => zp_R (hP.sub (ws' := zmod cs q A S V xm 0 xam (zU f xl (zX xs (xi + 1))) (xl + 1) xpl gr) [48, 49, 50, 51, 52, 53] rfl) hK (hD.sub (ws' := zmod cs q A S V xm 0 xam (zU f xl (zX xs (xi + 1))) (xl + 1) xpl gr) [48, 49, 50, 51, 52, 53] (by decide) rfl) hN hU hW⟩ rfl rfl hl.1 rfl (lv_room (Nat.le_of_ble_eq_true rfl)) dL_law_1569 ⟨by show cells + 0 + 0 + 0 ≤ 601024; omega, by show slots + 0 + 0 + 0 ≤ 7293034; omega⟩) ?_
    refine lv_iload hx hb dL_law_1572 (lv_at hl 1 rfl) ?_
    refine zr_iceq (tgt := 1579) hx hb dL_law_1574 (by decide) ?_
    refine lv_iload hx hb dL_law_1579 (lv_at hl 1 rfl) ?_
    refine zr_if_ne (tgt := 1596) hx hb dL_law_1581 (by decide) (by decide) (fun h9 => absurd h9 (by decide)) (fun _ => ?_)
    refine lv_aload_n hx hb dL_law_1584 rfl (lv_at hl 3 rfl) ?_
    refine zr_iconst hx hb dL_law_1585 ?_
    refine zr_lald (D := D) (g := zU gu 0 (zW (xl + 1))) hx hb hK hP 54 2 rfl rfl (by decide) (by decide) dL_law_1586 ?_
    rw [show (zU gu 0 (zW (xl + 1))) 0 = zW (xl + 1) from rfl]
    refine lv_iload hx hb dL_law_1587 (lv_at hl 0 rfl) ?_
    refine lv_i2l hx hb dL_law_1589 (zW_l (xl + 1)) ?_
    refine zr_lceq (tgt := 1596) hx hb dL_law_1590 dL_law_1591 (by decide) ?_
    refine lv_goto (tgt := 1683) hx hb dL_law_1596 (by decide) ?_
    refine W.widen (k := cells + 1) (n := slots + 6) (by show cells + 0 + 0 ≤ cells + 1; omega) (by show slots + 0 + 0 ≤ slots + 6; omega) ?_
    exact kk o q n A T S0 S1 S2 S3 S V xm (zU f xl (zX xs (xi + 1))) (xl + 1) g xk xn xd xe 0 xam xpl gr (zU gu 0 (zW (xl + 1))) (by exact ⟨hI9.1, hI9.2.1, hI9.2.2.1, by have := hI9.2.2.2.1; omega, fun k a b => by simp only [zU]; split; (exact hc9.1); (exact hI9.2.2.2.2 k a (by omega))⟩) (by omega) H locs hP hD hS ls (lv_sub hl [2, 3, 4, 5, 6] rfl)
  have hcA := hc9
  by_cases hc9 : ¬ (0 ≤ (zX xs (xi + 1)) ∧ (zX xs (xi + 1)) ≤ 127)
  · refine lv_aload_n hx hb dL_law_1543 rfl (lv_at hl 3 rfl) ?_
    refine lv_aload_n hx hb dL_law_1544 rfl (lv_at hl 4 rfl) ?_
    refine lv_iload hx hb dL_law_1545 (lv_at hl 0 rfl) ?_
    refine zr_iconst hx hb dL_law_1547 ?_
    refine zr_iadd hx hb dL_law_1548 ?_
    refine zr_sls hx hb hXs hbl hbA hS hL (by omega) dL_law_1549 ?_
    refine lv_aload_n hx hb dL_law_1550 rfl (lv_at hl 1 rfl) ?_
    refine zc_xk (vx_runSX (As := [.ref (o 0 0), .int (zI (zX xs (xi + 1))), .ref ou]) (rest := []) ⟨hx, hb, hml, hown, hts⟩ (met_L_append_x1 l hfl D cs o ou gu f xl g xk xn xd xe (zX xs (xi + 1)) (by exact hI9.2.2.2.1) (zX_r xs _) hc9) (vx_cwSW 3 hts gL_law_L_append rfl rfl rfl (by decide +kernel) ⟨(Nat.le_of_ble_eq_true rfl), (Nat.le_of_ble_eq_true rfl)⟩) ⟨zPreU.blind, fun U hU hW => zp_U (hP.sub (ws' := [((o 0) 0, .inr (5, [.ref ((o 1) 0), .ref ((o 2) 0), .ref ((o 3) 0), .ref ((o 8) 0)])), ((o 8) 0, .inr (4, [.ref ((o 8) 1), .int (zI xl), .ref ((o 8) 2), .int (zI xk), .int (zI xn), .int (zI xd), .int (zI xe)])), ((o 8) 1, .inl (cs 1, 120, .inl (zA f))), ((o 8) 2, .inl (cs 0, 60, .inl (zA g))), (ou, .inl (cs 2, 1, .inr (.inl (zAL gu))))]) [0, 45, 46, 47, 54] rfl) hK (hD.sub (ws' := [((o 0) 0, .inr (5, [.ref ((o 1) 0), .ref ((o 2) 0), .ref ((o 3) 0), .ref ((o 8) 0)])), ((o 8) 0, .inr (4, [.ref ((o 8) 1), .int (zI xl), .ref ((o 8) 2), .int (zI xk), .int (zI xn), .int (zI xd), .int (zI xe)])), ((o 8) 1, .inl (cs 1, 120, .inl (zA f))), ((o 8) 2, .inl (cs 0, 60, .inl (zA g))), (ou, .inl (cs 2, 1, .inr (.inl (zAL gu))))]) [0, 45, 46, 47, 54] (by decide) rfl) hN (hG.at hS) hC hU hW⟩ rfl rfl hl.1 rfl (lv_room (Nat.le_of_ble_eq_true rfl)) dL_law_1551 ⟨by show cells + 1 ≤ 601024; omega, by show slots + 6 ≤ 7293034; omega⟩) hS hP (fun H locs hP hS => ?_)
    refine lv_istore (lv' := [(5, .int (zI 1)), (4, .int (zI xi)), (3, .ref ou), (2, .ref (q 0)), (1, .ref (o 0 0)), (0, .ref b)]) hx hb dL_law_1554 hl (by decide) rfl (fun ls hl => ?_)
    refine lv_aload_n hx hb dL_law_1556 rfl (lv_at hl 3 rfl) ?_
    refine lv_aload_n hx hb dL_law_1557 rfl (lv_at hl 5 rfl) ?_
    refine lv_iload hx hb dL_law_1558 (lv_at hl 1 rfl) ?_
    refine zr_iconst hx hb dL_law_1560 ?_
    refine zr_iadd hx hb dL_law_1561 ?_
    refine zr_sls hx hb hXs hbl hbA hS hL (by omega) dL_law_1562 ?_
    refine zc_ij (w := zmod cs q A S V xm xth xam f xl xpl gr) (wr := zest cs o A T S0 S1 S2 S3 xm f xl g xk xn xd xe ++ [(ou, .inl (cs 2, 1, .inr (.inl (zAL gu))))]) (va_runV (As := [.int (zI (zX xs (xi + 1)))]) (rest := []) ⟨hx, hb, hml, hown, hts⟩ (met_X6_append_no1 l D cs q H.size A S V xm xth xam f xl xpl gr (zX xs (xi + 1)) (by exact hI9.2.2.2.1) (zX_r xs _) hc9) (cwV 1 hts gL_law_X6_append rfl rfl rfl (by decide +kernel) ⟨(Nat.le_of_ble_eq_true rfl), (Nat.le_of_ble_eq_true rfl)⟩) ⟨zPreZ.blind, va_recv hK hP (ci := 6) (q0 := 48) rfl rfl, fun U hU hW => zp_Z (hP.sub (ws' := zmod cs q A S V xm xth xam f xl xpl gr) [48, 49, 50, 51, 52, 53] rfl) hK (hD.sub (ws' := zmod cs q A S V xm xth xam f xl xpl gr) [48, 49, 50, 51, 52, 53] (by decide) rfl) hN hU hW⟩ rfl rfl hl.1 rfl (lv_room (Nat.le_of_ble_eq_true rfl)) dL_law_1563 ⟨by show cells + 1 + 0 ≤ 601024; omega, by show slots + 6 + 0 ≤ 7293034; omega⟩) hS hP hD hA [48, 49, 50, 51, 52, 53] [0, 1, 2, 3, 4, 5, 6, 7, 8, 9, 10, 11, 12, 13, 14, 15, 16, 17, 18, 19, 20, 21, 22, 23, 24, 25, 26, 27, 28, 29, 30, 31, 32, 33, 34, 35, 36, 37, 38, 39, 40, 41, 42, 43, 44, 45, 46, 47, 54] rfl rfl (by decide) (by decide) (fun H locs hP hD hS => ?_)
    have hP : va_P D vwCl (zest cs o A T S0 S1 S2 S3 xm f xl g xk xn xd xe ++ (zmod cs q A S V xm 1 xam f xl xpl gr ++ [(ou, .inl (cs 2, 1, .inr (.inl (zAL gu))))])) H := zP_perm hP zPe_m
    have hD : va_D (fun z => s.heap.size ≤ z) (zest cs o A T S0 S1 S2 S3 xm f xl g xk xn xd xe ++ (zmod cs q A S V xm 1 xam f xl xpl gr ++ [(ou, .inl (cs 2, 1, .inr (.inl (zAL gu))))])) := zD_perm hD zPe_m
    refine lv_istore (lv' := [(6, .int (zI 0)), (5, .int (zI 1)), (4, .int (zI xi)), (3, .ref ou), (2, .ref (q 0)), (1, .ref (o 0 0)), (0, .ref b)]) hx hb dL_law_1566 hl (by decide) rfl (fun ls hl => ?_)
    refine lv_aload_n hx hb dL_law_1568 rfl (lv_at hl 4 rfl) ?_
    refine zc_ri (va_runV (As := []) (rest := []) ⟨hx, hb, hml, hown, hts⟩ (met_X6_thrown l D cs q A S V xm 1 xam f xl xpl gr) (cwV 0 hts gL_law_X6_thrown rfl rfl rfl (by decide +kernel) ⟨(Nat.le_of_ble_eq_true rfl), (Nat.le_of_ble_eq_true rfl)⟩) ⟨zPre.blind, va_recv hK hP (ci := 6) (q0 := 48) rfl rfl, fun U hU hW => zp_R (hP.sub (ws' := zmod cs q A S V xm 1 xam f xl xpl gr) [48, 49, 50, 51, 52, 53] rfl) hK (hD.sub (ws' := zmod cs q A S V xm 1 xam f xl xpl gr) [48, 49, 50, 51, 52, 53] (by decide) rfl) hN hU hW⟩ rfl rfl hl.1 rfl (lv_room (Nat.le_of_ble_eq_true rfl)) dL_law_1569 ⟨by show cells + 1 + 0 + 0 ≤ 601024; omega, by show slots + 6 + 0 + 0 ≤ 7293034; omega⟩) ?_
    refine lv_iload hx hb dL_law_1572 (lv_at hl 1 rfl) ?_
    refine zr_iceq (tgt := 1579) hx hb dL_law_1574 (by decide) ?_
    refine lv_iload hx hb dL_law_1579 (lv_at hl 1 rfl) ?_
    refine zr_if_ne (tgt := 1596) hx hb dL_law_1581 (by decide) (by decide) (fun _ => ?_) (fun h9 => absurd h9 (by decide))
    refine lv_goto (tgt := 1683) hx hb dL_law_1596 (by decide) ?_
    refine W.widen (k := cells + 1) (n := slots + 6) (by show cells + 1 + 0 ≤ cells + 1; omega) (by show slots + 6 + 0 ≤ slots + 6; omega) ?_
    exact kk o q n A T S0 S1 S2 S3 S V xm f xl g xk xn xd xe 1 xam xpl gr gu (by exact hI9) (by omega) H locs hP hD hS ls (lv_sub hl [2, 3, 4, 5, 6] rfl)
  have hcB := hc9
  have hc9 : (0 ≤ (zX xs (xi + 1)) ∧ (zX xs (xi + 1)) ≤ 127) ∧ ¬ (xl < 120) := ⟨Decidable.not_not.mp hcB, fun h => hcA ⟨Decidable.not_not.mp hcB, h⟩⟩
  refine lv_aload_n hx hb dL_law_1543 rfl (lv_at hl 3 rfl) ?_
  refine lv_aload_n hx hb dL_law_1544 rfl (lv_at hl 4 rfl) ?_
  refine lv_iload hx hb dL_law_1545 (lv_at hl 0 rfl) ?_
  refine zr_iconst hx hb dL_law_1547 ?_
  refine zr_iadd hx hb dL_law_1548 ?_
  refine zr_sls hx hb hXs hbl hbA hS hL (by omega) dL_law_1549 ?_
  refine lv_aload_n hx hb dL_law_1550 rfl (lv_at hl 1 rfl) ?_
  refine zc_xk (vx_runSX (As := [.ref (o 0 0), .int (zI (zX xs (xi + 1))), .ref ou]) (rest := []) ⟨hx, hb, hml, hown, hts⟩ (met_L_append_x2 l hfl D cs o ou gu f xl g xk xn xd xe (zX xs (xi + 1)) (by exact hI9.2.2.2.1) (zX_r xs _) hc9) (vx_cwSW 3 hts gL_law_L_append rfl rfl rfl (by decide +kernel) ⟨(Nat.le_of_ble_eq_true rfl), (Nat.le_of_ble_eq_true rfl)⟩) ⟨zPreU.blind, fun U hU hW => zp_U (hP.sub (ws' := [((o 0) 0, .inr (5, [.ref ((o 1) 0), .ref ((o 2) 0), .ref ((o 3) 0), .ref ((o 8) 0)])), ((o 8) 0, .inr (4, [.ref ((o 8) 1), .int (zI xl), .ref ((o 8) 2), .int (zI xk), .int (zI xn), .int (zI xd), .int (zI xe)])), ((o 8) 1, .inl (cs 1, 120, .inl (zA f))), ((o 8) 2, .inl (cs 0, 60, .inl (zA g))), (ou, .inl (cs 2, 1, .inr (.inl (zAL gu))))]) [0, 45, 46, 47, 54] rfl) hK (hD.sub (ws' := [((o 0) 0, .inr (5, [.ref ((o 1) 0), .ref ((o 2) 0), .ref ((o 3) 0), .ref ((o 8) 0)])), ((o 8) 0, .inr (4, [.ref ((o 8) 1), .int (zI xl), .ref ((o 8) 2), .int (zI xk), .int (zI xn), .int (zI xd), .int (zI xe)])), ((o 8) 1, .inl (cs 1, 120, .inl (zA f))), ((o 8) 2, .inl (cs 0, 60, .inl (zA g))), (ou, .inl (cs 2, 1, .inr (.inl (zAL gu))))]) [0, 45, 46, 47, 54] (by decide) rfl) hN (hG.at hS) hC hU hW⟩ rfl rfl hl.1 rfl (lv_room (Nat.le_of_ble_eq_true rfl)) dL_law_1551 ⟨by show cells + 1 ≤ 601024; omega, by show slots + 6 ≤ 7293034; omega⟩) hS hP (fun H locs hP hS => ?_)
  refine lv_istore (lv' := [(5, .int (zI 2)), (4, .int (zI xi)), (3, .ref ou), (2, .ref (q 0)), (1, .ref (o 0 0)), (0, .ref b)]) hx hb dL_law_1554 hl (by decide) rfl (fun ls hl => ?_)
  refine lv_aload_n hx hb dL_law_1556 rfl (lv_at hl 3 rfl) ?_
  refine lv_aload_n hx hb dL_law_1557 rfl (lv_at hl 5 rfl) ?_
  refine lv_iload hx hb dL_law_1558 (lv_at hl 1 rfl) ?_
  refine zr_iconst hx hb dL_law_1560 ?_
  refine zr_iadd hx hb dL_law_1561 ?_
  refine zr_sls hx hb hXs hbl hbA hS hL (by omega) dL_law_1562 ?_
  refine zc_ij (w := zmod cs q A S V xm xth xam f xl xpl gr) (wr := zest cs o A T S0 S1 S2 S3 xm f xl g xk xn xd xe ++ [(ou, .inl (cs 2, 1, .inr (.inl (zAL gu))))]) (va_runV (As := [.int (zI (zX xs (xi + 1)))]) (rest := []) ⟨hx, hb, hml, hown, hts⟩ (met_X6_append_no2 l D cs q H.size A S V xm xth xam f xl xpl gr (zX xs (xi + 1)) (by exact hI9.2.2.2.1) (zX_r xs _) hc9) (cwV 1 hts gL_law_X6_append rfl rfl rfl (by decide +kernel) ⟨(Nat.le_of_ble_eq_true rfl), (Nat.le_of_ble_eq_true rfl)⟩) ⟨zPreZ.blind, va_recv hK hP (ci := 6) (q0 := 48) rfl rfl, fun U hU hW => zp_Z (hP.sub (ws' := zmod cs q A S V xm xth xam f xl xpl gr) [48, 49, 50, 51, 52, 53] rfl) hK (hD.sub (ws' := zmod cs q A S V xm xth xam f xl xpl gr) [48, 49, 50, 51, 52, 53] (by decide) rfl) hN hU hW⟩ rfl rfl hl.1 rfl (lv_room (Nat.le_of_ble_eq_true rfl)) dL_law_1563 ⟨by show cells + 1 + 0 ≤ 601024; omega, by show slots + 6 + 0 ≤ 7293034; omega⟩) hS hP hD hA [48, 49, 50, 51, 52, 53] [0, 1, 2, 3, 4, 5, 6, 7, 8, 9, 10, 11, 12, 13, 14, 15, 16, 17, 18, 19, 20, 21, 22, 23, 24, 25, 26, 27, 28, 29, 30, 31, 32, 33, 34, 35, 36, 37, 38, 39, 40, 41, 42, 43, 44, 45, 46, 47, 54] rfl rfl (by decide) (by decide) (fun H locs hP hD hS => ?_)
  have hP : va_P D vwCl (zest cs o A T S0 S1 S2 S3 xm f xl g xk xn xd xe ++ (zmod cs q A S V xm 2 xam f xl xpl gr ++ [(ou, .inl (cs 2, 1, .inr (.inl (zAL gu))))])) H := zP_perm hP zPe_m
  have hD : va_D (fun z => s.heap.size ≤ z) (zest cs o A T S0 S1 S2 S3 xm f xl g xk xn xd xe ++ (zmod cs q A S V xm 2 xam f xl xpl gr ++ [(ou, .inl (cs 2, 1, .inr (.inl (zAL gu))))])) := zD_perm hD zPe_m
  refine lv_istore (lv' := [(6, .int (zI 0)), (5, .int (zI 2)), (4, .int (zI xi)), (3, .ref ou), (2, .ref (q 0)), (1, .ref (o 0 0)), (0, .ref b)]) hx hb dL_law_1566 hl (by decide) rfl (fun ls hl => ?_)
  refine lv_aload_n hx hb dL_law_1568 rfl (lv_at hl 4 rfl) ?_
  refine zc_ri (va_runV (As := []) (rest := []) ⟨hx, hb, hml, hown, hts⟩ (met_X6_thrown l D cs q A S V xm 2 xam f xl xpl gr) (cwV 0 hts gL_law_X6_thrown rfl rfl rfl (by decide +kernel) ⟨(Nat.le_of_ble_eq_true rfl), (Nat.le_of_ble_eq_true rfl)⟩) ⟨zPre.blind, va_recv hK hP (ci := 6) (q0 := 48) rfl rfl, fun U hU hW => zp_R (hP.sub (ws' := zmod cs q A S V xm 2 xam f xl xpl gr) [48, 49, 50, 51, 52, 53] rfl) hK (hD.sub (ws' := zmod cs q A S V xm 2 xam f xl xpl gr) [48, 49, 50, 51, 52, 53] (by decide) rfl) hN hU hW⟩ rfl rfl hl.1 rfl (lv_room (Nat.le_of_ble_eq_true rfl)) dL_law_1569 ⟨by show cells + 1 + 0 + 0 ≤ 601024; omega, by show slots + 6 + 0 + 0 ≤ 7293034; omega⟩) ?_
  refine lv_iload hx hb dL_law_1572 (lv_at hl 1 rfl) ?_
  refine zr_iceq (tgt := 1579) hx hb dL_law_1574 (by decide) ?_
  refine lv_iload hx hb dL_law_1579 (lv_at hl 1 rfl) ?_
  refine zr_if_ne (tgt := 1596) hx hb dL_law_1581 (by decide) (by decide) (fun _ => ?_) (fun h9 => absurd h9 (by decide))
  refine lv_goto (tgt := 1683) hx hb dL_law_1596 (by decide) ?_
  refine W.widen (k := cells + 1) (n := slots + 6) (by show cells + 1 + 0 ≤ cells + 1; omega) (by show slots + 6 + 0 ≤ slots + 6; omega) ?_
  exact kk o q n A T S0 S1 S2 S3 S V xm f xl g xk xn xd xe 2 xam xpl gr gu (by exact hI9) (by omega) H locs hP hD hS ls (lv_sub hl [2, 3, 4, 5, 6] rfl)
/-! the law: undo -/
set_option maxHeartbeats 8000000 in
set_option maxRecDepth 100000 in
theorem law_undo {p : Program} {e : Env} {s : State} {m : MethodId} {below : List Frame} {meth : Method} {c : Code} {b L : Nat} {xs : Nat → Int32} {Q : State → Prop} (l : Launch) (hfl : l.stackTraces = false) (D : va_G) (cs : Nat → ClassId) (hx : p.tables.exec = Jvm.exec) (hb : c.code = cL_law) (hml : c.maxLocals = 9) (hown : s.vm.findClass RL = some m.cls) (hts : ∀ w ∈ wsL_law, w.before #[Value.ref b] s = true) (hK : va_K D vwCl (zTy cs) s) (hN : zNW s) (hG : zXG s) (hC : zNcP s) (hO : va_AO RX1 s) (hL : L ≤ 2560) (hXs : va_X b L xs s s.heap) (hbl : b < s.heap.size) (xi : Int) (hxi : 0 ≤ xi ∧ xi + 5 ≤ L) (cells slots : Nat) (hcl : cells + 1 ≤ 601024 ∧ slots + 6 ≤ 7293034) (ou : Nat) (o : Nat → Nat → Nat) (q : Nat → Nat) (n : Int) (A T S0 S1 S2 S3 S V : Int → Int) (xm : Int) (f : Int → Int) (xl : Int) (g : Int → Int) (xk xn xd xe xth xam xpl : Int) (gr gu : Int → Int) (hI9 : zInL n A S0 S1 S2 S3 S xm f xl) (hn9 : 0 ≤ n ∧ n ≤ 1200 * xi) (H : Heap) (locs : List Loc) (hP : va_P D vwCl (zest cs o A T S0 S1 S2 S3 xm f xl g xk xn xd xe ++ (zmod cs q A S V xm xth xam f xl xpl gr ++ [(ou, .inl (cs 2, 1, .inr (.inl (zAL gu))))])) H) (hD : va_D (fun z => s.heap.size ≤ z) (zest cs o A T S0 S1 S2 S3 xm f xl g xk xn xd xe ++ (zmod cs q A S V xm xth xam f xl xpl gr ++ [(ou, .inl (cs 2, 1, .inr (.inl (zAL gu))))]))) (hS : va_S (fun z => s.heap.size ≤ z) s.heap H locs) (ls : Array Slot) (hl : lv_has ls 9 [(4, .int (zI xi)), (3, .ref ou), (2, .ref (q 0)), (1, .ref (o 0 0)), (0, .ref b)]) (kk : ∀ (o : Nat → Nat → Nat) (q : Nat → Nat) (n : Int) (A T S0 S1 S2 S3 S V : Int → Int) (xm : Int) (f : Int → Int) (xl : Int) (g : Int → Int) (xk xn xd xe xth xam xpl : Int) (gr gu : Int → Int), zInL n A S0 S1 S2 S3 S xm f xl → (0 ≤ n ∧ n ≤ 1200 * (xi + 5)) → ∀ (H : Heap) (locs : List Loc), va_P D vwCl (zest cs o A T S0 S1 S2 S3 xm f xl g xk xn xd xe ++ (zmod cs q A S V xm xth xam f xl xpl gr ++ [(ou, .inl (cs 2, 1, .inr (.inl (zAL gu))))])) H → va_D (fun z => s.heap.size ≤ z) (zest cs o A T S0 S1 S2 S3 xm f xl g xk xn xd xe ++ (zmod cs q A S V xm xth xam f xl xpl gr ++ [(ou, .inl (cs 2, 1, .inr (.inl (zAL gu))))])) → va_S (fun z => s.heap.size ≤ z) s.heap H locs → ∀ ls : Array Slot, lv_has ls 9 [(4, .int (zI xi)), (3, .ref ou), (2, .ref (q 0)), (1, .ref (o 0 0)), (0, .ref b)] → W p l e room_1 s m #[Value.ref b] below meth c H locs (cells + 1) (slots + 6) Q (F0 m 1683 ls [])) : W p l e room_1 s m #[Value.ref b] below meth c H locs cells slots Q (F0 m 1625 ls []) := by
  have hcl1 := hcl.1
  have hcl2 := hcl.2
  have hA : ∀ z : Nat, s.heap.size ≤ z → s.heap.size ≤ z := fun _ h => h
  have hbA : ¬ (s.heap.size ≤ b) := Nat.not_le.mpr hbl
  by_cases hc9 : 0 < xm
  · refine lv_aload_n hx hb dL_law_1625 rfl (lv_at hl 3 rfl) ?_
    refine lv_aload_n hx hb dL_law_1626 rfl (lv_at hl 1 rfl) ?_
    refine zc_xi (w := [((o 0) 0, .inr (5, [.ref ((o 1) 0), .ref ((o 2) 0), .ref ((o 3) 0), .ref ((o 8) 0)]))] ++ (zbat cs (o 1) A ++ ([((o 3) 0, .inr (3, [.ref ((o 3) 1), .int (zI xm)])), ((o 3) 1, .inl (cs 3, 4, .inr (.inr (.inr (.inr (zR ((o 4) 0) ((o 5) 0) ((o 6) 0) ((o 7) 0)))))))] ++ (zbat cs (o 4) S0 ++ (zbat cs (o 5) S1 ++ (zbat cs (o 6) S2 ++ (zbat cs (o 7) S3 ++ [(ou, .inl (cs 2, 1, .inr (.inl (zAL gu))))]))))))) (wr := zbat cs (o 2) T ++ (ztxt cs (o 8) f xl g xk xn xd xe ++ (zmod cs q A S V xm xth xam f xl xpl gr))) (vx_runSX (As := [.ref (o 0 0), .ref ou]) (rest := []) ⟨hx, hb, hml, hown, hts⟩ (met_L_undo_ok l D cs o ou gu H.size A S0 S1 S2 S3 xm (by exact hI9.2.1) (by have u9 := hI9.2.2.1.undo (A := A) ⟨hc9, hI9.2.1.2⟩; exact (zOK_q u9.1).2.2.2.2.2.2.2.2.2.2.2.2.1) hc9) (vx_cwSW 2 hts gL_law_L_undo rfl rfl rfl (by decide +kernel) ⟨(Nat.le_of_ble_eq_true rfl), (Nat.le_of_ble_eq_true rfl)⟩) ⟨zPreZ.blind, fun U hU hW => zp_Z (hP.sub (ws' := [((o 0) 0, .inr (5, [.ref ((o 1) 0), .ref ((o 2) 0), .ref ((o 3) 0), .ref ((o 8) 0)]))] ++ (zbat cs (o 1) A ++ ([((o 3) 0, .inr (3, [.ref ((o 3) 1), .int (zI xm)])), ((o 3) 1, .inl (cs 3, 4, .inr (.inr (.inr (.inr (zR ((o 4) 0) ((o 5) 0) ((o 6) 0) ((o 7) 0)))))))] ++ (zbat cs (o 4) S0 ++ (zbat cs (o 5) S1 ++ (zbat cs (o 6) S2 ++ (zbat cs (o 7) S3 ++ [(ou, .inl (cs 2, 1, .inr (.inl (zAL gu))))]))))))) [0, 1, 2, 3, 4, 5, 6, 7, 15, 16, 17, 18, 19, 20, 21, 22, 23, 24, 25, 26, 27, 28, 29, 30, 31, 32, 33, 34, 35, 36, 37, 38, 39, 40, 41, 42, 43, 44, 54] rfl) hK (hD.sub (ws' := [((o 0) 0, .inr (5, [.ref ((o 1) 0), .ref ((o 2) 0), .ref ((o 3) 0), .ref ((o 8) 0)]))] ++ (zbat cs (o 1) A ++ ([((o 3) 0, .inr (3, [.ref ((o 3) 1), .int (zI xm)])), ((o 3) 1, .inl (cs 3, 4, .inr (.inr (.inr (.inr (zR ((o 4) 0) ((o 5) 0) ((o 6) 0) ((o 7) 0)))))))] ++ (zbat cs (o 4) S0 ++ (zbat cs (o 5) S1 ++ (zbat cs (o 6) S2 ++ (zbat cs (o 7) S3 ++ [(ou, .inl (cs 2, 1, .inr (.inl (zAL gu))))]))))))) [0, 1, 2, 3, 4, 5, 6, 7, 15, 16, 17, 18, 19, 20, 21, 22, 23, 24, 25, 26, 27, 28, 29, 30, 31, 32, 33, 34, 35, 36, 37, 38, 39, 40, 41, 42, 43, 44, 54] (by decide) rfl) hN hU hW⟩ rfl rfl hl.1 rfl (lv_room (Nat.le_of_ble_eq_true rfl)) dL_law_1627 ⟨by show cells + 0 ≤ 601024; omega, by show slots + 0 ≤ 7293034; omega⟩) hS hP hD hA [0, 1, 2, 3, 4, 5, 6, 7, 15, 16, 17, 18, 19, 20, 21, 22, 23, 24, 25, 26, 27, 28, 29, 30, 31, 32, 33, 34, 35, 36, 37, 38, 39, 40, 41, 42, 43, 44, 54] [8, 9, 10, 11, 12, 13, 14, 45, 46, 47, 48, 49, 50, 51, 52, 53] rfl rfl (by decide) (by decide) (fun H locs hP hD hS => ?_)
    have hP : va_P D vwCl (zest cs o (zr4 xm S0 S1 S2 S3) T S0 S1 S2 S3 (xm - 1) f xl g xk xn xd xe ++ (zmod cs q A S V xm xth xam f xl xpl gr ++ [(ou, .inl (cs 2, 1, .inr (.inl (zAL (zU gu 0 (zW (xm - 1)))))))])) H := zP_perm hP zPe_H
    have hD : va_D (fun z => s.heap.size ≤ z) (zest cs o (zr4 xm S0 S1 S2 S3) T S0 S1 S2 S3 (xm - 1) f xl g xk xn xd xe ++ (zmod cs q A S V xm xth xam f xl xpl gr ++ [(ou, .inl (cs 2, 1, .inr (.inl (zAL (zU gu 0 (zW (xm - 1)))))))])) := zD_perm hD zPe_H
    refine lv_istore (lv' := [(5, .int (zI 0)), (4, .int (zI xi)), (3, .ref ou), (2, .ref (q 0)), (1, .ref (o 0 0)), (0, .ref b)]) hx hb dL_law_1630 hl (by decide) rfl (fun ls hl => ?_)
    refine lv_aload_n hx hb dL_law_1632 rfl (lv_at hl 3 rfl) ?_
    refine zc_ij (w := zmod cs q A S V xm xth xam f xl xpl gr) (wr := zest cs o (zr4 xm S0 S1 S2 S3) T S0 S1 S2 S3 (xm - 1) f xl g xk xn xd xe ++ [(ou, .inl (cs 2, 1, .inr (.inl (zAL (zU gu 0 (zW (xm - 1)))))))]) (va_runV (As := []) (rest := []) ⟨hx, hb, hml, hown, hts⟩ (met_X6_undo_ok l D cs q H.size A S V xm xth xam f xl xpl gr (by exact hI9.2.1) hc9) (cwV 0 hts gL_law_X6_undo rfl rfl rfl (by decide +kernel) ⟨(Nat.le_of_ble_eq_true rfl), (Nat.le_of_ble_eq_true rfl)⟩) ⟨zPreZ.blind, va_recv hK hP (ci := 6) (q0 := 48) rfl rfl, fun U hU hW => zp_Z (hP.sub (ws' := zmod cs q A S V xm xth xam f xl xpl gr) [48, 49, 50, 51, 52, 53] rfl) hK (hD.sub (ws' := zmod cs q A S V xm xth xam f xl xpl gr) [48, 49, 50, 51, 52, 53] (by decide) rfl) hN hU hW⟩ rfl rfl hl.1 rfl (lv_room (Nat.le_of_ble_eq_true rfl)) dL_law_1633 ⟨by show cells + 0 + 0 ≤ 601024; omega, by show slots + 0 + 0 ≤ 7293034; omega⟩) hS hP hD hA [48, 49, 50, 51, 52, 53] [0, 1, 2, 3, 4, 5, 6, 7, 8, 9, 10, 11, 12, 13, 14, 15, 16, 17, 18, 19, 20, 21, 22, 23, 24, 25, 26, 27, 28, 29, 30, 31, 32, 33, 34, 35, 36, 37, 38, 39, 40, 41, 42, 43, 44, 45, 46, 47, 54] rfl rfl (by decide) (by decide) (fun H locs hP hD hS => ?_)
    have hP : va_P D vwCl (zest cs o (zr4 xm S0 S1 S2 S3) T S0 S1 S2 S3 (xm - 1) f xl g xk xn xd xe ++ (zmod cs q (zUn S A xm) S V (xm - 1) 0 xam f xl xpl gr ++ [(ou, .inl (cs 2, 1, .inr (.inl (zAL (zU gu 0 (zW (xm - 1)))))))])) H := zP_perm hP zPe_m
    have hD : va_D (fun z => s.heap.size ≤ z) (zest cs o (zr4 xm S0 S1 S2 S3) T S0 S1 S2 S3 (xm - 1) f xl g xk xn xd xe ++ (zmod cs q (zUn S A xm) S V (xm - 1) 0 xam f xl xpl gr ++ [(ou, .inl (cs 2, 1, .inr (.inl (zAL (zU gu 0 (zW (xm - 1)))))))])) := zD_perm hD zPe_m
    refine lv_istore (lv' := [(6, .int (zI (xm - 1))), (5, .int (zI 0)), (4, .int (zI xi)), (3, .ref ou), (2, .ref (q 0)), (1, .ref (o 0 0)), (0, .ref b)]) hx hb dL_law_1636 hl (by decide) rfl (fun ls hl => ?_)
    refine lv_aload_n hx hb dL_law_1638 rfl (lv_at hl 4 rfl) ?_
    refine zc_ri (va_runV (As := []) (rest := []) ⟨hx, hb, hml, hown, hts⟩ (met_X6_thrown l D cs q (zUn S A xm) S V (xm - 1) 0 xam f xl xpl gr) (cwV 0 hts gL_law_X6_thrown rfl rfl rfl (by decide +kernel) ⟨(Nat.le_of_ble_eq_true rfl), (Nat.le_of_ble_eq_true rfl)⟩) ⟨zPre.blind, va_recv hK hP (ci := 6) (q0 := 48) rfl rfl, fun U hU hW => zp_R (hP.sub (ws' := zmod cs q (zUn S A xm) S V (xm - 1) 0 xam f xl xpl gr) [48, 49, 50, 51, 52, 53] rfl) hK (hD.sub (ws' := zmod cs q (zUn S A xm) S V (xm - 1) 0 xam f xl xpl gr) [48, 49, 50, 51, 52, 53] (by decide) rfl) hN hU hW⟩ rfl rfl hl.1 rfl (lv_room (Nat.le_of_ble_eq_true rfl)) dL_law_1639 ⟨by show cells + 0 + 0 + 0 ≤ 601024; omega, by show slots + 0 + 0 + 0 ≤ 7293034; omega⟩) ?_
    refine lv_iload hx hb dL_law_1642 (lv_at hl 1 rfl) ?_
    refine zr_iceq (tgt := 1649) hx hb dL_law_1644 (by decide) ?_
    refine lv_iload hx hb dL_law_1649 (lv_at hl 1 rfl) ?_
    refine zr_if_ne (tgt := 1666) hx hb dL_law_1651 (by decide) (by decide) (fun h9 => absurd h9 (by decide)) (fun _ => ?_)
    refine lv_aload_n hx hb dL_law_1654 rfl (lv_at hl 3 rfl) ?_
    refine zr_iconst hx hb dL_law_1655 ?_
    refine zr_lald (D := D) (g := zU gu 0 (zW (xm - 1))) hx hb hK hP 54 2 rfl rfl (by decide) (by decide) dL_law_1656 ?_
    rw [show (zU gu 0 (zW (xm - 1))) 0 = zW (xm - 1) from rfl]
    refine lv_iload hx hb dL_law_1657 (lv_at hl 0 rfl) ?_
    refine lv_i2l hx hb dL_law_1659 (zW_l (xm - 1)) ?_
    refine zr_lceq (tgt := 1666) hx hb dL_law_1660 dL_law_1661 (by decide) ?_
    refine lv_goto (tgt := 1683) hx hb dL_law_1666 (by decide) ?_
    refine W.widen (k := cells + 1) (n := slots + 6) (by show cells + 0 + 0 ≤ cells + 1; omega) (by show slots + 0 + 0 ≤ slots + 6; omega) ?_
    have u9 := hI9.2.2.1.undo (A := A) ⟨hc9, hI9.2.1.2⟩
    have hP : va_P D vwCl (zest cs o (zr4 xm S0 S1 S2 S3) T S0 S1 S2 S3 (xm - 1) f xl g xk xn xd xe ++ (zmod cs q (zr4 xm S0 S1 S2 S3) S V (xm - 1) 0 xam f xl xpl gr ++ [(ou, .inl (cs 2, 1, .inr (.inl (zAL (zU gu 0 (zW (xm - 1)))))))])) H := by
      obtain ⟨p1, p2⟩ := zP_app.mp hP
      obtain ⟨p3, p4⟩ := zP_app.mp p2
      exact zP_app.mpr ⟨p1, zP_app.mpr ⟨zmod_ext p3 (fun k a b => (u9.2.1 k a b).symm), p4⟩⟩
    have hD : va_D (fun z => s.heap.size ≤ z) (zest cs o (zr4 xm S0 S1 S2 S3) T S0 S1 S2 S3 (xm - 1) f xl g xk xn xd xe ++ (zmod cs q (zr4 xm S0 S1 S2 S3) S V (xm - 1) 0 xam f xl xpl gr ++ [(ou, .inl (cs 2, 1, .inr (.inl (zAL (zU gu 0 (zW (xm - 1)))))))])) := zD_addr hD rfl
    exact kk o q n (zr4 xm S0 S1 S2 S3) T S0 S1 S2 S3 S V (xm - 1) f xl g xk xn xd xe 0 xam xpl gr (zU gu 0 (zW (xm - 1))) (by exact ⟨u9.1, by have := hI9.2.1; omega, u9.2.2, hI9.2.2.2⟩) (by omega) H locs hP hD hS ls (lv_sub hl [2, 3, 4, 5, 6] rfl)
  replace hc9 := hc9
  refine lv_aload_n hx hb dL_law_1625 rfl (lv_at hl 3 rfl) ?_
  refine lv_aload_n hx hb dL_law_1626 rfl (lv_at hl 1 rfl) ?_
  refine zc_xk (vx_runSX (As := [.ref (o 0 0), .ref ou]) (rest := []) ⟨hx, hb, hml, hown, hts⟩ (met_L_undo_x l hfl D cs o ou gu A S0 S1 S2 S3 xm (by exact hI9.2.1) hc9) (vx_cwSW 2 hts gL_law_L_undo rfl rfl rfl (by decide +kernel) ⟨(Nat.le_of_ble_eq_true rfl), (Nat.le_of_ble_eq_true rfl)⟩) ⟨zPreU.blind, fun U hU hW => zp_U (hP.sub (ws' := [((o 0) 0, .inr (5, [.ref ((o 1) 0), .ref ((o 2) 0), .ref ((o 3) 0), .ref ((o 8) 0)]))] ++ (zbat cs (o 1) A ++ ([((o 3) 0, .inr (3, [.ref ((o 3) 1), .int (zI xm)])), ((o 3) 1, .inl (cs 3, 4, .inr (.inr (.inr (.inr (zR ((o 4) 0) ((o 5) 0) ((o 6) 0) ((o 7) 0)))))))] ++ (zbat cs (o 4) S0 ++ (zbat cs (o 5) S1 ++ (zbat cs (o 6) S2 ++ (zbat cs (o 7) S3 ++ [(ou, .inl (cs 2, 1, .inr (.inl (zAL gu))))]))))))) [0, 1, 2, 3, 4, 5, 6, 7, 15, 16, 17, 18, 19, 20, 21, 22, 23, 24, 25, 26, 27, 28, 29, 30, 31, 32, 33, 34, 35, 36, 37, 38, 39, 40, 41, 42, 43, 44, 54] rfl) hK (hD.sub (ws' := [((o 0) 0, .inr (5, [.ref ((o 1) 0), .ref ((o 2) 0), .ref ((o 3) 0), .ref ((o 8) 0)]))] ++ (zbat cs (o 1) A ++ ([((o 3) 0, .inr (3, [.ref ((o 3) 1), .int (zI xm)])), ((o 3) 1, .inl (cs 3, 4, .inr (.inr (.inr (.inr (zR ((o 4) 0) ((o 5) 0) ((o 6) 0) ((o 7) 0)))))))] ++ (zbat cs (o 4) S0 ++ (zbat cs (o 5) S1 ++ (zbat cs (o 6) S2 ++ (zbat cs (o 7) S3 ++ [(ou, .inl (cs 2, 1, .inr (.inl (zAL gu))))]))))))) [0, 1, 2, 3, 4, 5, 6, 7, 15, 16, 17, 18, 19, 20, 21, 22, 23, 24, 25, 26, 27, 28, 29, 30, 31, 32, 33, 34, 35, 36, 37, 38, 39, 40, 41, 42, 43, 44, 54] (by decide) rfl) hN (hG.at hS) hC hU hW⟩ rfl rfl hl.1 rfl (lv_room (Nat.le_of_ble_eq_true rfl)) dL_law_1627 ⟨by show cells + 1 ≤ 601024; omega, by show slots + 6 ≤ 7293034; omega⟩) hS hP (fun H locs hP hS => ?_)
  refine lv_istore (lv' := [(5, .int (zI 1)), (4, .int (zI xi)), (3, .ref ou), (2, .ref (q 0)), (1, .ref (o 0 0)), (0, .ref b)]) hx hb dL_law_1630 hl (by decide) rfl (fun ls hl => ?_)
  refine lv_aload_n hx hb dL_law_1632 rfl (lv_at hl 3 rfl) ?_
  refine zc_ij (w := zmod cs q A S V xm xth xam f xl xpl gr) (wr := zest cs o A T S0 S1 S2 S3 xm f xl g xk xn xd xe ++ [(ou, .inl (cs 2, 1, .inr (.inl (zAL gu))))]) (va_runV (As := []) (rest := []) ⟨hx, hb, hml, hown, hts⟩ (met_X6_undo_no1 l D cs q H.size A S V xm xth xam f xl xpl gr (by exact hI9.2.1) hc9) (cwV 0 hts gL_law_X6_undo rfl rfl rfl (by decide +kernel) ⟨(Nat.le_of_ble_eq_true rfl), (Nat.le_of_ble_eq_true rfl)⟩) ⟨zPreZ.blind, va_recv hK hP (ci := 6) (q0 := 48) rfl rfl, fun U hU hW => zp_Z (hP.sub (ws' := zmod cs q A S V xm xth xam f xl xpl gr) [48, 49, 50, 51, 52, 53] rfl) hK (hD.sub (ws' := zmod cs q A S V xm xth xam f xl xpl gr) [48, 49, 50, 51, 52, 53] (by decide) rfl) hN hU hW⟩ rfl rfl hl.1 rfl (lv_room (Nat.le_of_ble_eq_true rfl)) dL_law_1633 ⟨by show cells + 1 + 0 ≤ 601024; omega, by show slots + 6 + 0 ≤ 7293034; omega⟩) hS hP hD hA [48, 49, 50, 51, 52, 53] [0, 1, 2, 3, 4, 5, 6, 7, 8, 9, 10, 11, 12, 13, 14, 15, 16, 17, 18, 19, 20, 21, 22, 23, 24, 25, 26, 27, 28, 29, 30, 31, 32, 33, 34, 35, 36, 37, 38, 39, 40, 41, 42, 43, 44, 45, 46, 47, 54] rfl rfl (by decide) (by decide) (fun H locs hP hD hS => ?_)
  have hP : va_P D vwCl (zest cs o A T S0 S1 S2 S3 xm f xl g xk xn xd xe ++ (zmod cs q A S V xm 1 xam f xl xpl gr ++ [(ou, .inl (cs 2, 1, .inr (.inl (zAL gu))))])) H := zP_perm hP zPe_m
  have hD : va_D (fun z => s.heap.size ≤ z) (zest cs o A T S0 S1 S2 S3 xm f xl g xk xn xd xe ++ (zmod cs q A S V xm 1 xam f xl xpl gr ++ [(ou, .inl (cs 2, 1, .inr (.inl (zAL gu))))])) := zD_perm hD zPe_m
  refine lv_istore (lv' := [(6, .int (zI 0)), (5, .int (zI 1)), (4, .int (zI xi)), (3, .ref ou), (2, .ref (q 0)), (1, .ref (o 0 0)), (0, .ref b)]) hx hb dL_law_1636 hl (by decide) rfl (fun ls hl => ?_)
  refine lv_aload_n hx hb dL_law_1638 rfl (lv_at hl 4 rfl) ?_
  refine zc_ri (va_runV (As := []) (rest := []) ⟨hx, hb, hml, hown, hts⟩ (met_X6_thrown l D cs q A S V xm 1 xam f xl xpl gr) (cwV 0 hts gL_law_X6_thrown rfl rfl rfl (by decide +kernel) ⟨(Nat.le_of_ble_eq_true rfl), (Nat.le_of_ble_eq_true rfl)⟩) ⟨zPre.blind, va_recv hK hP (ci := 6) (q0 := 48) rfl rfl, fun U hU hW => zp_R (hP.sub (ws' := zmod cs q A S V xm 1 xam f xl xpl gr) [48, 49, 50, 51, 52, 53] rfl) hK (hD.sub (ws' := zmod cs q A S V xm 1 xam f xl xpl gr) [48, 49, 50, 51, 52, 53] (by decide) rfl) hN hU hW⟩ rfl rfl hl.1 rfl (lv_room (Nat.le_of_ble_eq_true rfl)) dL_law_1639 ⟨by show cells + 1 + 0 + 0 ≤ 601024; omega, by show slots + 6 + 0 + 0 ≤ 7293034; omega⟩) ?_
  refine lv_iload hx hb dL_law_1642 (lv_at hl 1 rfl) ?_
  refine zr_iceq (tgt := 1649) hx hb dL_law_1644 (by decide) ?_
  refine lv_iload hx hb dL_law_1649 (lv_at hl 1 rfl) ?_
  refine zr_if_ne (tgt := 1666) hx hb dL_law_1651 (by decide) (by decide) (fun _ => ?_) (fun h9 => absurd h9 (by decide))
  refine lv_goto (tgt := 1683) hx hb dL_law_1666 (by decide) ?_
  refine W.widen (k := cells + 1) (n := slots + 6) (by show cells + 1 + 0 ≤ cells + 1; omega) (by show slots + 6 + 0 ≤ slots + 6; omega) ?_
  exact kk o q n A T S0 S1 S2 S3 S V xm f xl g xk xn xd xe 1 xam xpl gr gu (by exact hI9) (by omega) H locs hP hD hS ls (lv_sub hl [2, 3, 4, 5, 6] rfl)
