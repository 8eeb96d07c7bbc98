/-! the law: measure -/
set_option maxHeartbeats 8000000 in
set_option maxRecDepth 100000 in
theorem law_measure {p : Program} {e : Env} {s : State} {m : MethodId} {below : List Frame} {meth : Method} {c : Code} {b L : Nat} {xs : Nat → Int32} {Q : State → Prop} (l : Launch) (hfl : l.stackTraces = false) (D : va_G) (cs : Nat → ClassId) (hx : p.tables.exec = Jvm.exec) (hb : c.code = cL_law) (hml : c.maxLocals = 9) (hown : s.vm.findClass RL = some m.cls) (hts : ∀ w ∈ wsL_law, w.before #[Value.ref b] s = true) (hK : va_K D vwCl (zTy cs) s) (hN : zNW s) (hG : zXG s) (hC : zNcP s) (hO : va_AO RX1 s) (hL : L ≤ 2560) (hXs : va_X b L xs s s.heap) (hbl : b < s.heap.size) (xi : Int) (hxi : 0 ≤ xi ∧ xi + 5 ≤ L) (cells slots : Nat) (hcl : cells + 1 ≤ 601024 ∧ slots + 6 ≤ 7293034) (ou : Nat) (o : Nat → Nat → Nat) (q : Nat → Nat) (n : Int) (A T S0 S1 S2 S3 S V : Int → Int) (xm : Int) (f : Int → Int) (xl : Int) (g : Int → Int) (xk xn xd xe xth xam xpl : Int) (gr gu : Int → Int) (hI9 : zInL n A S0 S1 S2 S3 S xm f xl) (hn9 : 0 ≤ n ∧ n ≤ 1200 * xi) (H : Heap) (locs : List Loc) (hP : va_P D vwCl (zest cs o A T S0 S1 S2 S3 xm f xl g xk xn xd xe ++ (zmod cs q A S V xm xth xam f xl xpl gr ++ [(ou, .inl (cs 2, 1, .inr (.inl (zAL gu))))])) H) (hD : va_D (fun z => s.heap.size ≤ z) (zest cs o A T S0 S1 S2 S3 xm f xl g xk xn xd xe ++ (zmod cs q A S V xm xth xam f xl xpl gr ++ [(ou, .inl (cs 2, 1, .inr (.inl (zAL gu))))]))) (hS : va_S (fun z => s.heap.size ≤ z) s.heap H locs) (ls : Array Slot) (hl : lv_has ls 9 [(4, .int (zI xi)), (3, .ref ou), (2, .ref (q 0)), (1, .ref (o 0 0)), (0, .ref b)]) (kk : ∀ (o : Nat → Nat → Nat) (q : Nat → Nat) (n : Int) (A T S0 S1 S2 S3 S V : Int → Int) (xm : Int) (f : Int → Int) (xl : Int) (g : Int → Int) (xk xn xd xe xth xam xpl : Int) (gr gu : Int → Int), zInL n A S0 S1 S2 S3 S xm f xl → (0 ≤ n ∧ n ≤ 1200 * (xi + 5)) → ∀ (H : Heap) (locs : List Loc), va_P D vwCl (zest cs o A T S0 S1 S2 S3 xm f xl g xk xn xd xe ++ (zmod cs q A S V xm xth xam f xl xpl gr ++ [(ou, .inl (cs 2, 1, .inr (.inl (zAL gu))))])) H → va_D (fun z => s.heap.size ≤ z) (zest cs o A T S0 S1 S2 S3 xm f xl g xk xn xd xe ++ (zmod cs q A S V xm xth xam f xl xpl gr ++ [(ou, .inl (cs 2, 1, .inr (.inl (zAL gu))))])) → va_S (fun z => s.heap.size ≤ z) s.heap H locs → ∀ ls : Array Slot, lv_has ls 9 [(4, .int (zI xi)), (3, .ref ou), (2, .ref (q 0)), (1, .ref (o 0 0)), (0, .ref b)] → W p l e room_1 s m #[Value.ref b] below meth c H locs (cells + 1) (slots + 6) Q (F0 m 1683 ls [])) : W p l e room_1 s m #[Value.ref b] below meth c H locs cells slots Q (F0 m 516 ls []) := by
  have hcl1 := hcl.1
  have hcl2 := hcl.2
  have hA : ∀ z : Nat, s.heap.size ≤ z → s.heap.size ≤ z := fun _ h => h
  have hbA : ¬ (s.heap.size ≤ b) := Nat.not_le.mpr hbl
  have hr1 := zX_r xs (xi + 1)
  have hr2 := zX_r xs (xi + 2)
  have hr3 := zX_r xs (xi + 3)
  by_cases hc9 : (-50000 ≤ (zX xs (xi + 1)) ∧ (zX xs (xi + 1)) ≤ 50000) ∧ (0 ≤ (zX xs (xi + 2)) ∧ (zX xs (xi + 2)) ≤ 6000) ∧ 1 ≤ (zX xs (xi + 3)) ∧ (zX xs (xi + 3)) ≤ 600
  · refine lv_aload_n hx hb dL_law_516 rfl (lv_at hl 3 rfl) ?_
    refine lv_aload_n hx hb dL_law_517 rfl (lv_at hl 4 rfl) ?_
    refine lv_iload hx hb dL_law_518 (lv_at hl 0 rfl) ?_
    refine zr_iconst hx hb dL_law_520 ?_
    refine zr_iadd hx hb dL_law_521 ?_
    refine zr_sls hx hb hXs hbl hbA hS hL (by omega) dL_law_522 ?_
    refine lv_aload_n hx hb dL_law_523 rfl (lv_at hl 4 rfl) ?_
    refine lv_iload hx hb dL_law_524 (lv_at hl 0 rfl) ?_
    refine zr_iconst hx hb dL_law_526 ?_
    refine zr_iadd hx hb dL_law_527 ?_
    refine zr_sls hx hb hXs hbl hbA hS hL (by omega) dL_law_528 ?_
    refine lv_aload_n hx hb dL_law_529 rfl (lv_at hl 4 rfl) ?_
    refine lv_iload hx hb dL_law_530 (lv_at hl 0 rfl) ?_
    refine zr_iconst hx hb dL_law_532 ?_
    refine zr_iadd hx hb dL_law_533 ?_
    refine zr_sls hx hb hXs hbl hbA hS hL (by omega) dL_law_534 ?_
    refine lv_aload_n hx hb dL_law_535 rfl (lv_at hl 1 rfl) ?_
    refine zc_xi (w := [((o 0) 0, .inr (5, [.ref ((o 1) 0), .ref ((o 2) 0), .ref ((o 3) 0), .ref ((o 8) 0)]))] ++ (zbat cs (o 1) A ++ ([((o 3) 0, .inr (3, [.ref ((o 3) 1), .int (zI xm)])), ((o 3) 1, .inl (cs 3, 4, .inr (.inr (.inr (.inr (zR ((o 4) 0) ((o 5) 0) ((o 6) 0) ((o 7) 0)))))))] ++ (zbat cs (o 4) S0 ++ (zbat cs (o 5) S1 ++ (zbat cs (o 6) S2 ++ (zbat cs (o 7) S3 ++ [(ou, .inl (cs 2, 1, .inr (.inl (zAL gu))))]))))))) (wr := zbat cs (o 2) T ++ (ztxt cs (o 8) f xl g xk xn xd xe ++ (zmod cs q A S V xm xth xam f xl xpl gr))) (vx_runSX (As := [.ref (o 0 0), .int (zI (zX xs (xi + 1))), .int (zI (zX xs (xi + 2))), .int (zI (zX xs (xi + 3))), .ref ou]) (rest := []) ⟨hx, hb, hml, hown, hts⟩ (met_L_measure_ok l D cs o ou gu H.size A S0 S1 S2 S3 xm n (zX xs (xi + 1)) (zX xs (xi + 2)) (zX xs (xi + 3)) (by exact hI9.1) (by omega) (by omega) (by exact hI9.2.1) (zX_r xs _) (zX_r xs _) (zX_r xs _) hc9) (vx_cwSW 5 hts gL_law_L_measure rfl rfl rfl (by decide +kernel) ⟨(Nat.le_of_ble_eq_true rfl), (Nat.le_of_ble_eq_true rfl)⟩) ⟨zPreZ.blind, fun U hU hW => zp_Z (hP.sub (ws' := [((o 0) 0, .inr (5, [.ref ((o 1) 0), .ref ((o 2) 0), .ref ((o 3) 0), .ref ((o 8) 0)]))] ++ (zbat cs (o 1) A ++ ([((o 3) 0, .inr (3, [.ref ((o 3) 1), .int (zI xm)])), ((o 3) 1, .inl (cs 3, 4, .inr (.inr (.inr (.inr (zR ((o 4) 0) ((o 5) 0) ((o 6) 0) ((o 7) 0)))))))] ++ (zbat cs (o 4) S0 ++ (zbat cs (o 5) S1 ++ (zbat cs (o 6) S2 ++ (zbat cs (o 7) S3 ++ [(ou, .inl (cs 2, 1, .inr (.inl (zAL gu))))]))))))) [0, 1, 2, 3, 4, 5, 6, 7, 15, 16, 17, 18, 19, 20, 21, 22, 23, 24, 25, 26, 27, 28, 29, 30, 31, 32, 33, 34, 35, 36, 37, 38, 39, 40, 41, 42, 43, 44, 54] rfl) hK (hD.sub (ws' := [((o 0) 0, .inr (5, [.ref ((o 1) 0), .ref ((o 2) 0), .ref ((o 3) 0), .ref ((o 8) 0)]))] ++ (zbat cs (o 1) A ++ ([((o 3) 0, .inr (3, [.ref ((o 3) 1), .int (zI xm)])), ((o 3) 1, .inl (cs 3, 4, .inr (.inr (.inr (.inr (zR ((o 4) 0) ((o 5) 0) ((o 6) 0) ((o 7) 0)))))))] ++ (zbat cs (o 4) S0 ++ (zbat cs (o 5) S1 ++ (zbat cs (o 6) S2 ++ (zbat cs (o 7) S3 ++ [(ou, .inl (cs 2, 1, .inr (.inl (zAL gu))))]))))))) [0, 1, 2, 3, 4, 5, 6, 7, 15, 16, 17, 18, 19, 20, 21, 22, 23, 24, 25, 26, 27, 28, 29, 30, 31, 32, 33, 34, 35, 36, 37, 38, 39, 40, 41, 42, 43, 44, 54] (by decide) rfl) hN hU hW⟩ rfl rfl hl.1 rfl (lv_room (Nat.le_of_ble_eq_true rfl)) dL_law_536 ⟨by show cells + 0 ≤ 601024; omega, by show slots + 0 ≤ 7293034; omega⟩) hS hP hD hA [0, 1, 2, 3, 4, 5, 6, 7, 15, 16, 17, 18, 19, 20, 21, 22, 23, 24, 25, 26, 27, 28, 29, 30, 31, 32, 33, 34, 35, 36, 37, 38, 39, 40, 41, 42, 43, 44, 54] [8, 9, 10, 11, 12, 13, 14, 45, 46, 47, 48, 49, 50, 51, 52, 53] rfl rfl (by decide) (by decide) (fun H locs hP hD hS => ?_)
    have hP : va_P D vwCl (zest cs (zo5 xm o) (zTr A (zX xs (xi + 1)) (zX xs (xi + 2)) (zX xs (xi + 3))) T (zs4 xm 0 A S0 S1) (zs4 xm 1 A S1 S2) (zs4 xm 2 A S2 S3) (zs4 xm 3 A S3 A) (zm4 xm) f xl g xk xn xd xe ++ (zmod cs q A S V xm xth xam f xl xpl gr ++ [(ou, .inl (cs 2, 1, .inr (.inl (zAL (zU gu 0 (zW (zBits A (zX xs (xi + 1)) (zX xs (xi + 2)) (zX xs (xi + 3)))))))))])) H := zP_perm hP zPe_H
    have hD : va_D (fun z => s.heap.size ≤ z) (zest cs (zo5 xm o) (zTr A (zX xs (xi + 1)) (zX xs (xi + 2)) (zX xs (xi + 3))) T (zs4 xm 0 A S0 S1) (zs4 xm 1 A S1 S2) (zs4 xm 2 A S2 S3) (zs4 xm 3 A S3 A) (zm4 xm) f xl g xk xn xd xe ++ (zmod cs q A S V xm xth xam f xl xpl gr ++ [(ou, .inl (cs 2, 1, .inr (.inl (zAL (zU gu 0 (zW (zBits A (zX xs (xi + 1)) (zX xs (xi + 2)) (zX xs (xi + 3)))))))))])) := zD_perm hD zPe_H
    refine lv_istore (lv' := [(5, .int (zI 0)), (4, .int (zI xi)), (3, .ref ou), (2, .ref (q 0)), (1, .ref (o 0 0)), (0, .ref b)]) hx hb dL_law_539 hl (by decide) rfl (fun ls hl => ?_)
    refine lv_aload_n hx hb dL_law_541 rfl (lv_at hl 3 rfl) ?_
    refine lv_aload_n hx hb dL_law_542 rfl (lv_at hl 5 rfl) ?_
    refine lv_iload hx hb dL_law_543 (lv_at hl 1 rfl) ?_
    refine zr_iconst hx hb dL_law_545 ?_
    refine zr_iadd hx hb dL_law_546 ?_
    refine zr_sls hx hb hXs hbl hbA hS hL (by omega) dL_law_547 ?_
    refine lv_aload_n hx hb dL_law_548 rfl (lv_at hl 5 rfl) ?_
    refine lv_iload hx hb dL_law_549 (lv_at hl 1 rfl) ?_
    refine zr_iconst hx hb dL_law_551 ?_
    refine zr_iadd hx hb dL_law_552 ?_
    refine zr_sls hx hb hXs hbl hbA hS hL (by omega) dL_law_553 ?_
    refine lv_aload_n hx hb dL_law_554 rfl (lv_at hl 5 rfl) ?_
    refine lv_iload hx hb dL_law_555 (lv_at hl 1 rfl) ?_
    refine zr_iconst hx hb dL_law_557 ?_
    refine zr_iadd hx hb dL_law_558 ?_
    refine zr_sls hx hb hXs hbl hbA hS hL (by omega) dL_law_559 ?_
    refine zc_ij (w := zmod cs q A S V xm xth xam f xl xpl gr) (wr := zest cs (zo5 xm o) (zTr A (zX xs (xi + 1)) (zX xs (xi + 2)) (zX xs (xi + 3))) T (zs4 xm 0 A S0 S1) (zs4 xm 1 A S1 S2) (zs4 xm 2 A S2 S3) (zs4 xm 3 A S3 A) (zm4 xm) f xl g xk xn xd xe ++ [(ou, .inl (cs 2, 1, .inr (.inl (zAL (zU gu 0 (zW (zBits A (zX xs (xi + 1)) (zX xs (xi + 2)) (zX xs (xi + 3)))))))))]) (va_runV (As := [.int (zI (zX xs (xi + 1))), .int (zI (zX xs (xi + 2))), .int (zI (zX xs (xi + 3)))]) (rest := []) ⟨hx, hb, hml, hown, hts⟩ (met_X6_measure_ok l D cs q H.size A S V xm xth xam f xl xpl gr n (zX xs (xi + 1)) (zX xs (xi + 2)) (zX xs (xi + 3)) (by exact hI9.1) (by omega) (by omega) (by exact hI9.2.1) (zX_r xs _) (zX_r xs _) (zX_r xs _) hc9) (cwV 3 hts gL_law_X6_measure rfl rfl rfl (by decide +kernel) ⟨(Nat.le_of_ble_eq_true rfl), (Nat.le_of_ble_eq_true rfl)⟩) ⟨zPreZ.blind, va_recv hK hP (ci := 6) (q0 := 48) rfl rfl, fun U hU hW => zp_Z (hP.sub (ws' := zmod cs q A S V xm xth xam f xl xpl gr) [48, 49, 50, 51, 52, 53] rfl) hK (hD.sub (ws' := zmod cs q A S V xm xth xam f xl xpl gr) [48, 49, 50, 51, 52, 53] (by decide) rfl) hN hU hW⟩ rfl rfl hl.1 rfl (lv_room (Nat.le_of_ble_eq_true rfl)) dL_law_560 ⟨by show cells + 0 + 0 ≤ 601024; omega, by show slots + 0 + 0 ≤ 7293034; omega⟩) hS hP hD hA [48, 49, 50, 51, 52, 53] [0, 1, 2, 3, 4, 5, 6, 7, 8, 9, 10, 11, 12, 13, 14, 15, 16, 17, 18, 19, 20, 21, 22, 23, 24, 25, 26, 27, 28, 29, 30, 31, 32, 33, 34, 35, 36, 37, 38, 39, 40, 41, 42, 43, 44, 45, 46, 47, 54] rfl rfl (by decide) (by decide) (fun H locs hP hD hS => ?_)
    have hP : va_P D vwCl (zest cs (zo5 xm o) (zTr A (zX xs (xi + 1)) (zX xs (xi + 2)) (zX xs (xi + 3))) T (zs4 xm 0 A S0 S1) (zs4 xm 1 A S1 S2) (zs4 xm 2 A S2 S3) (zs4 xm 3 A S3 A) (zm4 xm) f xl g xk xn xd xe ++ (zmod cs q (zTr A (zX xs (xi + 1)) (zX xs (xi + 2)) (zX xs (xi + 3))) (zSvF S A xm) V (zm4 xm) 0 (xam + zMany A (zX xs (xi + 1)) (zX xs (xi + 2)) (zX xs (xi + 3))) f xl xpl gr ++ [(ou, .inl (cs 2, 1, .inr (.inl (zAL (zU gu 0 (zW (zBits A (zX xs (xi + 1)) (zX xs (xi + 2)) (zX xs (xi + 3)))))))))])) H := zP_perm hP zPe_m
    have hD : va_D (fun z => s.heap.size ≤ z) (zest cs (zo5 xm o) (zTr A (zX xs (xi + 1)) (zX xs (xi + 2)) (zX xs (xi + 3))) T (zs4 xm 0 A S0 S1) (zs4 xm 1 A S1 S2) (zs4 xm 2 A S2 S3) (zs4 xm 3 A S3 A) (zm4 xm) f xl g xk xn xd xe ++ (zmod cs q (zTr A (zX xs (xi + 1)) (zX xs (xi + 2)) (zX xs (xi + 3))) (zSvF S A xm) V (zm4 xm) 0 (xam + zMany A (zX xs (xi + 1)) (zX xs (xi + 2)) (zX xs (xi + 3))) f xl xpl gr ++ [(ou, .inl (cs 2, 1, .inr (.inl (zAL (zU gu 0 (zW (zBits A (zX xs (xi + 1)) (zX xs (xi + 2)) (zX xs (xi + 3)))))))))])) := zD_perm hD zPe_m
    refine lv_istore (lv' := [(6, .int (zI (zBits A (zX xs (xi + 1)) (zX xs (xi + 2)) (zX xs (xi + 3))))), (5, .int (zI 0)), (4, .int (zI xi)), (3, .ref ou), (2, .ref (q 0)), (1, .ref (o 0 0)), (0, .ref b)]) hx hb dL_law_563 hl (by decide) rfl (fun ls hl => ?_)
    refine lv_aload_n hx hb dL_law_565 rfl (lv_at hl 4 rfl) ?_
    refine zc_ri (va_runV (As := []) (rest := []) ⟨hx, hb, hml, hown, hts⟩ (met_X6_thrown l D cs q (zTr A (zX xs (xi + 1)) (zX xs (xi + 2)) (zX xs (xi + 3))) (zSvF S A xm) V (zm4 xm) 0 (xam + zMany A (zX xs (xi + 1)) (zX xs (xi + 2)) (zX xs (xi + 3))) f xl xpl gr) (cwV 0 hts gL_law_X6_thrown rfl rfl rfl (by decide +kernel) ⟨(Nat.le_of_ble_eq_true rfl), (Nat.le_of_ble_eq_true rfl)⟩) ⟨zPre.blind, va_recv hK hP (ci := 6) (q0 := 48) rfl rfl, fun U hU hW => zp_R (hP.sub (ws' := zmod cs q (zTr A (zX xs (xi + 1)) (zX xs (xi + 2)) (zX xs (xi + 3))) (zSvF S A xm) V (zm4 xm) 0 (xam + zMany A (zX xs (xi + 1)) (zX xs (xi + 2)) (zX xs (xi + 3))) f xl xpl gr) [48, 49, 50, 51, 52, 53] rfl) hK (hD.sub (ws' := zmod cs q (zTr A (zX xs (xi + 1)) (zX xs (xi + 2)) (zX xs (xi + 3))) (zSvF S A xm) V (zm4 xm) 0 (xam + zMany A (zX xs (xi + 1)) (zX xs (xi + 2)) (zX xs (xi + 3))) f xl xpl gr) [48, 49, 50, 51, 52, 53] (by decide) rfl) hN hU hW⟩ rfl rfl hl.1 rfl (lv_room (Nat.le_of_ble_eq_true rfl)) dL_law_566 ⟨by show cells + 0 + 0 + 0 ≤ 601024; omega, by show slots + 0 + 0 + 0 ≤ 7293034; omega⟩) ?_
    refine lv_iload hx hb dL_law_569 (lv_at hl 1 rfl) ?_
    refine zr_iceq (tgt := 576) hx hb dL_law_571 (by decide) ?_
    refine lv_iload hx hb dL_law_576 (lv_at hl 1 rfl) ?_
    refine zr_if_ne (tgt := 593) hx hb dL_law_578 (by decide) (by decide) (fun h9 => absurd h9 (by decide)) (fun _ => ?_)
    refine lv_aload_n hx hb dL_law_581 rfl (lv_at hl 3 rfl) ?_
    refine zr_iconst hx hb dL_law_582 ?_
    refine zr_lald (D := D) (g := zU gu 0 (zW (zBits A (zX xs (xi + 1)) (zX xs (xi + 2)) (zX xs (xi + 3))))) hx hb hK hP 54 2 rfl rfl (by decide) (by decide) dL_law_583 ?_
    rw [show (zU gu 0 (zW (zBits A (zX xs (xi + 1)) (zX xs (xi + 2)) (zX xs (xi + 3))))) 0 = zW (zBits A (zX xs (xi + 1)) (zX xs (xi + 2)) (zX xs (xi + 3))) from rfl]
    refine lv_iload hx hb dL_law_584 (lv_at hl 0 rfl) ?_
    refine lv_i2l hx hb dL_law_586 (zW_l (zBits A (zX xs (xi + 1)) (zX xs (xi + 2)) (zX xs (xi + 3)))) ?_
    refine zr_lceq (tgt := 593) hx hb dL_law_587 dL_law_588 (by decide) ?_
    refine lv_goto (tgt := 1683) hx hb dL_law_593 (by decide) ?_
    refine W.widen (k := cells + 1) (n := slots + 6) (by show cells + 0 + 0 ≤ cells + 1; omega) (by show slots + 0 + 0 ≤ slots + 6; omega) ?_
    exact kk (zo5 xm o) q (n + 12) (zTr A (zX xs (xi + 1)) (zX xs (xi + 2)) (zX xs (xi + 3))) T (zs4 xm 0 A S0 S1) (zs4 xm 1 A S1 S2) (zs4 xm 2 A S2 S3) (zs4 xm 3 A S3 A) (zSvF S A xm) V (zm4 xm) f xl g xk xn xd xe 0 (xam + zMany A (zX xs (xi + 1)) (zX xs (xi + 2)) (zX xs (xi + 3))) xpl gr (zU gu 0 (zW (zBits A (zX xs (xi + 1)) (zX xs (xi + 2)) (zX xs (xi + 3))))) (by exact hI9.save (by omega) (zOK_tr hI9.1 (by omega) hc9.1 hc9.2.1 hc9.2.2)) (by omega) H locs hP hD hS ls (lv_sub hl [2, 3, 4, 5, 6] rfl)
  replace hc9 := hc9
  refine lv_aload_n hx hb dL_law_516 rfl (lv_at hl 3 rfl) ?_
  refine lv_aload_n hx hb dL_law_517 rfl (lv_at hl 4 rfl) ?_
  refine lv_iload hx hb dL_law_518 (lv_at hl 0 rfl) ?_
  refine zr_iconst hx hb dL_law_520 ?_
  refine zr_iadd hx hb dL_law_521 ?_
  refine zr_sls hx hb hXs hbl hbA hS hL (by omega) dL_law_522 ?_
  refine lv_aload_n hx hb dL_law_523 rfl (lv_at hl 4 rfl) ?_
  refine lv_iload hx hb dL_law_524 (lv_at hl 0 rfl) ?_
  refine zr_iconst hx hb dL_law_526 ?_
  refine zr_iadd hx hb dL_law_527 ?_
  refine zr_sls hx hb hXs hbl hbA hS hL (by omega) dL_law_528 ?_
  refine lv_aload_n hx hb dL_law_529 rfl (lv_at hl 4 rfl) ?_
  refine lv_iload hx hb dL_law_530 (lv_at hl 0 rfl) ?_
  refine zr_iconst hx hb dL_law_532 ?_
  refine zr_iadd hx hb dL_law_533 ?_
  refine zr_sls hx hb hXs hbl hbA hS hL (by omega) dL_law_534 ?_
  refine lv_aload_n hx hb dL_law_535 rfl (lv_at hl 1 rfl) ?_
  refine zc_xk (vx_runSX (As := [.ref (o 0 0), .int (zI (zX xs (xi + 1))), .int (zI (zX xs (xi + 2))), .int (zI (zX xs (xi + 3))), .ref ou]) (rest := []) ⟨hx, hb, hml, hown, hts⟩ (met_L_measure_x l hfl D cs o ou gu A S0 S1 S2 S3 xm (zX xs (xi + 1)) (zX xs (xi + 2)) (zX xs (xi + 3)) (zX_r xs _) (zX_r xs _) (zX_r xs _) hc9) (vx_cwSW 5 hts gL_law_L_measure rfl rfl rfl (by decide +kernel) ⟨(Nat.le_of_ble_eq_true rfl), (Nat.le_of_ble_eq_true rfl)⟩) ⟨zPreU.blind, fun U hU hW => zp_U (hP.sub (ws' := [((o 0) 0, .inr (5, [.ref ((o 1) 0), .ref ((o 2) 0), .ref ((o 3) 0), .ref ((o 8) 0)]))] ++ (zbat cs (o 1) A ++ ([((o 3) 0, .inr (3, [.ref ((o 3) 1), .int (zI xm)])), ((o 3) 1, .inl (cs 3, 4, .inr (.inr (.inr (.inr (zR ((o 4) 0) ((o 5) 0) ((o 6) 0) ((o 7) 0)))))))] ++ (zbat cs (o 4) S0 ++ (zbat cs (o 5) S1 ++ (zbat cs (o 6) S2 ++ (zbat cs (o 7) S3 ++ [(ou, .inl (cs 2, 1, .inr (.inl (zAL gu))))]))))))) [0, 1, 2, 3, 4, 5, 6, 7, 15, 16, 17, 18, 19, 20, 21, 22, 23, 24, 25, 26, 27, 28, 29, 30, 31, 32, 33, 34, 35, 36, 37, 38, 39, 40, 41, 42, 43, 44, 54] rfl) hK (hD.sub (ws' := [((o 0) 0, .inr (5, [.ref ((o 1) 0), .ref ((o 2) 0), .ref ((o 3) 0), .ref ((o 8) 0)]))] ++ (zbat cs (o 1) A ++ ([((o 3) 0, .inr (3, [.ref ((o 3) 1), .int (zI xm)])), ((o 3) 1, .inl (cs 3, 4, .inr (.inr (.inr (.inr (zR ((o 4) 0) ((o 5) 0) ((o 6) 0) ((o 7) 0)))))))] ++ (zbat cs (o 4) S0 ++ (zbat cs (o 5) S1 ++ (zbat cs (o 6) S2 ++ (zbat cs (o 7) S3 ++ [(ou, .inl (cs 2, 1, .inr (.inl (zAL gu))))]))))))) [0, 1, 2, 3, 4, 5, 6, 7, 15, 16, 17, 18, 19, 20, 21, 22, 23, 24, 25, 26, 27, 28, 29, 30, 31, 32, 33, 34, 35, 36, 37, 38, 39, 40, 41, 42, 43, 44, 54] (by decide) rfl) hN (hG.at hS) hC hU hW⟩ rfl rfl hl.1 rfl (lv_room (Nat.le_of_ble_eq_true rfl)) dL_law_536 ⟨by show cells + 1 ≤ 601024; omega, by show slots + 6 ≤ 7293034; omega⟩) hS hP (fun H locs hP hS => ?_)
  refine lv_istore (lv' := [(5, .int (zI 1)), (4, .int (zI xi)), (3, .ref ou), (2, .ref (q 0)), (1, .ref (o 0 0)), (0, .ref b)]) hx hb dL_law_539 hl (by decide) rfl (fun ls hl => ?_)
  refine lv_aload_n hx hb dL_law_541 rfl (lv_at hl 3 rfl) ?_
  refine lv_aload_n hx hb dL_law_542 rfl (lv_at hl 5 rfl) ?_
  refine lv_iload hx hb dL_law_543 (lv_at hl 1 rfl) ?_
  refine zr_iconst hx hb dL_law_545 ?_
  refine zr_iadd hx hb dL_law_546 ?_
  refine zr_sls hx hb hXs hbl hbA hS hL (by omega) dL_law_547 ?_
  refine lv_aload_n hx hb dL_law_548 rfl (lv_at hl 5 rfl) ?_
  refine lv_iload hx hb dL_law_549 (lv_at hl 1 rfl) ?_
  refine zr_iconst hx hb dL_law_551 ?_
  refine zr_iadd hx hb dL_law_552 ?_
  refine zr_sls hx hb hXs hbl hbA hS hL (by omega) dL_law_553 ?_
  refine lv_aload_n hx hb dL_law_554 rfl (lv_at hl 5 rfl) ?_
  refine lv_iload hx hb dL_law_555 (lv_at hl 1 rfl) ?_
  refine zr_iconst hx hb dL_law_557 ?_
  refine zr_iadd hx hb dL_law_558 ?_
  refine zr_sls hx hb hXs hbl hbA hS hL (by omega) dL_law_559 ?_
  refine zc_ij (w := zmod cs q A S V xm xth xam f xl xpl gr) (wr := zest cs o A T S0 S1 S2 S3 xm f xl g xk xn xd xe ++ [(ou, .inl (cs 2, 1, .inr (.inl (zAL gu))))]) (va_runV (As := [.int (zI (zX xs (xi + 1))), .int (zI (zX xs (xi + 2))), .int (zI (zX xs (xi + 3)))]) (rest := []) ⟨hx, hb, hml, hown, hts⟩ (met_X6_measure_no1 l D cs q H.size A S V xm xth xam f xl xpl gr (zX xs (xi + 1)) (zX xs (xi + 2)) (zX xs (xi + 3)) (zX_r xs _) (zX_r xs _) (zX_r xs _) hc9) (cwV 3 hts gL_law_X6_measure rfl rfl rfl (by decide +kernel) ⟨(Nat.le_of_ble_eq_true rfl), (Nat.le_of_ble_eq_true rfl)⟩) ⟨zPreZ.blind, va_recv hK hP (ci := 6) (q0 := 48) rfl rfl, fun U hU hW => zp_Z (hP.sub (ws' := zmod cs q A S V xm xth xam f xl xpl gr) [48, 49, 50, 51, 52, 53] rfl) hK (hD.sub (ws' := zmod cs q A S V xm xth xam f xl xpl gr) [48, 49, 50, 51, 52, 53] (by decide) rfl) hN hU hW⟩ rfl rfl hl.1 rfl (lv_room (Nat.le_of_ble_eq_true rfl)) dL_law_560 ⟨by show cells + 1 + 0 ≤ 601024; omega, by show slots + 6 + 0 ≤ 7293034; omega⟩) hS hP hD hA [48, 49, 50, 51, 52, 53] [0, 1, 2, 3, 4, 5, 6, 7, 8, 9, 10, 11, 12, 13, 14, 15, 16, 17, 18, 19, 20, 21, 22, 23, 24, 25, 26, 27, 28, 29, 30, 31, 32, 33, 34, 35, 36, 37, 38, 39, 40, 41, 42, 43, 44, 45, 46, 47, 54] rfl rfl (by decide) (by decide) (fun H locs hP hD hS => ?_)
  have hP : va_P D vwCl (zest cs o A T S0 S1 S2 S3 xm f xl g xk xn xd xe ++ (zmod cs q A S V xm 1 xam f xl xpl gr ++ [(ou, .inl (cs 2, 1, .inr (.inl (zAL gu))))])) H := zP_perm hP zPe_m
  have hD : va_D (fun z => s.heap.size ≤ z) (zest cs o A T S0 S1 S2 S3 xm f xl g xk xn xd xe ++ (zmod cs q A S V xm 1 xam f xl xpl gr ++ [(ou, .inl (cs 2, 1, .inr (.inl (zAL gu))))])) := zD_perm hD zPe_m
  refine lv_istore (lv' := [(6, .int (zI 0)), (5, .int (zI 1)), (4, .int (zI xi)), (3, .ref ou), (2, .ref (q 0)), (1, .ref (o 0 0)), (0, .ref b)]) hx hb dL_law_563 hl (by decide) rfl (fun ls hl => ?_)
  refine lv_aload_n hx hb dL_law_565 rfl (lv_at hl 4 rfl) ?_
  refine zc_ri (va_runV (As := []) (rest := []) ⟨hx, hb, hml, hown, hts⟩ (met_X6_thrown l D cs q A S V xm 1 xam f xl xpl gr) (cwV 0 hts gL_law_X6_thrown rfl rfl rfl (by decide +kernel) ⟨(Nat.le_of_ble_eq_true rfl), (Nat.le_of_ble_eq_true rfl)⟩) ⟨zPre.blind, va_recv hK hP (ci := 6) (q0 := 48) rfl rfl, fun U hU hW => zp_R (hP.sub (ws' := zmod cs q A S V xm 1 xam f xl xpl gr) [48, 49, 50, 51, 52, 53] rfl) hK (hD.sub (ws' := zmod cs q A S V xm 1 xam f xl xpl gr) [48, 49, 50, 51, 52, 53] (by decide) rfl) hN hU hW⟩ rfl rfl hl.1 rfl (lv_room (Nat.le_of_ble_eq_true rfl)) dL_law_566 ⟨by show cells + 1 + 0 + 0 ≤ 601024; omega, by show slots + 6 + 0 + 0 ≤ 7293034; omega⟩) ?_
  refine lv_iload hx hb dL_law_569 (lv_at hl 1 rfl) ?_
  refine zr_iceq (tgt := 576) hx hb dL_law_571 (by decide) ?_
  refine lv_iload hx hb dL_law_576 (lv_at hl 1 rfl) ?_
  refine zr_if_ne (tgt := 593) hx hb dL_law_578 (by decide) (by decide) (fun _ => ?_) (fun h9 => absurd h9 (by decide))
  refine lv_goto (tgt := 1683) hx hb dL_law_593 (by decide) ?_
  refine W.widen (k := cells + 1) (n := slots + 6) (by show cells + 1 + 0 ≤ cells + 1; omega) (by show slots + 6 + 0 ≤ slots + 6; omega) ?_
  exact kk o q n A T S0 S1 S2 S3 S V xm f xl g xk xn xd xe 1 xam xpl gr gu (by exact hI9) (by omega) H locs hP hD hS ls (lv_sub hl [2, 3, 4, 5, 6] rfl)
/-! the law: repeat -/
set_option maxHeartbeats 8000000 in
set_option maxRecDepth 100000 in
theorem law_repeat {p : Program} {e : Env} {s : State} {m : MethodId} {below : List Frame} {meth : Method} {c : Code} {b L : Nat} {xs : Nat → Int32} {Q : State → Prop} (l : Launch) (hfl : l.stackTraces = false) (D : va_G) (cs : Nat → ClassId) (hx : p.tables.exec = Jvm.exec) (hb : c.code = cL_law) (hml : c.maxLocals = 9) (hown : s.vm.findClass RL = some m.cls) (hts : ∀ w ∈ wsL_law, w.before #[Value.ref b] s = true) (hK : va_K D vwCl (zTy cs) s) (hN : zNW s) (hG : zXG s) (hC : zNcP s) (hO : va_AO RX1 s) (hL : L ≤ 2560) (hXs : va_X b L xs s s.heap) (hbl : b < s.heap.size) (xi : Int) (hxi : 0 ≤ xi ∧ xi + 5 ≤ L) (cells slots : Nat) (hcl : cells + 1 ≤ 601024 ∧ slots + 6 ≤ 7293034) (ou : Nat) (o : Nat → Nat → Nat) (q : Nat → Nat) (n : Int) (A T S0 S1 S2 S3 S V : Int → Int) (xm : Int) (f : Int → Int) (xl : Int) (g : Int → Int) (xk xn xd xe xth xam xpl : Int) (gr gu : Int → Int) (hI9 : zInL n A S0 S1 S2 S3 S xm f xl) (hn9 : 0 ≤ n ∧ n ≤ 1200 * xi) (H : Heap) (locs : List Loc) (hP : va_P D vwCl (zest cs o A T S0 S1 S2 S3 xm f xl g xk xn xd xe ++ (zmod cs q A S V xm xth xam f xl xpl gr ++ [(ou, .inl (cs 2, 1, .inr (.inl (zAL gu))))])) H) (hD : va_D (fun z => s.heap.size ≤ z) (zest cs o A T S0 S1 S2 S3 xm f xl g xk xn xd xe ++ (zmod cs q A S V xm xth xam f xl xpl gr ++ [(ou, .inl (cs 2, 1, .inr (.inl (zAL gu))))]))) (hS : va_S (fun z => s.heap.size ≤ z) s.heap H locs) (ls : Array Slot) (hl : lv_has ls 9 [(4, .int (zI xi)), (3, .ref ou), (2, .ref (q 0)), (1, .ref (o 0 0)), (0, .ref b)]) (kk : ∀ (o : Nat → Nat → Nat) (q : Nat → Nat) (n : Int) (A T S0 S1 S2 S3 S V : Int → Int) (xm : Int) (f : Int → Int) (xl : Int) (g : Int → Int) (xk xn xd xe xth xam xpl : Int) (gr gu : Int → Int), zInL n A S0 S1 S2 S3 S xm f xl → (0 ≤ n ∧ n ≤ 1200 * (xi + 5)) → ∀ (H : Heap) (locs : List Loc), va_P D vwCl (zest cs o A T S0 S1 S2 S3 xm f xl g xk xn xd xe ++ (zmod cs q A S V xm xth xam f xl xpl gr ++ [(ou, .inl (cs 2, 1, .inr (.inl (zAL gu))))])) H → va_D (fun z => s.heap.size ≤ z) (zest cs o A T S0 S1 S2 S3 xm f xl g xk xn xd xe ++ (zmod cs q A S V xm xth xam f xl xpl gr ++ [(ou, .inl (cs 2, 1, .inr (.inl (zAL gu))))])) → va_S (fun z => s.heap.size ≤ z) s.heap H locs → ∀ ls : Array Slot, lv_has ls 9 [(4, .int (zI xi)), (3, .ref ou), (2, .ref (q 0)), (1, .ref (o 0 0)), (0, .ref b)] → W p l e room_1 s m #[Value.ref b] below meth c H locs (cells + 1) (slots + 6) Q (F0 m 1683 ls [])) : W p l e room_1 s m #[Value.ref b] below meth c H locs cells slots Q (F0 m 596 ls []) := by
  have hcl1 := hcl.1
  have hcl2 := hcl.2
  have hA : ∀ z : Nat, s.heap.size ≤ z → s.heap.size ≤ z := fun _ h => h
  have hbA : ¬ (s.heap.size ≤ b) := Nat.not_le.mpr hbl
  have hr1 := zX_r xs (xi + 1)
  have hr2 := zX_r xs (xi + 2)
  have hr3 := zX_r xs (xi + 3)
  have hr4 := zX_r xs (xi + 4)
  by_cases hc9 : ((-50000 ≤ (zX xs (xi + 1)) ∧ (zX xs (xi + 1)) ≤ 50000) ∧ (0 ≤ (zX xs (xi + 2)) ∧ (zX xs (xi + 2)) ≤ 6000) ∧ 1 ≤ (zX xs (xi + 3)) ∧ (zX xs (xi + 3)) ≤ 600) ∧ 0 ≤ (zX xs (xi + 4)) ∧ (zX xs (xi + 4)) ≤ 500
  · refine lv_aload_n hx hb dL_law_596 rfl (lv_at hl 3 rfl) ?_
    refine lv_aload_n hx hb dL_law_597 rfl (lv_at hl 4 rfl) ?_
    refine lv_iload hx hb dL_law_598 (lv_at hl 0 rfl) ?_
    refine zr_iconst hx hb dL_law_600 ?_
    refine zr_iadd hx hb dL_law_601 ?_
    refine zr_sls hx hb hXs hbl hbA hS hL (by omega) dL_law_602 ?_
    refine lv_aload_n hx hb dL_law_603 rfl (lv_at hl 4 rfl) ?_
    refine lv_iload hx hb dL_law_604 (lv_at hl 0 rfl) ?_
    refine zr_iconst hx hb dL_law_606 ?_
    refine zr_iadd hx hb dL_law_607 ?_
    refine zr_sls hx hb hXs hbl hbA hS hL (by omega) dL_law_608 ?_
    refine lv_aload_n hx hb dL_law_609 rfl (lv_at hl 4 rfl) ?_
    refine lv_iload hx hb dL_law_610 (lv_at hl 0 rfl) ?_
    refine zr_iconst hx hb dL_law_612 ?_
    refine zr_iadd hx hb dL_law_613 ?_
    refine zr_sls hx hb hXs hbl hbA hS hL (by omega) dL_law_614 ?_
    refine lv_aload_n hx hb dL_law_615 rfl (lv_at hl 4 rfl) ?_
    refine lv_iload hx hb dL_law_616 (lv_at hl 0 rfl) ?_
    refine zr_iconst hx hb dL_law_618 ?_
    refine zr_iadd hx hb dL_law_619 ?_
    refine zr_sls hx hb hXs hbl hbA hS hL (by omega) dL_law_620 ?_
    refine lv_aload_n hx hb dL_law_621 rfl (lv_at hl 1 rfl) ?_
    refine zc_xi (w := [((o 0) 0, .inr (5, [.ref ((o 1) 0), .ref ((o 2) 0), .ref ((o 3) 0), .ref ((o 8) 0)]))] ++ (zbat cs (o 1) A ++ ([((o 3) 0, .inr (3, [.ref ((o 3) 1), .int (zI xm)])), ((o 3) 1, .inl (cs 3, 4, .inr (.inr (.inr (.inr (zR ((o 4) 0) ((o 5) 0) ((o 6) 0) ((o 7) 0)))))))] ++ (zbat cs (o 4) S0 ++ (zbat cs (o 5) S1 ++ (zbat cs (o 6) S2 ++ (zbat cs (o 7) S3 ++ [(ou, .inl (cs 2, 1, .inr (.inl (zAL gu))))]))))))) (wr := zbat cs (o 2) T ++ (ztxt cs (o 8) f xl g xk xn xd xe ++ (zmod cs q A S V xm xth xam f xl xpl gr))) (vx_runSX (As := [.ref (o 0 0), .int (zI (zX xs (xi + 1))), .int (zI (zX xs (xi + 2))), .int (zI (zX xs (xi + 3))), .int (zI (zX xs (xi + 4))), .ref ou]) (rest := []) ⟨hx, hb, hml, hown, hts⟩ (met_L_repeat_ok l D cs o ou gu H.size A S0 S1 S2 S3 xm n (zX xs (xi + 1)) (zX xs (xi + 2)) (zX xs (xi + 3)) (zX xs (xi + 4)) (by exact hI9.1) (by omega) (by omega) (by exact hI9.2.1) (zX_r xs _) (zX_r xs _) (zX_r xs _) (zX_r xs _) hc9) (vx_cwSW 6 hts gL_law_L_repeat rfl rfl rfl (by decide +kernel) ⟨(Nat.le_of_ble_eq_true rfl), (Nat.le_of_ble_eq_true rfl)⟩) ⟨zPreZ.blind, fun U hU hW => zp_Z (hP.sub (ws' := [((o 0) 0, .inr (5, [.ref ((o 1) 0), .ref ((o 2) 0), .ref ((o 3) 0), .ref ((o 8) 0)]))] ++ (zbat cs (o 1) A ++ ([((o 3) 0, .inr (3, [.ref ((o 3) 1), .int (zI xm)])), ((o 3) 1, .inl (cs 3, 4, .inr (.inr (.inr (.inr (zR ((o 4) 0) ((o 5) 0) ((o 6) 0) ((o 7) 0)))))))] ++ (zbat cs (o 4) S0 ++ (zbat cs (o 5) S1 ++ (zbat cs (o 6) S2 ++ (zbat cs (o 7) S3 ++ [(ou, .inl (cs 2, 1, .inr (.inl (zAL gu))))]))))))) [0, 1, 2, 3, 4, 5, 6, 7, 15, 16, 17, 18, 19, 20, 21, 22, 23, 24, 25, 26, 27, 28, 29, 30, 31, 32, 33, 34, 35, 36, 37, 38, 39, 40, 41, 42, 43, 44, 54] rfl) hK (hD.sub (ws' := [((o 0) 0, .inr (5, [.ref ((o 1) 0), .ref ((o 2) 0), .ref ((o 3) 0), .ref ((o 8) 0)]))] ++ (zbat cs (o 1) A ++ ([((o 3) 0, .inr (3, [.ref ((o 3) 1), .int (zI xm)])), ((o 3) 1, .inl (cs 3, 4, .inr (.inr (.inr (.inr (zR ((o 4) 0) ((o 5) 0) ((o 6) 0) ((o 7) 0)))))))] ++ (zbat cs (o 4) S0 ++ (zbat cs (o 5) S1 ++ (zbat cs (o 6) S2 ++ (zbat cs (o 7) S3 ++ [(ou, .inl (cs 2, 1, .inr (.inl (zAL gu))))]))))))) [0, 1, 2, 3, 4, 5, 6, 7, 15, 16, 17, 18, 19, 20, 21, 22, 23, 24, 25, 26, 27, 28, 29, 30, 31, 32, 33, 34, 35, 36, 37, 38, 39, 40, 41, 42, 43, 44, 54] (by decide) rfl) hN hU hW⟩ rfl rfl hl.1 rfl (lv_room (Nat.le_of_ble_eq_true rfl)) dL_law_622 ⟨by show cells + 0 ≤ 601024; omega, by show slots + 0 ≤ 7293034; omega⟩) hS hP hD hA [0, 1, 2, 3, 4, 5, 6, 7, 15, 16, 17, 18, 19, 20, 21, 22, 23, 24, 25, 26, 27, 28, 29, 30, 31, 32, 33, 34, 35, 36, 37, 38, 39, 40, 41, 42, 43, 44, 54] [8, 9, 10, 11, 12, 13, 14, 45, 46, 47, 48, 49, 50, 51, 52, 53] rfl rfl (by decide) (by decide) (fun H locs hP hD hS => ?_)
    have hP : va_P D vwCl (zest cs (zo5 xm o) (zRp A (zX xs (xi + 1)) (zX xs (xi + 2)) (zX xs (xi + 3)) (zX xs (xi + 4)).toNat) T (zs4 xm 0 A S0 S1) (zs4 xm 1 A S1 S2) (zs4 xm 2 A S2 S3) (zs4 xm 3 A S3 A) (zm4 xm) f xl g xk xn xd xe ++ (zmod cs q A S V xm xth xam f xl xpl gr ++ [(ou, .inl (cs 2, 1, .inr (.inl (zAL (zU gu 0 (zW (zRc A (zX xs (xi + 1)) (zX xs (xi + 2)) (zX xs (xi + 3)) (zX xs (xi + 4)).toNat)))))))])) H := zP_perm hP zPe_H
    have hD : va_D (fun z => s.heap.size ≤ z) (zest cs (zo5 xm o) (zRp A (zX xs (xi + 1)) (zX xs (xi + 2)) (zX xs (xi + 3)) (zX xs (xi + 4)).toNat) T (zs4 xm 0 A S0 S1) (zs4 xm 1 A S1 S2) (zs4 xm 2 A S2 S3) (zs4 xm 3 A S3 A) (zm4 xm) f xl g xk xn xd xe ++ (zmod cs q A S V xm xth xam f xl xpl gr ++ [(ou, .inl (cs 2, 1, .inr (.inl (zAL (zU gu 0 (zW (zRc A (zX xs (xi + 1)) (zX xs (xi + 2)) (zX xs (xi + 3)) (zX xs (xi + 4)).toNat)))))))])) := zD_perm hD zPe_H
    refine lv_istore (lv' := [(5, .int (zI 0)), (4, .int (zI xi)), (3, .ref ou), (2, .ref (q 0)), (1, .ref (o 0 0)), (0, .ref b)]) hx hb dL_law_625 hl (by decide) rfl (fun ls hl => ?_)
    refine lv_aload_n hx hb dL_law_627 rfl (lv_at hl 3 rfl) ?_
    refine lv_aload_n hx hb dL_law_628 rfl (lv_at hl 5 rfl) ?_
    refine lv_iload hx hb dL_law_629 (lv_at hl 1 rfl) ?_
    refine zr_iconst hx hb dL_law_631 ?_
    refine zr_iadd hx hb dL_law_632 ?_
    refine zr_sls hx hb hXs hbl hbA hS hL (by omega) dL_law_633 ?_
    refine lv_aload_n hx hb dL_law_634 rfl (lv_at hl 5 rfl) ?_
    refine lv_iload hx hb dL_law_635 (lv_at hl 1 rfl) ?_
    refine zr_iconst hx hb dL_law_637 ?_
    refine zr_iadd hx hb dL_law_638 ?_
    refine zr_sls hx hb hXs hbl hbA hS hL (by omega) dL_law_639 ?_
    refine lv_aload_n hx hb dL_law_640 rfl (lv_at hl 5 rfl) ?_
    refine lv_iload hx hb dL_law_641 (lv_at hl 1 rfl) ?_
    refine zr_iconst hx hb dL_law_643 ?_
    refine zr_iadd hx hb dL_law_644 ?_
    refine zr_sls hx hb hXs hbl hbA hS hL (by omega) dL_law_645 ?_
    refine lv_aload_n hx hb dL_law_646 rfl (lv_at hl 5 rfl) ?_
    refine lv_iload hx hb dL_law_647 (lv_at hl 1 rfl) ?_
    refine zr_iconst hx hb dL_law_649 ?_
    refine zr_iadd hx hb dL_law_650 ?_
    refine zr_sls hx hb hXs hbl hbA hS hL (by omega) dL_law_651 ?_
    refine zc_ij (w := zmod cs q A S V xm xth xam f xl xpl gr) (wr := zest cs (zo5 xm o) (zRp A (zX xs (xi + 1)) (zX xs (xi + 2)) (zX xs (xi + 3)) (zX xs (xi + 4)).toNat) T (zs4 xm 0 A S0 S1) (zs4 xm 1 A S1 S2) (zs4 xm 2 A S2 S3) (zs4 xm 3 A S3 A) (zm4 xm) f xl g xk xn xd xe ++ [(ou, .inl (cs 2, 1, .inr (.inl (zAL (zU gu 0 (zW (zRc A (zX xs (xi + 1)) (zX xs (xi + 2)) (zX xs (xi + 3)) (zX xs (xi + 4)).toNat)))))))]) (va_runV (As := [.int (zI (zX xs (xi + 1))), .int (zI (zX xs (xi + 2))), .int (zI (zX xs (xi + 3))), .int (zI (zX xs (xi + 4)))]) (rest := []) ⟨hx, hb, hml, hown, hts⟩ (met_X6_repeat_ok l D cs q H.size A S V xm xth xam f xl xpl gr n (zX xs (xi + 1)) (zX xs (xi + 2)) (zX xs (xi + 3)) (zX xs (xi + 4)) (by exact hI9.1) (by omega) (by omega) (by exact hI9.2.1) (zX_r xs _) (zX_r xs _) (zX_r xs _) (zX_r xs _) hc9) (cwV 4 hts gL_law_X6_repeat rfl rfl rfl (by decide +kernel) ⟨(Nat.le_of_ble_eq_true rfl), (Nat.le_of_ble_eq_true rfl)⟩) ⟨zPreZ.blind, va_recv hK hP (ci := 6) (q0 := 48) rfl rfl, fun U hU hW => zp_Z (hP.sub (ws' := zmod cs q A S V xm xth xam f xl xpl gr) [48, 49, 50, 51, 52, 53] rfl) hK (hD.sub (ws' := zmod cs q A S V xm xth xam f xl xpl gr) [48, 49, 50, 51, 52, 53] (by decide) rfl) hN hU hW⟩ rfl rfl hl.1 rfl (lv_room (Nat.le_of_ble_eq_true rfl)) dL_law_652 ⟨by show cells + 0 + 0 ≤ 601024; omega, by show slots + 0 + 0 ≤ 7293034; omega⟩) hS hP hD hA [48, 49, 50, 51, 52, 53] [0, 1, 2, 3, 4, 5, 6, 7, 8, 9, 10, 11, 12, 13, 14, 15, 16, 17, 18, 19, 20, 21, 22, 23, 24, 25, 26, 27, 28, 29, 30, 31, 32, 33, 34, 35, 36, 37, 38, 39, 40, 41, 42, 43, 44, 45, 46, 47, 54] rfl rfl (by decide) (by decide) (fun H locs hP hD hS => ?_)
    have hP : va_P D vwCl (zest cs (zo5 xm o) (zRp A (zX xs (xi + 1)) (zX xs (xi + 2)) (zX xs (xi + 3)) (zX xs (xi + 4)).toNat) T (zs4 xm 0 A S0 S1) (zs4 xm 1 A S1 S2) (zs4 xm 2 A S2 S3) (zs4 xm 3 A S3 A) (zm4 xm) f xl g xk xn xd xe ++ (zmod cs q (zRp A (zX xs (xi + 1)) (zX xs (xi + 2)) (zX xs (xi + 3)) (zX xs (xi + 4)).toNat) (zSvF S A xm) V (zm4 xm) 0 (zRc A (zX xs (xi + 1)) (zX xs (xi + 2)) (zX xs (xi + 3)) (zX xs (xi + 4)).toNat) f xl xpl gr ++ [(ou, .inl (cs 2, 1, .inr (.inl (zAL (zU gu 0 (zW (zRc A (zX xs (xi + 1)) (zX xs (xi + 2)) (zX xs (xi + 3)) (zX xs (xi + 4)).toNat)))))))])) H := zP_perm hP zPe_m
    have hD : va_D (fun z => s.heap.size ≤ z) (zest cs (zo5 xm o) (zRp A (zX xs (xi + 1)) (zX xs (xi + 2)) (zX xs (xi + 3)) (zX xs (xi + 4)).toNat) T (zs4 xm 0 A S0 S1) (zs4 xm 1 A S1 S2) (zs4 xm 2 A S2 S3) (zs4 xm 3 A S3 A) (zm4 xm) f xl g xk xn xd xe ++ (zmod cs q (zRp A (zX xs (xi + 1)) (zX xs (xi + 2)) (zX xs (xi + 3)) (zX xs (xi + 4)).toNat) (zSvF S A xm) V (zm4 xm) 0 (zRc A (zX xs (xi + 1)) (zX xs (xi + 2)) (zX xs (xi + 3)) (zX xs (xi + 4)).toNat) f xl xpl gr ++ [(ou, .inl (cs 2, 1, .inr (.inl (zAL (zU gu 0 (zW (zRc A (zX xs (xi + 1)) (zX xs (xi + 2)) (zX xs (xi + 3)) (zX xs (xi + 4)).toNat)))))))])) := zD_perm hD zPe_m
    refine lv_istore (lv' := [(6, .int (zI (zRc A (zX xs (xi + 1)) (zX xs (xi + 2)) (zX xs (xi + 3)) (zX xs (xi + 4)).toNat))), (5, .int (zI 0)), (4, .int (zI xi)), (3, .ref ou), (2, .ref (q 0)), (1, .ref (o 0 0)), (0, .ref b)]) hx hb dL_law_655 hl (by decide) rfl (fun ls hl => ?_)
    refine lv_aload_n hx hb dL_law_657 rfl (lv_at hl 4 rfl) ?_
    refine zc_ri (va_runV (As := []) (rest := []) ⟨hx, hb, hml, hown, hts⟩ (met_X6_thrown l D cs q (zRp A (zX xs (xi + 1)) (zX xs (xi + 2)) (zX xs (xi + 3)) (zX xs (xi + 4)).toNat) (zSvF S A xm) V (zm4 xm) 0 (zRc A (zX xs (xi + 1)) (zX xs (xi + 2)) (zX xs (xi + 3)) (zX xs (xi + 4)).toNat) f xl xpl gr) (cwV 0 hts gL_law_X6_thrown rfl rfl rfl (by decide +kernel) ⟨(Nat.le_of_ble_eq_true rfl), (Nat.le_of_ble_eq_true rfl)⟩) ⟨zPre.blind, va_recv hK hP (ci := 6) (q0 := 48) rfl rfl, fun U hU hW => zp_R (hP.sub (ws' := zmod cs q (zRp A (zX xs (xi + 1)) (zX xs (xi + 2)) (zX xs (xi + 3)) (zX xs (xi + 4)).toNat) (zSvF S A xm) V (zm4 xm) 0 (zRc A (zX xs (xi + 1)) (zX xs (xi + 2)) (zX xs (xi + 3)) (zX xs (xi + 4)).toNat) f xl xpl gr) [48, 49, 50, 51, 52, 53] rfl) hK (hD.sub (ws' := zmod cs q (zRp A (zX xs (xi + 1)) (zX xs (xi + 2)) (zX xs (xi + 3)) (zX xs (xi + 4)).toNat) (zSvF S A xm) V (zm4 xm) 0 (zRc A (zX xs (xi + 1)) (zX xs (xi + 2)) (zX xs (xi + 3)) (zX xs (xi + 4)).toNat) f xl xpl gr) [48, 49, 50, 51, 52, 53] (by decide) rfl) hN hU hW⟩ rfl rfl hl.1 rfl (lv_room (Nat.le_of_ble_eq_true rfl)) dL_law_658 ⟨by show cells + 0 + 0 + 0 ≤ 601024; omega, by show slots + 0 + 0 + 0 ≤ 7293034; omega⟩) ?_
    refine lv_iload hx hb dL_law_661 (lv_at hl 1 rfl) ?_
    refine zr_iceq (tgt := 668) hx hb dL_law_663 (by decide) ?_
    refine lv_iload hx hb dL_law_668 (lv_at hl 1 rfl) ?_
    refine zr_if_ne (tgt := 685) hx hb dL_law_670 (by decide) (by decide) (fun h9 => absurd h9 (by decide)) (fun _ => ?_)
    refine lv_aload_n hx hb dL_law_673 rfl (lv_at hl 3 rfl) ?_
    refine zr_iconst hx hb dL_law_674 ?_
    refine zr_lald (D := D) (g := zU gu 0 (zW (zRc A (zX xs (xi + 1)) (zX xs (xi + 2)) (zX xs (xi + 3)) (zX xs (xi + 4)).toNat))) hx hb hK hP 54 2 rfl rfl (by decide) (by decide) dL_law_675 ?_
    rw [show (zU gu 0 (zW (zRc A (zX xs (xi + 1)) (zX xs (xi + 2)) (zX xs (xi + 3)) (zX xs (xi + 4)).toNat))) 0 = zW (zRc A (zX xs (xi + 1)) (zX xs (xi + 2)) (zX xs (xi + 3)) (zX xs (xi + 4)).toNat) from rfl]
    refine lv_iload hx hb dL_law_676 (lv_at hl 0 rfl) ?_
    refine lv_i2l hx hb dL_law_678 (zW_l (zRc A (zX xs (xi + 1)) (zX xs (xi + 2)) (zX xs (xi + 3)) (zX xs (xi + 4)).toNat)) ?_
    refine zr_lceq (tgt := 685) hx hb dL_law_679 dL_law_680 (by decide) ?_
    refine lv_goto (tgt := 1683) hx hb dL_law_685 (by decide) ?_
    refine W.widen (k := cells + 1) (n := slots + 6) (by show cells + 0 + 0 ≤ cells + 1; omega) (by show slots + 0 + 0 ≤ slots + 6; omega) ?_
    exact kk (zo5 xm o) q (n + 6000) (zRp A (zX xs (xi + 1)) (zX xs (xi + 2)) (zX xs (xi + 3)) (zX xs (xi + 4)).toNat) T (zs4 xm 0 A S0 S1) (zs4 xm 1 A S1 S2) (zs4 xm 2 A S2 S3) (zs4 xm 3 A S3 A) (zSvF S A xm) V (zm4 xm) f xl g xk xn xd xe 0 (zRc A (zX xs (xi + 1)) (zX xs (xi + 2)) (zX xs (xi + 3)) (zX xs (xi + 4)).toNat) xpl gr (zU gu 0 (zW (zRc A (zX xs (xi + 1)) (zX xs (xi + 2)) (zX xs (xi + 3)) (zX xs (xi + 4)).toNat))) (by exact hI9.save (by omega) (zOK_mono (zOK_rp hI9.1 hn9.1 hc9.1.1 hc9.1.2.1 hc9.1.2.2 _ (by omega)) (by omega))) (by omega) H locs hP hD hS ls (lv_sub hl [2, 3, 4, 5, 6] rfl)
  replace hc9 := hc9
  refine lv_aload_n hx hb dL_law_596 rfl (lv_at hl 3 rfl) ?_
  refine lv_aload_n hx hb dL_law_597 rfl (lv_at hl 4 rfl) ?_
  refine lv_iload hx hb dL_law_598 (lv_at hl 0 rfl) ?_
  refine zr_iconst hx hb dL_law_600 ?_
  refine zr_iadd hx hb dL_law_601 ?_
  refine zr_sls hx hb hXs hbl hbA hS hL (by omega) dL_law_602 ?_
  refine lv_aload_n hx hb dL_law_603 rfl (lv_at hl 4 rfl) ?_
  refine lv_iload hx hb dL_law_604 (lv_at hl 0 rfl) ?_
  refine zr_iconst hx hb dL_law_606 ?_
  refine zr_iadd hx hb dL_law_607 ?_
  refine zr_sls hx hb hXs hbl hbA hS hL (by omega) dL_law_608 ?_
  refine lv_aload_n hx hb dL_law_609 rfl (lv_at hl 4 rfl) ?_
  refine lv_iload hx hb dL_law_610 (lv_at hl 0 rfl) ?_
  refine zr_iconst hx hb dL_law_612 ?_
  refine zr_iadd hx hb dL_law_613 ?_
  refine zr_sls hx hb hXs hbl hbA hS hL (by omega) dL_law_614 ?_
  refine lv_aload_n hx hb dL_law_615 rfl (lv_at hl 4 rfl) ?_
  refine lv_iload hx hb dL_law_616 (lv_at hl 0 rfl) ?_
  refine zr_iconst hx hb dL_law_618 ?_
  refine zr_iadd hx hb dL_law_619 ?_
  refine zr_sls hx hb hXs hbl hbA hS hL (by omega) dL_law_620 ?_
  refine lv_aload_n hx hb dL_law_621 rfl (lv_at hl 1 rfl) ?_
  refine zc_xk (vx_runSX (As := [.ref (o 0 0), .int (zI (zX xs (xi + 1))), .int (zI (zX xs (xi + 2))), .int (zI (zX xs (xi + 3))), .int (zI (zX xs (xi + 4))), .ref ou]) (rest := []) ⟨hx, hb, hml, hown, hts⟩ (met_L_repeat_x l hfl D cs o ou gu A S0 S1 S2 S3 xm (zX xs (xi + 1)) (zX xs (xi + 2)) (zX xs (xi + 3)) (zX xs (xi + 4)) (zX_r xs _) (zX_r xs _) (zX_r xs _) (zX_r xs _) hc9) (vx_cwSW 6 hts gL_law_L_repeat rfl rfl rfl (by decide +kernel) ⟨(Nat.le_of_ble_eq_true rfl), (Nat.le_of_ble_eq_true rfl)⟩) ⟨zPreU.blind, fun U hU hW => zp_U (hP.sub (ws' := [((o 0) 0, .inr (5, [.ref ((o 1) 0), .ref ((o 2) 0), .ref ((o 3) 0), .ref ((o 8) 0)]))] ++ (zbat cs (o 1) A ++ ([((o 3) 0, .inr (3, [.ref ((o 3) 1), .int (zI xm)])), ((o 3) 1, .inl (cs 3, 4, .inr (.inr (.inr (.inr (zR ((o 4) 0) ((o 5) 0) ((o 6) 0) ((o 7) 0)))))))] ++ (zbat cs (o 4) S0 ++ (zbat cs (o 5) S1 ++ (zbat cs (o 6) S2 ++ (zbat cs (o 7) S3 ++ [(ou, .inl (cs 2, 1, .inr (.inl (zAL gu))))]))))))) [0, 1, 2, 3, 4, 5, 6, 7, 15, 16, 17, 18, 19, 20, 21, 22, 23, 24, 25, 26, 27, 28, 29, 30, 31, 32, 33, 34, 35, 36, 37, 38, 39, 40, 41, 42, 43, 44, 54] rfl) hK (hD.sub (ws' := [((o 0) 0, .inr (5, [.ref ((o 1) 0), .ref ((o 2) 0), .ref ((o 3) 0), .ref ((o 8) 0)]))] ++ (zbat cs (o 1) A ++ ([((o 3) 0, .inr (3, [.ref ((o 3) 1), .int (zI xm)])), ((o 3) 1, .inl (cs 3, 4, .inr (.inr (.inr (.inr (zR ((o 4) 0) ((o 5) 0) ((o 6) 0) ((o 7) 0)))))))] ++ (zbat cs (o 4) S0 ++ (zbat cs (o 5) S1 ++ (zbat cs (o 6) S2 ++ (zbat cs (o 7) S3 ++ [(ou, .inl (cs 2, 1, .inr (.inl (zAL gu))))]))))))) [0, 1, 2, 3, 4, 5, 6, 7, 15, 16, 17, 18, 19, 20, 21, 22, 23, 24, 25, 26, 27, 28, 29, 30, 31, 32, 33, 34, 35, 36, 37, 38, 39, 40, 41, 42, 43, 44, 54] (by decide) rfl) hN (hG.at hS) hC hU hW⟩ rfl rfl hl.1 rfl (lv_room (Nat.le_of_ble_eq_true rfl)) dL_law_622 ⟨by show cells + 1 ≤ 601024; omega, by show slots + 6 ≤ 7293034; omega⟩) hS hP (fun H locs hP hS => ?_)
  refine lv_istore (lv' := [(5, .int (zI 1)), (4, .int (zI xi)), (3, .ref ou), (2, .ref (q 0)), (1, .ref (o 0 0)), (0, .ref b)]) hx hb dL_law_625 hl (by decide) rfl (fun ls hl => ?_)
  refine lv_aload_n hx hb dL_law_627 rfl (lv_at hl 3 rfl) ?_
  refine lv_aload_n hx hb dL_law_628 rfl (lv_at hl 5 rfl) ?_
  refine lv_iload hx hb dL_law_629 (lv_at hl 1 rfl) ?_
  refine zr_iconst hx hb dL_law_631 ?_
  refine zr_iadd hx hb dL_law_632 ?_
  refine zr_sls hx hb hXs hbl hbA hS hL (by omega) dL_law_633 ?_
  refine lv_aload_n hx hb dL_law_634 rfl (lv_at hl 5 rfl) ?_
  refine lv_iload hx hb dL_law_635 (lv_at hl 1 rfl) ?_
  refine zr_iconst hx hb dL_law_637 ?_
  refine zr_iadd hx hb dL_law_638 ?_
  refine zr_sls hx hb hXs hbl hbA hS hL (by omega) dL_law_639 ?_
  refine lv_aload_n hx hb dL_law_640 rfl (lv_at hl 5 rfl) ?_
  refine lv_iload hx hb dL_law_641 (lv_at hl 1 rfl) ?_
  refine zr_iconst hx hb dL_law_643 ?_
  refine zr_iadd hx hb dL_law_644 ?_
  refine zr_sls hx hb hXs hbl hbA hS hL (by omega) dL_law_645 ?_
  refine lv_aload_n hx hb dL_law_646 rfl (lv_at hl 5 rfl) ?_
  refine lv_iload hx hb dL_law_647 (lv_at hl 1 rfl) ?_
  refine zr_iconst hx hb dL_law_649 ?_
  refine zr_iadd hx hb dL_law_650 ?_
  refine zr_sls hx hb hXs hbl hbA hS hL (by omega) dL_law_651 ?_
  refine zc_ij (w := zmod cs q A S V xm xth xam f xl xpl gr) (wr := zest cs o A T S0 S1 S2 S3 xm f xl g xk xn xd xe ++ [(ou, .inl (cs 2, 1, .inr (.inl (zAL gu))))]) (va_runV (As := [.int (zI (zX xs (xi + 1))), .int (zI (zX xs (xi + 2))), .int (zI (zX xs (xi + 3))), .int (zI (zX xs (xi + 4)))]) (rest := []) ⟨hx, hb, hml, hown, hts⟩ (met_X6_repeat_no1 l D cs q H.size A S V xm xth xam f xl xpl gr (zX xs (xi + 1)) (zX xs (xi + 2)) (zX xs (xi + 3)) (zX xs (xi + 4)) (zX_r xs _) (zX_r xs _) (zX_r xs _) (zX_r xs _) hc9) (cwV 4 hts gL_law_X6_repeat rfl rfl rfl (by decide +kernel) ⟨(Nat.le_of_ble_eq_true rfl), (Nat.le_of_ble_eq_true rfl)⟩) ⟨zPreZ.blind, va_recv hK hP (ci := 6) (q0 := 48) rfl rfl, fun U hU hW => zp_Z (hP.sub (ws' := zmod cs q A S V xm xth xam f xl xpl gr) [48, 49, 50, 51, 52, 53] rfl) hK (hD.sub (ws' := zmod cs q A S V xm xth xam f xl xpl gr) [48, 49, 50, 51, 52, 53] (by decide) rfl) hN hU hW⟩ rfl rfl hl.1 rfl (lv_room (Nat.le_of_ble_eq_true rfl)) dL_law_652 ⟨by show cells + 1 + 0 ≤ 601024; omega, by show slots + 6 + 0 ≤ 7293034; omega⟩) hS hP hD hA [48, 49, 50, 51, 52, 53] [0, 1, 2, 3, 4, 5, 6, 7, 8, 9, 10, 11, 12, 13, 14, 15, 16, 17, 18, 19, 20, 21, 22, 23, 24, 25, 26, 27, 28, 29, 30, 31, 32, 33, 34, 35, 36, 37, 38, 39, 40, 41, 42, 43, 44, 45, 46, 47, 54] rfl rfl (by decide) (by decide) (fun H locs hP hD hS => ?_)
  have hP : va_P D vwCl (zest cs o A T S0 S1 S2 S3 xm f xl g xk xn xd xe ++ (zmod cs q A S V xm 1 xam f xl xpl gr ++ [(ou, .inl (cs 2, 1, .inr (.inl (zAL gu))))])) H := zP_perm hP zPe_m
  have hD : va_D (fun z => s.heap.size ≤ z) (zest cs o A T S0 S1 S2 S3 xm f xl g xk xn xd xe ++ (zmod cs q A S V xm 1 xam f xl xpl gr ++ [(ou, .inl (cs 2, 1, .inr (.inl (zAL gu))))])) := zD_perm hD zPe_m
  refine lv_istore (lv' := [(6, .int (zI 0)), (5, .int (zI 1)), (4, .int (zI xi)), (3, .ref ou), (2, .ref (q 0)), (1, .ref (o 0 0)), (0, .ref b)]) hx hb dL_law_655 hl (by decide) rfl (fun ls hl => ?_)
  refine lv_aload_n hx hb dL_law_657 rfl (lv_at hl 4 rfl) ?_
  refine zc_ri (va_runV (As := []) (rest := []) ⟨hx, hb, hml, hown, hts⟩ (met_X6_thrown l D cs q A S V xm 1 xam f xl xpl gr) (cwV 0 hts gL_law_X6_thrown rfl rfl rfl (by decide +kernel) ⟨(Nat.le_of_ble_eq_true rfl), (Nat.le_of_ble_eq_true rfl)⟩) ⟨zPre.blind, va_recv hK hP (ci := 6) (q0 := 48) rfl rfl, fun U hU hW => zp_R (hP.sub (ws' := zmod cs q A S V xm 1 xam f xl xpl gr) [48, 49, 50, 51, 52, 53] rfl) hK (hD.sub (ws' := zmod cs q A S V xm 1 xam f xl xpl gr) [48, 49, 50, 51, 52, 53] (by decide) rfl) hN hU hW⟩ rfl rfl hl.1 rfl (lv_room (Nat.le_of_ble_eq_true rfl)) dL_law_658 ⟨by show cells + 1 + 0 + 0 ≤ 601024; omega, by show slots + 6 + 0 + 0 ≤ 7293034; omega⟩) ?_
  refine lv_iload hx hb dL_law_661 (lv_at hl 1 rfl) ?_
  refine zr_iceq (tgt := 668) hx hb dL_law_663 (by decide) ?_
  refine lv_iload hx hb dL_law_668 (lv_at hl 1 rfl) ?_
  refine zr_if_ne (tgt := 685) hx hb dL_law_670 (by decide) (by decide) (fun _ => ?_) (fun h9 => absurd h9 (by decide))
  refine lv_goto (tgt := 1683) hx hb dL_law_685 (by decide) ?_
  refine W.widen (k := cells + 1) (n := slots + 6) (by show cells + 1 + 0 ≤ cells + 1; omega) (by show slots + 6 + 0 ≤ slots + 6; omega) ?_
  exact kk o q n A T S0 S1 S2 S3 S V xm f xl g xk xn xd xe 1 xam xpl gr gu (by exact hI9) (by omega) H locs hP hD hS ls (lv_sub hl [2, 3, 4, 5, 6] rfl)
/-! the law: simulate -/
set_option maxHeartbeats 8000000 in
set_option maxRecDepth 100000 in
theorem law_simulate {p : Program} {e : Env} {s : State} {m : MethodId} {below : List Frame} {meth : Method} {c : Code} {b L : Nat} {xs : Nat → Int32} {Q : State → Prop} (l : Launch) (hfl : l.stackTraces = false) (D : va_G) (cs : Nat → ClassId) (hx : p.tables.exec = Jvm.exec) (hb : c.code = cL_law) (hml : c.maxLocals = 9) (hown : s.vm.findClass RL = some m.cls) (hts : ∀ w ∈ wsL_law, w.before #[Value.ref b] s = true) (hK : va_K D vwCl (zTy cs) s) (hN : zNW s) (hG : zXG s) (hC : zNcP s) (hO : va_AO RX1 s) (hL : L ≤ 2560) (hXs : va_X b L xs s s.heap) (hbl : b < s.heap.size) (xi : Int) (hxi : 0 ≤ xi ∧ xi + 5 ≤ L) (cells slots : Nat) (hcl : cells + 1 ≤ 601024 ∧ slots + 6 ≤ 7293034) (ou : Nat) (o : Nat → Nat → Nat) (q : Nat → Nat) (n : Int) (A T S0 S1 S2 S3 S V : Int → Int) (xm : Int) (f : Int → Int) (xl : Int) (g : Int → Int) (xk xn xd xe xth xam xpl : Int) (gr gu : Int → Int) (hI9 : zInL n A S0 S1 S2 S3 S xm f xl) (hn9 : 0 ≤ n ∧ n ≤ 1200 * xi) (H : Heap) (locs : List Loc) (hP : va_P D vwCl (zest cs o A T S0 S1 S2 S3 xm f xl g xk xn xd xe ++ (zmod cs q A S V xm xth xam f xl xpl gr ++ [(ou, .inl (cs 2, 1, .inr (.inl (zAL gu))))])) H) (hD : va_D (fun z => s.heap.size ≤ z) (zest cs o A T S0 S1 S2 S3 xm f xl g xk xn xd xe ++ (zmod cs q A S V xm xth xam f xl xpl gr ++ [(ou, .inl (cs 2, 1, .inr (.inl (zAL gu))))]))) (hS : va_S (fun z => s.heap.size ≤ z) s.heap H locs) (ls : Array Slot) (hl : lv_has ls 9 [(4, .int (zI xi)), (3, .ref ou), (2, .ref (q 0)), (1, .ref (o 0 0)), (0, .ref b)]) (kk : ∀ (o : Nat → Nat → Nat) (q : Nat → Nat) (n : Int) (A T S0 S1 S2 S3 S V : Int → Int) (xm : Int) (f : Int → Int) (xl : Int) (g : Int → Int) (xk xn xd xe xth xam xpl : Int) (gr gu : Int → Int), zInL n A S0 S1 S2 S3 S xm f xl → (0 ≤ n ∧ n ≤ 1200 * (xi + 5)) → ∀ (H : Heap) (locs : List Loc), va_P D vwCl (zest cs o A T S0 S1 S2 S3 xm f xl g xk xn xd xe ++ (zmod cs q A S V xm xth xam f xl xpl gr ++ [(ou, .inl (cs 2, 1, .inr (.inl (zAL gu))))])) H → va_D (fun z => s.heap.size ≤ z) (zest cs o A T S0 S1 S2 S3 xm f xl g xk xn xd xe ++ (zmod cs q A S V xm xth xam f xl xpl gr ++ [(ou, .inl (cs 2, 1, .inr (.inl (zAL gu))))])) → va_S (fun z => s.heap.size ≤ z) s.heap H locs → ∀ ls : Array Slot, lv_has ls 9 [(4, .int (zI xi)), (3, .ref ou), (2, .ref (q 0)), (1, .ref (o 0 0)), (0, .ref b)] → W p l e room_1 s m #[Value.ref b] below meth c H locs (cells + 1) (slots + 6) Q (F0 m 1683 ls [])) : W p l e room_1 s m #[Value.ref b] below meth c H locs cells slots Q (F0 m 688 ls []) := by
  have hcl1 := hcl.1
  have hcl2 := hcl.2
  have hA : ∀ z : Nat, s.heap.size ≤ z → s.heap.size ≤ z := fun _ h => h
  have hbA : ¬ (s.heap.size ≤ b) := Nat.not_le.mpr hbl
  have hr1 := zX_r xs (xi + 1)
  have hr2 := zX_r xs (xi + 2)
  have hr3 := zX_r xs (xi + 3)
  have hr4 := zX_r xs (xi + 4)
  by_cases hc9 : ((-50000 ≤ (zX xs (xi + 1)) ∧ (zX xs (xi + 1)) ≤ 50000) ∧ (0 ≤ (0 : Int) ∧ (0 : Int) ≤ 6000) ∧ 1 ≤ (zX xs (xi + 2)) ∧ (zX xs (xi + 2)) ≤ 600) ∧ (0 ≤ (zX xs (xi + 3)) ∧ (zX xs (xi + 3)) ≤ 1000) ∧ 0 ≤ (zX xs (xi + 4)) ∧ (zX xs (xi + 4)) ≤ 500
  · refine lv_aload_n hx hb dL_law_688 rfl (lv_at hl 3 rfl) ?_
    refine lv_aload_n hx hb dL_law_689 rfl (lv_at hl 4 rfl) ?_
    refine lv_iload hx hb dL_law_690 (lv_at hl 0 rfl) ?_
    refine zr_iconst hx hb dL_law_692 ?_
    refine zr_iadd hx hb dL_law_693 ?_
    refine zr_sls hx hb hXs hbl hbA hS hL (by omega) dL_law_694 ?_
    refine lv_aload_n hx hb dL_law_695 rfl (lv_at hl 4 rfl) ?_
    refine lv_iload hx hb dL_law_696 (lv_at hl 0 rfl) ?_
    refine zr_iconst hx hb dL_law_698 ?_
    refine zr_iadd hx hb dL_law_699 ?_
    refine zr_sls hx hb hXs hbl hbA hS hL (by omega) dL_law_700 ?_
    refine lv_aload_n hx hb dL_law_701 rfl (lv_at hl 4 rfl) ?_
    refine lv_iload hx hb dL_law_702 (lv_at hl 0 rfl) ?_
    refine zr_iconst hx hb dL_law_704 ?_
    refine zr_iadd hx hb dL_law_705 ?_
    refine zr_sls hx hb hXs hbl hbA hS hL (by omega) dL_law_706 ?_
    refine lv_aload_n hx hb dL_law_707 rfl (lv_at hl 4 rfl) ?_
    refine lv_iload hx hb dL_law_708 (lv_at hl 0 rfl) ?_
    refine zr_iconst hx hb dL_law_710 ?_
    refine zr_iadd hx hb dL_law_711 ?_
    refine zr_sls hx hb hXs hbl hbA hS hL (by omega) dL_law_712 ?_
    refine lv_aload_n hx hb dL_law_713 rfl (lv_at hl 1 rfl) ?_
    refine zc_xi (w := [((o 0) 0, .inr (5, [.ref ((o 1) 0), .ref ((o 2) 0), .ref ((o 3) 0), .ref ((o 8) 0)]))] ++ (zbat cs (o 1) A ++ ([((o 3) 0, .inr (3, [.ref ((o 3) 1), .int (zI xm)])), ((o 3) 1, .inl (cs 3, 4, .inr (.inr (.inr (.inr (zR ((o 4) 0) ((o 5) 0) ((o 6) 0) ((o 7) 0)))))))] ++ (zbat cs (o 4) S0 ++ (zbat cs (o 5) S1 ++ (zbat cs (o 6) S2 ++ (zbat cs (o 7) S3 ++ [(ou, .inl (cs 2, 1, .inr (.inl (zAL gu))))]))))))) (wr := zbat cs (o 2) T ++ (ztxt cs (o 8) f xl g xk xn xd xe ++ (zmod cs q A S V xm xth xam f xl xpl gr))) (vx_runSX (As := [.ref (o 0 0), .int (zI (zX xs (xi + 1))), .int (zI (zX xs (xi + 2))), .int (zI (zX xs (xi + 3))), .int (zI (zX xs (xi + 4))), .ref ou]) (rest := []) ⟨hx, hb, hml, hown, hts⟩ (met_L_simulate_ok l D cs o ou gu H.size A S0 S1 S2 S3 xm n (zX xs (xi + 1)) (zX xs (xi + 2)) (zX xs (xi + 3)) (zX xs (xi + 4)) (by exact hI9.1) (by omega) (by omega) (by exact hI9.2.1) (zX_r xs _) (zX_r xs _) (zX_r xs _) (zX_r xs _) hc9) (vx_cwSW 6 hts gL_law_L_simulate rfl rfl rfl (by decide +kernel) ⟨(Nat.le_of_ble_eq_true rfl), (Nat.le_of_ble_eq_true rfl)⟩) ⟨zPreZ.blind, fun U hU hW => zp_Z (hP.sub (ws' := [((o 0) 0, .inr (5, [.ref ((o 1) 0), .ref ((o 2) 0), .ref ((o 3) 0), .ref ((o 8) 0)]))] ++ (zbat cs (o 1) A ++ ([((o 3) 0, .inr (3, [.ref ((o 3) 1), .int (zI xm)])), ((o 3) 1, .inl (cs 3, 4, .inr (.inr (.inr (.inr (zR ((o 4) 0) ((o 5) 0) ((o 6) 0) ((o 7) 0)))))))] ++ (zbat cs (o 4) S0 ++ (zbat cs (o 5) S1 ++ (zbat cs (o 6) S2 ++ (zbat cs (o 7) S3 ++ [(ou, .inl (cs 2, 1, .inr (.inl (zAL gu))))]))))))) [0, 1, 2, 3, 4, 5, 6, 7, 15, 16, 17, 18, 19, 20, 21, 22, 23, 24, 25, 26, 27, 28, 29, 30, 31, 32, 33, 34, 35, 36, 37, 38, 39, 40, 41, 42, 43, 44, 54] rfl) hK (hD.sub (ws' := [((o 0) 0, .inr (5, [.ref ((o 1) 0), .ref ((o 2) 0), .ref ((o 3) 0), .ref ((o 8) 0)]))] ++ (zbat cs (o 1) A ++ ([((o 3) 0, .inr (3, [.ref ((o 3) 1), .int (zI xm)])), ((o 3) 1, .inl (cs 3, 4, .inr (.inr (.inr (.inr (zR ((o 4) 0) ((o 5) 0) ((o 6) 0) ((o 7) 0)))))))] ++ (zbat cs (o 4) S0 ++ (zbat cs (o 5) S1 ++ (zbat cs (o 6) S2 ++ (zbat cs (o 7) S3 ++ [(ou, .inl (cs 2, 1, .inr (.inl (zAL gu))))]))))))) [0, 1, 2, 3, 4, 5, 6, 7, 15, 16, 17, 18, 19, 20, 21, 22, 23, 24, 25, 26, 27, 28, 29, 30, 31, 32, 33, 34, 35, 36, 37, 38, 39, 40, 41, 42, 43, 44, 54] (by decide) rfl) hN hU hW⟩ rfl rfl hl.1 rfl (lv_room (Nat.le_of_ble_eq_true rfl)) dL_law_714 ⟨by show cells + 0 ≤ 601024; omega, by show slots + 0 ≤ 7293034; omega⟩) hS hP hD hA [0, 1, 2, 3, 4, 5, 6, 7, 15, 16, 17, 18, 19, 20, 21, 22, 23, 24, 25, 26, 27, 28, 29, 30, 31, 32, 33, 34, 35, 36, 37, 38, 39, 40, 41, 42, 43, 44, 54] [8, 9, 10, 11, 12, 13, 14, 45, 46, 47, 48, 49, 50, 51, 52, 53] rfl rfl (by decide) (by decide) (fun H locs hP hD hS => ?_)
    have hP : va_P D vwCl (zest cs (zo5 xm o) (zMp A (zX xs (xi + 1)) (zX xs (xi + 2)) (zX xs (xi + 3)) (zX xs (xi + 4)).toNat) T (zs4 xm 0 A S0 S1) (zs4 xm 1 A S1 S2) (zs4 xm 2 A S2 S3) (zs4 xm 3 A S3 A) (zm4 xm) f xl g xk xn xd xe ++ (zmod cs q A S V xm xth xam f xl xpl gr ++ [(ou, .inl (cs 2, 1, .inr (.inl (zAL (zU gu 0 (zW (zMc A (zX xs (xi + 1)) (zX xs (xi + 2)) (zX xs (xi + 3)) (zX xs (xi + 4)).toNat)))))))])) H := zP_perm hP zPe_H
    have hD : va_D (fun z => s.heap.size ≤ z) (zest cs (zo5 xm o) (zMp A (zX xs (xi + 1)) (zX xs (xi + 2)) (zX xs (xi + 3)) (zX xs (xi + 4)).toNat) T (zs4 xm 0 A S0 S1) (zs4 xm 1 A S1 S2) (zs4 xm 2 A S2 S3) (zs4 xm 3 A S3 A) (zm4 xm) f xl g xk xn xd xe ++ (zmod cs q A S V xm xth xam f xl xpl gr ++ [(ou, .inl (cs 2, 1, .inr (.inl (zAL (zU gu 0 (zW (zMc A (zX xs (xi + 1)) (zX xs (xi + 2)) (zX xs (xi + 3)) (zX xs (xi + 4)).toNat)))))))])) := zD_perm hD zPe_H
    refine lv_istore (lv' := [(5, .int (zI 0)), (4, .int (zI xi)), (3, .ref ou), (2, .ref (q 0)), (1, .ref (o 0 0)), (0, .ref b)]) hx hb dL_law_717 hl (by decide) rfl (fun ls hl => ?_)
    refine lv_aload_n hx hb dL_law_719 rfl (lv_at hl 3 rfl) ?_
    refine lv_aload_n hx hb dL_law_720 rfl (lv_at hl 5 rfl) ?_
    refine lv_iload hx hb dL_law_721 (lv_at hl 1 rfl) ?_
    refine zr_iconst hx hb dL_law_723 ?_
    refine zr_iadd hx hb dL_law_724 ?_
    refine zr_sls hx hb hXs hbl hbA hS hL (by omega) dL_law_725 ?_
    refine lv_aload_n hx hb dL_law_726 rfl (lv_at hl 5 rfl) ?_
    refine lv_iload hx hb dL_law_727 (lv_at hl 1 rfl) ?_
    refine zr_iconst hx hb dL_law_729 ?_
    refine zr_iadd hx hb dL_law_730 ?_
    refine zr_sls hx hb hXs hbl hbA hS hL (by omega) dL_law_731 ?_
    refine lv_aload_n hx hb dL_law_732 rfl (lv_at hl 5 rfl) ?_
    refine lv_iload hx hb dL_law_733 (lv_at hl 1 rfl) ?_
    refine zr_iconst hx hb dL_law_735 ?_
    refine zr_iadd hx hb dL_law_736 ?_
    refine zr_sls hx hb hXs hbl hbA hS hL (by omega) dL_law_737 ?_
    refine lv_aload_n hx hb dL_law_738 rfl (lv_at hl 5 rfl) ?_
    refine lv_iload hx hb dL_law_739 (lv_at hl 1 rfl) ?_
    refine zr_iconst hx hb dL_law_741 ?_
    refine zr_iadd hx hb dL_law_742 ?_
    refine zr_sls hx hb hXs hbl hbA hS hL (by omega) dL_law_743 ?_
    refine zc_ij (w := zmod cs q A S V xm xth xam f xl xpl gr) (wr := zest cs (zo5 xm o) (zMp A (zX xs (xi + 1)) (zX xs (xi + 2)) (zX xs (xi + 3)) (zX xs (xi + 4)).toNat) T (zs4 xm 0 A S0 S1) (zs4 xm 1 A S1 S2) (zs4 xm 2 A S2 S3) (zs4 xm 3 A S3 A) (zm4 xm) f xl g xk xn xd xe ++ [(ou, .inl (cs 2, 1, .inr (.inl (zAL (zU gu 0 (zW (zMc A (zX xs (xi + 1)) (zX xs (xi + 2)) (zX xs (xi + 3)) (zX xs (xi + 4)).toNat)))))))]) (va_runV (As := [.int (zI (zX xs (xi + 1))), .int (zI (zX xs (xi + 2))), .int (zI (zX xs (xi + 3))), .int (zI (zX xs (xi + 4)))]) (rest := []) ⟨hx, hb, hml, hown, hts⟩ (met_X6_simulate_ok l D cs q H.size A S V xm xth xam f xl xpl gr n (zX xs (xi + 1)) (zX xs (xi + 2)) (zX xs (xi + 3)) (zX xs (xi + 4)) (by exact hI9.1) (by omega) (by omega) (by exact hI9.2.1) (zX_r xs _) (zX_r xs _) (zX_r xs _) (zX_r xs _) hc9) (cwV 4 hts gL_law_X6_simulate rfl rfl rfl (by decide +kernel) ⟨(Nat.le_of_ble_eq_true rfl), (Nat.le_of_ble_eq_true rfl)⟩) ⟨zPreZ.blind, va_recv hK hP (ci := 6) (q0 := 48) rfl rfl, fun U hU hW => zp_Z (hP.sub (ws' := zmod cs q A S V xm xth xam f xl xpl gr) [48, 49, 50, 51, 52, 53] rfl) hK (hD.sub (ws' := zmod cs q A S V xm xth xam f xl xpl gr) [48, 49, 50, 51, 52, 53] (by decide) rfl) hN hU hW⟩ rfl rfl hl.1 rfl (lv_room (Nat.le_of_ble_eq_true rfl)) dL_law_744 ⟨by show cells + 0 + 0 ≤ 601024; omega, by show slots + 0 + 0 ≤ 7293034; omega⟩) hS hP hD hA [48, 49, 50, 51, 52, 53] [0, 1, 2, 3, 4, 5, 6, 7, 8, 9, 10, 11, 12, 13, 14, 15, 16, 17, 18, 19, 20, 21, 22, 23, 24, 25, 26, 27, 28, 29, 30, 31, 32, 33, 34, 35, 36, 37, 38, 39, 40, 41, 42, 43, 44, 45, 46, 47, 54] rfl rfl (by decide) (by decide) (fun H locs hP hD hS => ?_)
    have hP : va_P D vwCl (zest cs (zo5 xm o) (zMp A (zX xs (xi + 1)) (zX xs (xi + 2)) (zX xs (xi + 3)) (zX xs (xi + 4)).toNat) T (zs4 xm 0 A S0 S1) (zs4 xm 1 A S1 S2) (zs4 xm 2 A S2 S3) (zs4 xm 3 A S3 A) (zm4 xm) f xl g xk xn xd xe ++ (zmod cs q (zMp A (zX xs (xi + 1)) (zX xs (xi + 2)) (zX xs (xi + 3)) (zX xs (xi + 4)).toNat) (zSvF S A xm) V (zm4 xm) 0 (zMc A (zX xs (xi + 1)) (zX xs (xi + 2)) (zX xs (xi + 3)) (zX xs (xi + 4)).toNat) f xl xpl gr ++ [(ou, .inl (cs 2, 1, .inr (.inl (zAL (zU gu 0 (zW (zMc A (zX xs (xi + 1)) (zX xs (xi + 2)) (zX xs (xi + 3)) (zX xs (xi + 4)).toNat)))))))])) H := zP_perm hP zPe_m
    have hD : va_D (fun z => s.heap.size ≤ z) (zest cs (zo5 xm o) (zMp A (zX xs (xi + 1)) (zX xs (xi + 2)) (zX xs (xi + 3)) (zX xs (xi + 4)).toNat) T (zs4 xm 0 A S0 S1) (zs4 xm 1 A S1 S2) (zs4 xm 2 A S2 S3) (zs4 xm 3 A S3 A) (zm4 xm) f xl g xk xn xd xe ++ (zmod cs q (zMp A (zX xs (xi + 1)) (zX xs (xi + 2)) (zX xs (xi + 3)) (zX xs (xi + 4)).toNat) (zSvF S A xm) V (zm4 xm) 0 (zMc A (zX xs (xi + 1)) (zX xs (xi + 2)) (zX xs (xi + 3)) (zX xs (xi + 4)).toNat) f xl xpl gr ++ [(ou, .inl (cs 2, 1, .inr (.inl (zAL (zU gu 0 (zW (zMc A (zX xs (xi + 1)) (zX xs (xi + 2)) (zX xs (xi + 3)) (zX xs (xi + 4)).toNat)))))))])) := zD_perm hD zPe_m
    refine lv_istore (lv' := [(6, .int (zI (zMc A (zX xs (xi + 1)) (zX xs (xi + 2)) (zX xs (xi + 3)) (zX xs (xi + 4)).toNat))), (5, .int (zI 0)), (4, .int (zI xi)), (3, .ref ou), (2, .ref (q 0)), (1, .ref (o 0 0)), (0, .ref b)]) hx hb dL_law_747 hl (by decide) rfl (fun ls hl => ?_)
    refine lv_aload_n hx hb dL_law_749 rfl (lv_at hl 4 rfl) ?_
    refine zc_ri (va_runV (As := []) (rest := []) ⟨hx, hb, hml, hown, hts⟩ (met_X6_thrown l D cs q (zMp A (zX xs (xi + 1)) (zX xs (xi + 2)) (zX xs (xi + 3)) (zX xs (xi + 4)).toNat) (zSvF S A xm) V (zm4 xm) 0 (zMc A (zX xs (xi + 1)) (zX xs (xi + 2)) (zX xs (xi + 3)) (zX xs (xi + 4)).toNat) f xl xpl gr) (cwV 0 hts gL_law_X6_thrown rfl rfl rfl (by decide +kernel) ⟨(Nat.le_of_ble_eq_true rfl), (Nat.le_of_ble_eq_true rfl)⟩) ⟨zPre.blind, va_recv hK hP (ci := 6) (q0 := 48) rfl rfl, fun U hU hW => zp_R (hP.sub (ws' := zmod cs q (zMp A (zX xs (xi + 1)) (zX xs (xi + 2)) (zX xs (xi + 3)) (zX xs (xi + 4)).toNat) (zSvF S A xm) V (zm4 xm) 0 (zMc A (zX xs (xi + 1)) (zX xs (xi + 2)) (zX xs (xi + 3)) (zX xs (xi + 4)).toNat) f xl xpl gr) [48, 49, 50, 51, 52, 53] rfl) hK (hD.sub (ws' := zmod cs q (zMp A (zX xs (xi + 1)) (zX xs (xi + 2)) (zX xs (xi + 3)) (zX xs (xi + 4)).toNat) (zSvF S A xm) V (zm4 xm) 0 (zMc A (zX xs (xi + 1)) (zX xs (xi + 2)) (zX xs (xi + 3)) (zX xs (xi + 4)).toNat) f xl xpl gr) [48, 49, 50, 51, 52, 53] (by decide) rfl) hN hU hW⟩ rfl rfl hl.1 rfl (lv_room (Nat.le_of_ble_eq_true rfl)) dL_law_750 ⟨by show cells + 0 + 0 + 0 ≤ 601024; omega, by show slots + 0 + 0 + 0 ≤ 7293034; omega⟩) ?_
    refine lv_iload hx hb dL_law_753 (lv_at hl 1 rfl) ?_
    refine zr_iceq (tgt := 760) hx hb dL_law_755 (by decide) ?_
    refine lv_iload hx hb dL_law_760 (lv_at hl 1 rfl) ?_
    refine zr_if_ne (tgt := 777) hx hb dL_law_762 (by decide) (by decide) (fun h9 => absurd h9 (by decide)) (fun _ => ?_)
    refine lv_aload_n hx hb dL_law_765 rfl (lv_at hl 3 rfl) ?_
    refine zr_iconst hx hb dL_law_766 ?_
    refine zr_lald (D := D) (g := zU gu 0 (zW (zMc A (zX xs (xi + 1)) (zX xs (xi + 2)) (zX xs (xi + 3)) (zX xs (xi + 4)).toNat))) hx hb hK hP 54 2 rfl rfl (by decide) (by decide) dL_law_767 ?_
    rw [show (zU gu 0 (zW (zMc A (zX xs (xi + 1)) (zX xs (xi + 2)) (zX xs (xi + 3)) (zX xs (xi + 4)).toNat))) 0 = zW (zMc A (zX xs (xi + 1)) (zX xs (xi + 2)) (zX xs (xi + 3)) (zX xs (xi + 4)).toNat) from rfl]
    refine lv_iload hx hb dL_law_768 (lv_at hl 0 rfl) ?_
    refine lv_i2l hx hb dL_law_770 (zW_l (zMc A (zX xs (xi + 1)) (zX xs (xi + 2)) (zX xs (xi + 3)) (zX xs (xi + 4)).toNat)) ?_
    refine zr_lceq (tgt := 777) hx hb dL_law_771 dL_law_772 (by decide) ?_
    refine lv_goto (tgt := 1683) hx hb dL_law_777 (by decide) ?_
    refine W.widen (k := cells + 1) (n := slots + 6) (by show cells + 0 + 0 ≤ cells + 1; omega) (by show slots + 0 + 0 ≤ slots + 6; omega) ?_
    exact kk (zo5 xm o) q (n + 6000) (zMp A (zX xs (xi + 1)) (zX xs (xi + 2)) (zX xs (xi + 3)) (zX xs (xi + 4)).toNat) T (zs4 xm 0 A S0 S1) (zs4 xm 1 A S1 S2) (zs4 xm 2 A S2 S3) (zs4 xm 3 A S3 A) (zSvF S A xm) V (zm4 xm) f xl g xk xn xd xe 0 (zMc A (zX xs (xi + 1)) (zX xs (xi + 2)) (zX xs (xi + 3)) (zX xs (xi + 4)).toNat) xpl gr (zU gu 0 (zW (zMc A (zX xs (xi + 1)) (zX xs (xi + 2)) (zX xs (xi + 3)) (zX xs (xi + 4)).toNat))) (by exact hI9.save (by omega) (zOK_mono (zOK_mp hI9.1 hn9.1 hc9.1.1 hc9.1.2.2 _ (by omega)) (by omega))) (by omega) H locs hP hD hS ls (lv_sub hl [2, 3, 4, 5, 6] rfl)
  replace hc9 := hc9
  refine lv_aload_n hx hb dL_law_688 rfl (lv_at hl 3 rfl) ?_
  refine lv_aload_n hx hb dL_law_689 rfl (lv_at hl 4 rfl) ?_
  refine lv_iload hx hb dL_law_690 (lv_at hl 0 rfl) ?_
  refine zr_iconst hx hb dL_law_692 ?_
  refine zr_iadd hx hb dL_law_693 ?_
  refine zr_sls hx hb hXs hbl hbA hS hL (by omega) dL_law_694 ?_
  refine lv_aload_n hx hb dL_law_695 rfl (lv_at hl 4 rfl) ?_
  refine lv_iload hx hb dL_law_696 (lv_at hl 0 rfl) ?_
  refine zr_iconst hx hb dL_law_698 ?_
  refine zr_iadd hx hb dL_law_699 ?_
  refine zr_sls hx hb hXs hbl hbA hS hL (by omega) dL_law_700 ?_
  refine lv_aload_n hx hb dL_law_701 rfl (lv_at hl 4 rfl) ?_
  refine lv_iload hx hb dL_law_702 (lv_at hl 0 rfl) ?_
  refine zr_iconst hx hb dL_law_704 ?_
  refine zr_iadd hx hb dL_law_705 ?_
  refine zr_sls hx hb hXs hbl hbA hS hL (by omega) dL_law_706 ?_
  refine lv_aload_n hx hb dL_law_707 rfl (lv_at hl 4 rfl) ?_
  refine lv_iload hx hb dL_law_708 (lv_at hl 0 rfl) ?_
  refine zr_iconst hx hb dL_law_710 ?_
  refine zr_iadd hx hb dL_law_711 ?_
  refine zr_sls hx hb hXs hbl hbA hS hL (by omega) dL_law_712 ?_
  refine lv_aload_n hx hb dL_law_713 rfl (lv_at hl 1 rfl) ?_
  refine zc_xk (vx_runSX (As := [.ref (o 0 0), .int (zI (zX xs (xi + 1))), .int (zI (zX xs (xi + 2))), .int (zI (zX xs (xi + 3))), .int (zI (zX xs (xi + 4))), .ref ou]) (rest := []) ⟨hx, hb, hml, hown, hts⟩ (met_L_simulate_x l hfl D cs o ou gu A S0 S1 S2 S3 xm (zX xs (xi + 1)) (zX xs (xi + 2)) (zX xs (xi + 3)) (zX xs (xi + 4)) (zX_r xs _) (zX_r xs _) (zX_r xs _) (zX_r xs _) hc9) (vx_cwSW 6 hts gL_law_L_simulate rfl rfl rfl (by decide +kernel) ⟨(Nat.le_of_ble_eq_true rfl), (Nat.le_of_ble_eq_true rfl)⟩) ⟨zPreU.blind, fun U hU hW => zp_U (hP.sub (ws' := [((o 0) 0, .inr (5, [.ref ((o 1) 0), .ref ((o 2) 0), .ref ((o 3) 0), .ref ((o 8) 0)]))] ++ (zbat cs (o 1) A ++ ([((o 3) 0, .inr (3, [.ref ((o 3) 1), .int (zI xm)])), ((o 3) 1, .inl (cs 3, 4, .inr (.inr (.inr (.inr (zR ((o 4) 0) ((o 5) 0) ((o 6) 0) ((o 7) 0)))))))] ++ (zbat cs (o 4) S0 ++ (zbat cs (o 5) S1 ++ (zbat cs (o 6) S2 ++ (zbat cs (o 7) S3 ++ [(ou, .inl (cs 2, 1, .inr (.inl (zAL gu))))]))))))) [0, 1, 2, 3, 4, 5, 6, 7, 15, 16, 17, 18, 19, 20, 21, 22, 23, 24, 25, 26, 27, 28, 29, 30, 31, 32, 33, 34, 35, 36, 37, 38, 39, 40, 41, 42, 43, 44, 54] rfl) hK (hD.sub (ws' := [((o 0) 0, .inr (5, [.ref ((o 1) 0), .ref ((o 2) 0), .ref ((o 3) 0), .ref ((o 8) 0)]))] ++ (zbat cs (o 1) A ++ ([((o 3) 0, .inr (3, [.ref ((o 3) 1), .int (zI xm)])), ((o 3) 1, .inl (cs 3, 4, .inr (.inr (.inr (.inr (zR ((o 4) 0) ((o 5) 0) ((o 6) 0) ((o 7) 0)))))))] ++ (zbat cs (o 4) S0 ++ (zbat cs (o 5) S1 ++ (zbat cs (o 6) S2 ++ (zbat cs (o 7) S3 ++ [(ou, .inl (cs 2, 1, .inr (.inl (zAL gu))))]))))))) [0, 1, 2, 3, 4, 5, 6, 7, 15, 16, 17, 18, 19, 20, 21, 22, 23, 24, 25, 26, 27, 28, 29, 30, 31, 32, 33, 34, 35, 36, 37, 38, 39, 40, 41, 42, 43, 44, 54] (by decide) rfl) hN (hG.at hS) hC hU hW⟩ rfl rfl hl.1 rfl (lv_room (Nat.le_of_ble_eq_true rfl)) dL_law_714 ⟨by show cells + 1 ≤ 601024; omega, by show slots + 6 ≤ 7293034; omega⟩) hS hP (fun H locs hP hS => ?_)
  refine lv_istore (lv' := [(5, .int (zI 1)), (4, .int (zI xi)), (3, .ref ou), (2, .ref (q 0)), (1, .ref (o 0 0)), (0, .ref b)]) hx hb dL_law_717 hl (by decide) rfl (fun ls hl => ?_)
  refine lv_aload_n hx hb dL_law_719 rfl (lv_at hl 3 rfl) ?_
  refine lv_aload_n hx hb dL_law_720 rfl (lv_at hl 5 rfl) ?_
  refine lv_iload hx hb dL_law_721 (lv_at hl 1 rfl) ?_
  refine zr_iconst hx hb dL_law_723 ?_
  refine zr_iadd hx hb dL_law_724 ?_
  refine zr_sls hx hb hXs hbl hbA hS hL (by omega) dL_law_725 ?_
  refine lv_aload_n hx hb dL_law_726 rfl (lv_at hl 5 rfl) ?_
  refine lv_iload hx hb dL_law_727 (lv_at hl 1 rfl) ?_
  refine zr_iconst hx hb dL_law_729 ?_
  refine zr_iadd hx hb dL_law_730 ?_
  refine zr_sls hx hb hXs hbl hbA hS hL (by omega) dL_law_731 ?_
  refine lv_aload_n hx hb dL_law_732 rfl (lv_at hl 5 rfl) ?_
  refine lv_iload hx hb dL_law_733 (lv_at hl 1 rfl) ?_
  refine zr_iconst hx hb dL_law_735 ?_
  refine zr_iadd hx hb dL_law_736 ?_
  refine zr_sls hx hb hXs hbl hbA hS hL (by omega) dL_law_737 ?_
  refine lv_aload_n hx hb dL_law_738 rfl (lv_at hl 5 rfl) ?_
  refine lv_iload hx hb dL_law_739 (lv_at hl 1 rfl) ?_
  refine zr_iconst hx hb dL_law_741 ?_
  refine zr_iadd hx hb dL_law_742 ?_
  refine zr_sls hx hb hXs hbl hbA hS hL (by omega) dL_law_743 ?_
  refine zc_ij (w := zmod cs q A S V xm xth xam f xl xpl gr) (wr := zest cs o A T S0 S1 S2 S3 xm f xl g xk xn xd xe ++ [(ou, .inl (cs 2, 1, .inr (.inl (zAL gu))))]) (va_runV (As := [.int (zI (zX xs (xi + 1))), .int (zI (zX xs (xi + 2))), .int (zI (zX xs (xi + 3))), .int (zI (zX xs (xi + 4)))]) (rest := []) ⟨hx, hb, hml, hown, hts⟩ (met_X6_simulate_no1 l D cs q H.size A S V xm xth xam f xl xpl gr (zX xs (xi + 1)) (zX xs (xi + 2)) (zX xs (xi + 3)) (zX xs (xi + 4)) (zX_r xs _) (zX_r xs _) (zX_r xs _) (zX_r xs _) hc9) (cwV 4 hts gL_law_X6_simulate rfl rfl rfl (by decide +kernel) ⟨(Nat.le_of_ble_eq_true rfl), (Nat.le_of_ble_eq_true rfl)⟩) ⟨zPreZ.blind, va_recv hK hP (ci := 6) (q0 := 48) rfl rfl, fun U hU hW => zp_Z (hP.sub (ws' := zmod cs q A S V xm xth xam f xl xpl gr) [48, 49, 50, 51, 52, 53] rfl) hK (hD.sub (ws' := zmod cs q A S V xm xth xam f xl xpl gr) [48, 49, 50, 51, 52, 53] (by decide) rfl) hN hU hW⟩ rfl rfl hl.1 rfl (lv_room (Nat.le_of_ble_eq_true rfl)) dL_law_744 ⟨by show cells + 1 + 0 ≤ 601024; omega, by show slots + 6 + 0 ≤ 7293034; omega⟩) hS hP hD hA [48, 49, 50, 51, 52, 53] [0, 1, 2, 3, 4, 5, 6, 7, 8, 9, 10, 11, 12, 13, 14, 15, 16, 17, 18, 19, 20, 21, 22, 23, 24, 25, 26, 27, 28, 29, 30, 31, 32, 33, 34, 35, 36, 37, 38, 39, 40, 41, 42, 43, 44, 45, 46, 47, 54] rfl rfl (by decide) (by decide) (fun H locs hP hD hS => ?_)
  have hP : va_P D vwCl (zest cs o A T S0 S1 S2 S3 xm f xl g xk xn xd xe ++ (zmod cs q A S V xm 1 xam f xl xpl gr ++ [(ou, .inl (cs 2, 1, .inr (.inl (zAL gu))))])) H := zP_perm hP zPe_m
  have hD : va_D (fun z => s.heap.size ≤ z) (zest cs o A T S0 S1 S2 S3 xm f xl g xk xn xd xe ++ (zmod cs q A S V xm 1 xam f xl xpl gr ++ [(ou, .inl (cs 2, 1, .inr (.inl (zAL gu))))])) := zD_perm hD zPe_m
  refine lv_istore (lv' := [(6, .int (zI 0)), (5, .int (zI 1)), (4, .int (zI xi)), (3, .ref ou), (2, .ref (q 0)), (1, .ref (o 0 0)), (0, .ref b)]) hx hb dL_law_747 hl (by decide) rfl (fun ls hl => ?_)
  refine lv_aload_n hx hb dL_law_749 rfl (lv_at hl 4 rfl) ?_
  refine zc_ri (va_runV (As := []) (rest := []) ⟨hx, hb, hml, hown, hts⟩ (met_X6_thrown l D cs q A S V xm 1 xam f xl xpl gr) (cwV 0 hts gL_law_X6_thrown rfl rfl rfl (by decide +kernel) ⟨(Nat.le_of_ble_eq_true rfl), (Nat.le_of_ble_eq_true rfl)⟩) ⟨zPre.blind, va_recv hK hP (ci := 6) (q0 := 48) rfl rfl, fun U hU hW => zp_R (hP.sub (ws' := zmod cs q A S V xm 1 xam f xl xpl gr) [48, 49, 50, 51, 52, 53] rfl) hK (hD.sub (ws' := zmod cs q A S V xm 1 xam f xl xpl gr) [48, 49, 50, 51, 52, 53] (by decide) rfl) hN hU hW⟩ rfl rfl hl.1 rfl (lv_room (Nat.le_of_ble_eq_true rfl)) dL_law_750 ⟨by show cells + 1 + 0 + 0 ≤ 601024; omega, by show slots + 6 + 0 + 0 ≤ 7293034; omega⟩) ?_
  refine lv_iload hx hb dL_law_753 (lv_at hl 1 rfl) ?_
  refine zr_iceq (tgt := 760) hx hb dL_law_755 (by decide) ?_
  refine lv_iload hx hb dL_law_760 (lv_at hl 1 rfl) ?_
  refine zr_if_ne (tgt := 777) hx hb dL_law_762 (by decide) (by decide) (fun _ => ?_) (fun h9 => absurd h9 (by decide))
  refine lv_goto (tgt := 1683) hx hb dL_law_777 (by decide) ?_
  refine W.widen (k := cells + 1) (n := slots + 6) (by show cells + 1 + 0 ≤ cells + 1; omega) (by show slots + 6 + 0 ≤ slots + 6; omega) ?_
  exact kk o q n A T S0 S1 S2 S3 S V xm f xl g xk xn xd xe 1 xam xpl gr gu (by exact hI9) (by omega) H locs hP hD hS ls (lv_sub hl [2, 3, 4, 5, 6] rfl)
/-! the law: charge -/
set_option maxHeartbeats 8000000 in
set_option maxRecDepth 100000 in
theorem law_charge {p : Program} {e : Env} {s : State} {m : MethodId} {below : List Frame} {meth : Method} {c : Code} {b L : Nat} {xs : Nat → Int32} {Q : State → Prop} (l : Launch) (hfl : l.stackTraces = false) (D : va_G) (cs : Nat → ClassId) (hx : p.tables.exec = Jvm.exec) (hb : c.code = cL_law) (hml : c.maxLocals = 9) (hown : s.vm.findClass RL = some m.cls) (hts : ∀ w ∈ wsL_law, w.before #[Value.ref b] s = true) (hK : va_K D vwCl (zTy cs) s) (hN : zNW s) (hG : zXG s) (hC : zNcP s) (hO : va_AO RX1 s) (hL : L ≤ 2560) (hXs : va_X b L xs s s.heap) (hbl : b < s.heap.size) (xi : Int) (hxi : 0 ≤ xi ∧ xi + 5 ≤ L) (cells slots : Nat) (hcl : cells + 1 ≤ 601024 ∧ slots + 6 ≤ 7293034) (ou : Nat) (o : Nat → Nat → Nat) (q : Nat → Nat) (n : Int) (A T S0 S1 S2 S3 S V : Int → Int) (xm : Int) (f : Int → Int) (xl : Int) (g : Int → Int) (xk xn xd xe xth xam xpl : Int) (gr gu : Int → Int) (hI9 : zInL n A S0 S1 S2 S3 S xm f xl) (hn9 : 0 ≤ n ∧ n ≤ 1200 * xi) (H : Heap) (locs : List Loc) (hP : va_P D vwCl (zest cs o A T S0 S1 S2 S3 xm f xl g xk xn xd xe ++ (zmod cs q A S V xm xth xam f xl xpl gr ++ [(ou, .inl (cs 2, 1, .inr (.inl (zAL gu))))])) H) (hD : va_D (fun z => s.heap.size ≤ z) (zest cs o A T S0 S1 S2 S3 xm f xl g xk xn xd xe ++ (zmod cs q A S V xm xth xam f xl xpl gr ++ [(ou, .inl (cs 2, 1, .inr (.inl (zAL gu))))]))) (hS : va_S (fun z => s.heap.size ≤ z) s.heap H locs) (ls : Array Slot) (hl : lv_has ls 9 [(4, .int (zI xi)), (3, .ref ou), (2, .ref (q 0)), (1, .ref (o 0 0)), (0, .ref b)]) (kk : ∀ (o : Nat → Nat → Nat) (q : Nat → Nat) (n : Int) (A T S0 S1 S2 S3 S V : Int → Int) (xm : Int) (f : Int → Int) (xl : Int) (g : Int → Int) (xk xn xd xe xth xam xpl : Int) (gr gu : Int → Int), zInL n A S0 S1 S2 S3 S xm f xl → (0 ≤ n ∧ n ≤ 1200 * (xi + 5)) → ∀ (H : Heap) (locs : List Loc), va_P D vwCl (zest cs o A T S0 S1 S2 S3 xm f xl g xk xn xd xe ++ (zmod cs q A S V xm xth xam f xl xpl gr ++ [(ou, .inl (cs 2, 1, .inr (.inl (zAL gu))))])) H → va_D (fun z => s.heap.size ≤ z) (zest cs o A T S0 S1 S2 S3 xm f xl g xk xn xd xe ++ (zmod cs q A S V xm xth xam f xl xpl gr ++ [(ou, .inl (cs 2, 1, .inr (.inl (zAL gu))))])) → va_S (fun z => s.heap.size ≤ z) s.heap H locs → ∀ ls : Array Slot, lv_has ls 9 [(4, .int (zI xi)), (3, .ref ou), (2, .ref (q 0)), (1, .ref (o 0 0)), (0, .ref b)] → W p l e room_1 s m #[Value.ref b] below meth c H locs (cells + 1) (slots + 6) Q (F0 m 1683 ls [])) : W p l e room_1 s m #[Value.ref b] below meth c H locs cells slots Q (F0 m 780 ls []) := by
  have hcl1 := hcl.1
  have hcl2 := hcl.2
  have hA : ∀ z : Nat, s.heap.size ≤ z → s.heap.size ≤ z := fun _ h => h
  have hbA : ¬ (s.heap.size ≤ b) := Nat.not_le.mpr hbl
  have hr1 := zX_r xs (xi + 1)
  by_cases hc9 : 0 ≤ (zX xs (xi + 1)) ∧ (zX xs (xi + 1)) ≤ 6
  · refine lv_aload_n hx hb dL_law_780 rfl (lv_at hl 3 rfl) ?_
    refine lv_aload_n hx hb dL_law_781 rfl (lv_at hl 4 rfl) ?_
    refine lv_iload hx hb dL_law_782 (lv_at hl 0 rfl) ?_
    refine zr_iconst hx hb dL_law_784 ?_
    refine zr_iadd hx hb dL_law_785 ?_
    refine zr_sls hx hb hXs hbl hbA hS hL (by omega) dL_law_786 ?_
    refine lv_aload_n hx hb dL_law_787 rfl (lv_at hl 1 rfl) ?_
    refine zc_xi (w := [((o 0) 0, .inr (5, [.ref ((o 1) 0), .ref ((o 2) 0), .ref ((o 3) 0), .ref ((o 8) 0)]))] ++ (zbat cs (o 1) A ++ [(ou, .inl (cs 2, 1, .inr (.inl (zAL gu))))])) (wr := zbat cs (o 2) T ++ ([(o 3 0, .inr (3, [.ref (o 3 1), .int (zI xm)])), (o 3 1, .inl (cs 3, 4, .inr (.inr (.inr (.inr (zR (o 4 0) (o 5 0) (o 6 0) (o 7 0)))))))] ++ (zbat cs (o 4) S0 ++ (zbat cs (o 5) S1 ++ (zbat cs (o 6) S2 ++ (zbat cs (o 7) S3 ++ (ztxt cs (o 8) f xl g xk xn xd xe ++ (zmod cs q A S V xm xth xam f xl xpl gr)))))))) (vx_runSX (As := [.ref (o 0 0), .int (zI (zX xs (xi + 1))), .ref ou]) (rest := []) ⟨hx, hb, hml, hown, hts⟩ (met_L_charge_ok l D cs o ou gu H.size A (zX xs (xi + 1)) (zX_r xs _) hc9) (vx_cwSW 3 hts gL_law_L_charge rfl rfl rfl (by decide +kernel) ⟨(Nat.le_of_ble_eq_true rfl), (Nat.le_of_ble_eq_true rfl)⟩) ⟨zPreZ.blind, fun U hU hW => zp_Z (hP.sub (ws' := [((o 0) 0, .inr (5, [.ref ((o 1) 0), .ref ((o 2) 0), .ref ((o 3) 0), .ref ((o 8) 0)]))] ++ (zbat cs (o 1) A ++ [(ou, .inl (cs 2, 1, .inr (.inl (zAL gu))))])) [0, 1, 2, 3, 4, 5, 6, 7, 54] rfl) hK (hD.sub (ws' := [((o 0) 0, .inr (5, [.ref ((o 1) 0), .ref ((o 2) 0), .ref ((o 3) 0), .ref ((o 8) 0)]))] ++ (zbat cs (o 1) A ++ [(ou, .inl (cs 2, 1, .inr (.inl (zAL gu))))])) [0, 1, 2, 3, 4, 5, 6, 7, 54] (by decide) rfl) hN hU hW⟩ rfl rfl hl.1 rfl (lv_room (Nat.le_of_ble_eq_true rfl)) dL_law_788 ⟨by show cells + 0 ≤ 601024; omega, by show slots + 0 ≤ 7293034; omega⟩) hS hP hD hA [0, 1, 2, 3, 4, 5, 6, 7, 54] [8, 9, 10, 11, 12, 13, 14, 15, 16, 17, 18, 19, 20, 21, 22, 23, 24, 25, 26, 27, 28, 29, 30, 31, 32, 33, 34, 35, 36, 37, 38, 39, 40, 41, 42, 43, 44, 45, 46, 47, 48, 49, 50, 51, 52, 53] rfl rfl (by decide) (by decide) (fun H locs hP hD hS => ?_)
    have hP : va_P D vwCl (zest cs o A T S0 S1 S2 S3 xm f xl g xk xn xd xe ++ (zmod cs q A S V xm xth xam f xl xpl gr ++ [(ou, .inl (cs 2, 1, .inr (.inl (zAL (zU gu 0 (A (34 + (zX xs (xi + 1)))))))))])) H := zP_perm hP zPe_B
    have hD : va_D (fun z => s.heap.size ≤ z) (zest cs o A T S0 S1 S2 S3 xm f xl g xk xn xd xe ++ (zmod cs q A S V xm xth xam f xl xpl gr ++ [(ou, .inl (cs 2, 1, .inr (.inl (zAL (zU gu 0 (A (34 + (zX xs (xi + 1)))))))))])) := zD_perm hD zPe_B
    refine lv_istore (lv' := [(5, .int (zI 0)), (4, .int (zI xi)), (3, .ref ou), (2, .ref (q 0)), (1, .ref (o 0 0)), (0, .ref b)]) hx hb dL_law_791 hl (by decide) rfl (fun ls hl => ?_)
    refine lv_aload_n hx hb dL_law_793 rfl (lv_at hl 3 rfl) ?_
    refine lv_aload_n hx hb dL_law_794 rfl (lv_at hl 5 rfl) ?_
    refine lv_iload hx hb dL_law_795 (lv_at hl 1 rfl) ?_
    refine zr_iconst hx hb dL_law_797 ?_
    refine zr_iadd hx hb dL_law_798 ?_
    refine zr_sls hx hb hXs hbl hbA hS hL (by omega) dL_law_799 ?_
    refine zc_lj (w := zmod cs q A S V xm xth xam f xl xpl gr) (wr := zest cs o A T S0 S1 S2 S3 xm f xl g xk xn xd xe ++ [(ou, .inl (cs 2, 1, .inr (.inl (zAL (zU gu 0 (A (34 + (zX xs (xi + 1)))))))))]) (va_runV (As := [.int (zI (zX xs (xi + 1)))]) (rest := []) ⟨hx, hb, hml, hown, hts⟩ (met_X6_charge_ok l D cs q H.size A S V xm xth xam f xl xpl gr (zX xs (xi + 1)) (zX_r xs _) hc9) (cwV 1 hts gL_law_X6_charge rfl rfl rfl (by decide +kernel) ⟨(Nat.le_of_ble_eq_true rfl), (Nat.le_of_ble_eq_true rfl)⟩) ⟨zPreZ.blind, va_recv hK hP (ci := 6) (q0 := 48) rfl rfl, fun U hU hW => zp_Z (hP.sub (ws' := zmod cs q A S V xm xth xam f xl xpl gr) [48, 49, 50, 51, 52, 53] rfl) hK (hD.sub (ws' := zmod cs q A S V xm xth xam f xl xpl gr) [48, 49, 50, 51, 52, 53] (by decide) rfl) hN hU hW⟩ rfl rfl hl.1 rfl (lv_room (Nat.le_of_ble_eq_true rfl)) dL_law_800 ⟨by show cells + 0 + 0 ≤ 601024; omega, by show slots + 0 + 0 ≤ 7293034; omega⟩) hS hP hD hA [48, 49, 50, 51, 52, 53] [0, 1, 2, 3, 4, 5, 6, 7, 8, 9, 10, 11, 12, 13, 14, 15, 16, 17, 18, 19, 20, 21, 22, 23, 24, 25, 26, 27, 28, 29, 30, 31, 32, 33, 34, 35, 36, 37, 38, 39, 40, 41, 42, 43, 44, 45, 46, 47, 54] rfl rfl (by decide) (by decide) (fun H locs hP hD hS => ?_)
    have hP : va_P D vwCl (zest cs o A T S0 S1 S2 S3 xm f xl g xk xn xd xe ++ (zmod cs q A S V xm 0 xam f xl xpl gr ++ [(ou, .inl (cs 2, 1, .inr (.inl (zAL (zU gu 0 (A (34 + (zX xs (xi + 1)))))))))])) H := zP_perm hP zPe_m
    have hD : va_D (fun z => s.heap.size ≤ z) (zest cs o A T S0 S1 S2 S3 xm f xl g xk xn xd xe ++ (zmod cs q A S V xm 0 xam f xl xpl gr ++ [(ou, .inl (cs 2, 1, .inr (.inl (zAL (zU gu 0 (A (34 + (zX xs (xi + 1)))))))))])) := zD_perm hD zPe_m
    refine lv_lstore (lv' := [(6, .long (zL (A (34 + (zX xs (xi + 1)))))), (5, .int (zI 0)), (4, .int (zI xi)), (3, .ref ou), (2, .ref (q 0)), (1, .ref (o 0 0)), (0, .ref b)]) hx hb dL_law_803 hl (by decide) rfl (fun ls hl => ?_)
    refine lv_aload_n hx hb dL_law_805 rfl (lv_at hl 4 rfl) ?_
    refine zc_ri (va_runV (As := []) (rest := []) ⟨hx, hb, hml, hown, hts⟩ (met_X6_thrown l D cs q A S V xm 0 xam f xl xpl gr) (cwV 0 hts gL_law_X6_thrown rfl rfl rfl (by decide +kernel) ⟨(Nat.le_of_ble_eq_true rfl), (Nat.le_of_ble_eq_true rfl)⟩) ⟨zPre.blind, va_recv hK hP (ci := 6) (q0 := 48) rfl rfl, fun U hU hW => zp_R (hP.sub (ws' := zmod cs q A S V xm 0 xam f xl xpl gr) [48, 49, 50, 51, 52, 53] rfl) hK (hD.sub (ws' := zmod cs q A S V xm 0 xam f xl xpl gr) [48, 49, 50, 51, 52, 53] (by decide) rfl) hN hU hW⟩ rfl rfl hl.1 rfl (lv_room (Nat.le_of_ble_eq_true rfl)) dL_law_806 ⟨by show cells + 0 + 0 + 0 ≤ 601024; omega, by show slots + 0 + 0 + 0 ≤ 7293034; omega⟩) ?_
    refine lv_iload hx hb dL_law_809 (lv_at hl 1 rfl) ?_
    refine zr_iceq (tgt := 816) hx hb dL_law_811 (by decide) ?_
    refine lv_iload hx hb dL_law_816 (lv_at hl 1 rfl) ?_
    refine zr_if_ne (tgt := 832) hx hb dL_law_818 (by decide) (by decide) (fun h9 => absurd h9 (by decide)) (fun _ => ?_)
    refine lv_aload_n hx hb dL_law_821 rfl (lv_at hl 3 rfl) ?_
    refine zr_iconst hx hb dL_law_822 ?_
    refine zr_lald (D := D) (g := zU gu 0 (A (34 + (zX xs (xi + 1))))) hx hb hK hP 54 2 rfl rfl (by decide) (by decide) dL_law_823 ?_
    rw [show (zU gu 0 (A (34 + (zX xs (xi + 1))))) 0 = A (34 + (zX xs (xi + 1))) from rfl]
    refine lv_lload hx hb dL_law_824 (lv_at hl 0 rfl) ?_
    refine zr_lceq (tgt := 832) hx hb dL_law_826 dL_law_827 (by decide) ?_
    refine lv_goto (tgt := 1683) hx hb dL_law_832 (by decide) ?_
    refine W.widen (k := cells + 1) (n := slots + 6) (by show cells + 0 + 0 ≤ cells + 1; omega) (by show slots + 0 + 0 ≤ slots + 6; omega) ?_
    exact kk o q n A T S0 S1 S2 S3 S V xm f xl g xk xn xd xe 0 xam xpl gr (zU gu 0 (A (34 + (zX xs (xi + 1))))) (by exact hI9) (by omega) H locs hP hD hS ls (lv_sub hl [2, 3, 4, 5, 6] rfl)
  replace hc9 := hc9
  refine lv_aload_n hx hb dL_law_780 rfl (lv_at hl 3 rfl) ?_
  refine lv_aload_n hx hb dL_law_781 rfl (lv_at hl 4 rfl) ?_
  refine lv_iload hx hb dL_law_782 (lv_at hl 0 rfl) ?_
  refine zr_iconst hx hb dL_law_784 ?_
  refine zr_iadd hx hb dL_law_785 ?_
  refine zr_sls hx hb hXs hbl hbA hS hL (by omega) dL_law_786 ?_
  refine lv_aload_n hx hb dL_law_787 rfl (lv_at hl 1 rfl) ?_
  refine zc_xk (vx_runSX (As := [.ref (o 0 0), .int (zI (zX xs (xi + 1))), .ref ou]) (rest := []) ⟨hx, hb, hml, hown, hts⟩ (met_L_charge_x l hfl D cs o ou gu A (zX xs (xi + 1)) (zX_r xs _) hc9) (vx_cwSW 3 hts gL_law_L_charge rfl rfl rfl (by decide +kernel) ⟨(Nat.le_of_ble_eq_true rfl), (Nat.le_of_ble_eq_true rfl)⟩) ⟨zPreU.blind, fun U hU hW => zp_U (hP.sub (ws' := [((o 0) 0, .inr (5, [.ref ((o 1) 0), .ref ((o 2) 0), .ref ((o 3) 0), .ref ((o 8) 0)]))] ++ (zbat cs (o 1) A ++ [(ou, .inl (cs 2, 1, .inr (.inl (zAL gu))))])) [0, 1, 2, 3, 4, 5, 6, 7, 54] rfl) hK (hD.sub (ws' := [((o 0) 0, .inr (5, [.ref ((o 1) 0), .ref ((o 2) 0), .ref ((o 3) 0), .ref ((o 8) 0)]))] ++ (zbat cs (o 1) A ++ [(ou, .inl (cs 2, 1, .inr (.inl (zAL gu))))])) [0, 1, 2, 3, 4, 5, 6, 7, 54] (by decide) rfl) hN (hG.at hS) hC hU hW⟩ rfl rfl hl.1 rfl (lv_room (Nat.le_of_ble_eq_true rfl)) dL_law_788 ⟨by show cells + 1 ≤ 601024; omega, by show slots + 6 ≤ 7293034; omega⟩) hS hP (fun H locs hP hS => ?_)
  refine lv_istore (lv' := [(5, .int (zI 1)), (4, .int (zI xi)), (3, .ref ou), (2, .ref (q 0)), (1, .ref (o 0 0)), (0, .ref b)]) hx hb dL_law_791 hl (by decide) rfl (fun ls hl => ?_)
  refine lv_aload_n hx hb dL_law_793 rfl (lv_at hl 3 rfl) ?_
  refine lv_aload_n hx hb dL_law_794 rfl (lv_at hl 5 rfl) ?_
  refine lv_iload hx hb dL_law_795 (lv_at hl 1 rfl) ?_
  refine zr_iconst hx hb dL_law_797 ?_
  refine zr_iadd hx hb dL_law_798 ?_
  refine zr_sls hx hb hXs hbl hbA hS hL (by omega) dL_law_799 ?_
  refine zc_lj (w := zmod cs q A S V xm xth xam f xl xpl gr) (wr := zest cs o A T S0 S1 S2 S3 xm f xl g xk xn xd xe ++ [(ou, .inl (cs 2, 1, .inr (.inl (zAL gu))))]) (va_runV (As := [.int (zI (zX xs (xi + 1)))]) (rest := []) ⟨hx, hb, hml, hown, hts⟩ (met_X6_charge_no1 l D cs q H.size A S V xm xth xam f xl xpl gr (zX xs (xi + 1)) (zX_r xs _) hc9) (cwV 1 hts gL_law_X6_charge rfl rfl rfl (by decide +kernel) ⟨(Nat.le_of_ble_eq_true rfl), (Nat.le_of_ble_eq_true rfl)⟩) ⟨zPreZ.blind, va_recv hK hP (ci := 6) (q0 := 48) rfl rfl, fun U hU hW => zp_Z (hP.sub (ws' := zmod cs q A S V xm xth xam f xl xpl gr) [48, 49, 50, 51, 52, 53] rfl) hK (hD.sub (ws' := zmod cs q A S V xm xth xam f xl xpl gr) [48, 49, 50, 51, 52, 53] (by decide) rfl) hN hU hW⟩ rfl rfl hl.1 rfl (lv_room (Nat.le_of_ble_eq_true rfl)) dL_law_800 ⟨by show cells + 1 + 0 ≤ 601024; omega, by show slots + 6 + 0 ≤ 7293034; omega⟩) hS hP hD hA [48, 49, 50, 51, 52, 53] [0, 1, 2, 3, 4, 5, 6, 7, 8, 9, 10, 11, 12, 13, 14, 15, 16, 17, 18, 19, 20, 21, 22, 23, 24, 25, 26, 27, 28, 29, 30, 31, 32, 33, 34, 35, 36, 37, 38, 39, 40, 41, 42, 43, 44, 45, 46, 47, 54] rfl rfl (by decide) (by decide) (fun H locs hP hD hS => ?_)
  have hP : va_P D vwCl (zest cs o A T S0 S1 S2 S3 xm f xl g xk xn xd xe ++ (zmod cs q A S V xm 1 xam f xl xpl gr ++ [(ou, .inl (cs 2, 1, .inr (.inl (zAL gu))))])) H := zP_perm hP zPe_m
  have hD : va_D (fun z => s.heap.size ≤ z) (zest cs o A T S0 S1 S2 S3 xm f xl g xk xn xd xe ++ (zmod cs q A S V xm 1 xam f xl xpl gr ++ [(ou, .inl (cs 2, 1, .inr (.inl (zAL gu))))])) := zD_perm hD zPe_m
  refine lv_lstore (lv' := [(6, .long (zL 0)), (5, .int (zI 1)), (4, .int (zI xi)), (3, .ref ou), (2, .ref (q 0)), (1, .ref (o 0 0)), (0, .ref b)]) hx hb dL_law_803 hl (by decide) rfl (fun ls hl => ?_)
  refine lv_aload_n hx hb dL_law_805 rfl (lv_at hl 4 rfl) ?_
  refine zc_ri (va_runV (As := []) (rest := []) ⟨hx, hb, hml, hown, hts⟩ (met_X6_thrown l D cs q A S V xm 1 xam f xl xpl gr) (cwV 0 hts gL_law_X6_thrown rfl rfl rfl (by decide +kernel) ⟨(Nat.le_of_ble_eq_true rfl), (Nat.le_of_ble_eq_true rfl)⟩) ⟨zPre.blind, va_recv hK hP (ci := 6) (q0 := 48) rfl rfl, fun U hU hW => zp_R (hP.sub (ws' := zmod cs q A S V xm 1 xam f xl xpl gr) [48, 49, 50, 51, 52, 53] rfl) hK (hD.sub (ws' := zmod cs q A S V xm 1 xam f xl xpl gr) [48, 49, 50, 51, 52, 53] (by decide) rfl) hN hU hW⟩ rfl rfl hl.1 rfl (lv_room (Nat.le_of_ble_eq_true rfl)) dL_law_806 ⟨by show cells + 1 + 0 + 0 ≤ 601024; omega, by show slots + 6 + 0 + 0 ≤ 7293034; omega⟩) ?_
  refine lv_iload hx hb dL_law_809 (lv_at hl 1 rfl) ?_
  refine zr_iceq (tgt := 816) hx hb dL_law_811 (by decide) ?_
  refine lv_iload hx hb dL_law_816 (lv_at hl 1 rfl) ?_
  refine zr_if_ne (tgt := 832) hx hb dL_law_818 (by decide) (by decide) (fun _ => ?_) (fun h9 => absurd h9 (by decide))
  refine lv_goto (tgt := 1683) hx hb dL_law_832 (by decide) ?_
  refine W.widen (k := cells + 1) (n := slots + 6) (by show cells + 1 + 0 ≤ cells + 1; omega) (by show slots + 6 + 0 ≤ slots + 6; omega) ?_
  exact kk o q n A T S0 S1 S2 S3 S V xm f xl g xk xn xd xe 1 xam xpl gr gu (by exact hI9) (by omega) H locs hP hD hS ls (lv_sub hl [2, 3, 4, 5, 6] rfl)
/-! the law: soc -/
set_option maxHeartbeats 8000000 in
set_option maxRecDepth 100000 in
theorem law_soc {p : Program} {e : Env} {s : State} {m : MethodId} {below : List Frame} {meth : Method} {c : Code} {b L : Nat} {xs : Nat → Int32} {Q : State → Prop} (l : Launch) (hfl : l.stackTraces = false) (D : va_G) (cs : Nat → ClassId) (hx : p.tables.exec = Jvm.exec) (hb : c.code = cL_law) (hml : c.maxLocals = 9) (hown : s.vm.findClass RL = some m.cls) (hts : ∀ w ∈ wsL_law, w.before #[Value.ref b] s = true) (hK : va_K D vwCl (zTy cs) s) (hN : zNW s) (hG : zXG s) (hC : zNcP s) (hO : va_AO RX1 s) (hL : L ≤ 2560) (hXs : va_X b L xs s s.heap) (hbl : b < s.heap.size) (xi : Int) (hxi : 0 ≤ xi ∧ xi + 5 ≤ L) (cells slots : Nat) (hcl : cells + 1 ≤ 601024 ∧ slots + 6 ≤ 7293034) (ou : Nat) (o : Nat → Nat → Nat) (q : Nat → Nat) (n : Int) (A T S0 S1 S2 S3 S V : Int → Int) (xm : Int) (f : Int → Int) (xl : Int) (g : Int → Int) (xk xn xd xe xth xam xpl : Int) (gr gu : Int → Int) (hI9 : zInL n A S0 S1 S2 S3 S xm f xl) (hn9 : 0 ≤ n ∧ n ≤ 1200 * xi) (H : Heap) (locs : List Loc) (hP : va_P D vwCl (zest cs o A T S0 S1 S2 S3 xm f xl g xk xn xd xe ++ (zmod cs q A S V xm xth xam f xl xpl gr ++ [(ou, .inl (cs 2, 1, .inr (.inl (zAL gu))))])) H) (hD : va_D (fun z => s.heap.size ≤ z) (zest cs o A T S0 S1 S2 S3 xm f xl g xk xn xd xe ++ (zmod cs q A S V xm xth xam f xl xpl gr ++ [(ou, .inl (cs 2, 1, .inr (.inl (zAL gu))))]))) (hS : va_S (fun z => s.heap.size ≤ z) s.heap H locs) (ls : Array Slot) (hl : lv_has ls 9 [(4, .int (zI xi)), (3, .ref ou), (2, .ref (q 0)), (1, .ref (o 0 0)), (0, .ref b)]) (kk : ∀ (o : Nat → Nat → Nat) (q : Nat → Nat) (n : Int) (A T S0 S1 S2 S3 S V : Int → Int) (xm : Int) (f : Int → Int) (xl : Int) (g : Int → Int) (xk xn xd xe xth xam xpl : Int) (gr gu : Int → Int), zInL n A S0 S1 S2 S3 S xm f xl → (0 ≤ n ∧ n ≤ 1200 * (xi + 5)) → ∀ (H : Heap) (locs : List Loc), va_P D vwCl (zest cs o A T S0 S1 S2 S3 xm f xl g xk xn xd xe ++ (zmod cs q A S V xm xth xam f xl xpl gr ++ [(ou, .inl (cs 2, 1, .inr (.inl (zAL gu))))])) H → va_D (fun z => s.heap.size ≤ z) (zest cs o A T S0 S1 S2 S3 xm f xl g xk xn xd xe ++ (zmod cs q A S V xm xth xam f xl xpl gr ++ [(ou, .inl (cs 2, 1, .inr (.inl (zAL gu))))])) → va_S (fun z => s.heap.size ≤ z) s.heap H locs → ∀ ls : Array Slot, lv_has ls 9 [(4, .int (zI xi)), (3, .ref ou), (2, .ref (q 0)), (1, .ref (o 0 0)), (0, .ref b)] → W p l e room_1 s m #[Value.ref b] below meth c H locs (cells + 1) (slots + 6) Q (F0 m 1683 ls [])) : W p l e room_1 s m #[Value.ref b] below meth c H locs cells slots Q (F0 m 835 ls []) := by
  have hcl1 := hcl.1
  have hcl2 := hcl.2
  have hA : ∀ z : Nat, s.heap.size ≤ z → s.heap.size ≤ z := fun _ h => h
  have hbA : ¬ (s.heap.size ≤ b) := Nat.not_le.mpr hbl
  have hr1 := zX_r xs (xi + 1)
  by_cases hc9 : 0 ≤ (zX xs (xi + 1)) ∧ (zX xs (xi + 1)) ≤ 2
  · refine lv_aload_n hx hb dL_law_835 rfl (lv_at hl 3 rfl) ?_
    refine lv_aload_n hx hb dL_law_836 rfl (lv_at hl 4 rfl) ?_
    refine lv_iload hx hb dL_law_837 (lv_at hl 0 rfl) ?_
    refine zr_iconst hx hb dL_law_839 ?_
    refine zr_iadd hx hb dL_law_840 ?_
    refine zr_sls hx hb hXs hbl hbA hS hL (by omega) dL_law_841 ?_
    refine lv_aload_n hx hb dL_law_842 rfl (lv_at hl 1 rfl) ?_
    refine zc_xi (w := [((o 0) 0, .inr (5, [.ref ((o 1) 0), .ref ((o 2) 0), .ref ((o 3) 0), .ref ((o 8) 0)]))] ++ (zbat cs (o 1) A ++ [(ou, .inl (cs 2, 1, .inr (.inl (zAL gu))))])) (wr := zbat cs (o 2) T ++ ([(o 3 0, .inr (3, [.ref (o 3 1), .int (zI xm)])), (o 3 1, .inl (cs 3, 4, .inr (.inr (.inr (.inr (zR (o 4 0) (o 5 0) (o 6 0) (o 7 0)))))))] ++ (zbat cs (o 4) S0 ++ (zbat cs (o 5) S1 ++ (zbat cs (o 6) S2 ++ (zbat cs (o 7) S3 ++ (ztxt cs (o 8) f xl g xk xn xd xe ++ (zmod cs q A S V xm xth xam f xl xpl gr)))))))) (vx_runSX (As := [.ref (o 0 0), .int (zI (zX xs (xi + 1))), .ref ou]) (rest := []) ⟨hx, hb, hml, hown, hts⟩ (met_L_soc_ok l D cs o ou gu H.size A n (zX xs (xi + 1)) (by exact hI9.1) (by omega) (zX_r xs _) hc9) (vx_cwSW 3 hts gL_law_L_soc rfl rfl rfl (by decide +kernel) ⟨(Nat.le_of_ble_eq_true rfl), (Nat.le_of_ble_eq_true rfl)⟩) ⟨zPreZ.blind, fun U hU hW => zp_Z (hP.sub (ws' := [((o 0) 0, .inr (5, [.ref ((o 1) 0), .ref ((o 2) 0), .ref ((o 3) 0), .ref ((o 8) 0)]))] ++ (zbat cs (o 1) A ++ [(ou, .inl (cs 2, 1, .inr (.inl (zAL gu))))])) [0, 1, 2, 3, 4, 5, 6, 7, 54] rfl) hK (hD.sub (ws' := [((o 0) 0, .inr (5, [.ref ((o 1) 0), .ref ((o 2) 0), .ref ((o 3) 0), .ref ((o 8) 0)]))] ++ (zbat cs (o 1) A ++ [(ou, .inl (cs 2, 1, .inr (.inl (zAL gu))))])) [0, 1, 2, 3, 4, 5, 6, 7, 54] (by decide) rfl) hN hU hW⟩ rfl rfl hl.1 rfl (lv_room (Nat.le_of_ble_eq_true rfl)) dL_law_843 ⟨by show cells + 0 ≤ 601024; omega, by show slots + 0 ≤ 7293034; omega⟩) hS hP hD hA [0, 1, 2, 3, 4, 5, 6, 7, 54] [8, 9, 10, 11, 12, 13, 14, 15, 16, 17, 18, 19, 20, 21, 22, 23, 24, 25, 26, 27, 28, 29, 30, 31, 32, 33, 34, 35, 36, 37, 38, 39, 40, 41, 42, 43, 44, 45, 46, 47, 48, 49, 50, 51, 52, 53] rfl rfl (by decide) (by decide) (fun H locs hP hD hS => ?_)
    have hP : va_P D vwCl (zest cs o A T S0 S1 S2 S3 xm f xl g xk xn xd xe ++ (zmod cs q A S V xm xth xam f xl xpl gr ++ [(ou, .inl (cs 2, 1, .inr (.inl (zAL (zU gu 0 (zW (A (34 + (zX xs (xi + 1))) * 10000 / A 37)))))))])) H := zP_perm hP zPe_B
    have hD : va_D (fun z => s.heap.size ≤ z) (zest cs o A T S0 S1 S2 S3 xm f xl g xk xn xd xe ++ (zmod cs q A S V xm xth xam f xl xpl gr ++ [(ou, .inl (cs 2, 1, .inr (.inl (zAL (zU gu 0 (zW (A (34 + (zX xs (xi + 1))) * 10000 / A 37)))))))])) := zD_perm hD zPe_B
    refine lv_istore (lv' := [(5, .int (zI 0)), (4, .int (zI xi)), (3, .ref ou), (2, .ref (q 0)), (1, .ref (o 0 0)), (0, .ref b)]) hx hb dL_law_846 hl (by decide) rfl (fun ls hl => ?_)
    refine lv_aload_n hx hb dL_law_848 rfl (lv_at hl 3 rfl) ?_
    refine lv_aload_n hx hb dL_law_849 rfl (lv_at hl 5 rfl) ?_
    refine lv_iload hx hb dL_law_850 (lv_at hl 1 rfl) ?_
    refine zr_iconst hx hb dL_law_852 ?_
    refine zr_iadd hx hb dL_law_853 ?_
    refine zr_sls hx hb hXs hbl hbA hS hL (by omega) dL_law_854 ?_
    refine zc_ij (w := zmod cs q A S V xm xth xam f xl xpl gr) (wr := zest cs o A T S0 S1 S2 S3 xm f xl g xk xn xd xe ++ [(ou, .inl (cs 2, 1, .inr (.inl (zAL (zU gu 0 (zW (A (34 + (zX xs (xi + 1))) * 10000 / A 37)))))))]) (va_runV (As := [.int (zI (zX xs (xi + 1)))]) (rest := []) ⟨hx, hb, hml, hown, hts⟩ (met_X6_soc_ok l D cs q H.size A S V xm xth xam f xl xpl gr n (zX xs (xi + 1)) (by exact hI9.1) (by omega) (zX_r xs _) hc9) (cwV 1 hts gL_law_X6_soc rfl rfl rfl (by decide +kernel) ⟨(Nat.le_of_ble_eq_true rfl), (Nat.le_of_ble_eq_true rfl)⟩) ⟨zPreZ.blind, va_recv hK hP (ci := 6) (q0 := 48) rfl rfl, fun U hU hW => zp_Z (hP.sub (ws' := zmod cs q A S V xm xth xam f xl xpl gr) [48, 49, 50, 51, 52, 53] rfl) hK (hD.sub (ws' := zmod cs q A S V xm xth xam f xl xpl gr) [48, 49, 50, 51, 52, 53] (by decide) rfl) hN hU hW⟩ rfl rfl hl.1 rfl (lv_room (Nat.le_of_ble_eq_true rfl)) dL_law_855 ⟨by show cells + 0 + 0 ≤ 601024; omega, by show slots + 0 + 0 ≤ 7293034; omega⟩) hS hP hD hA [48, 49, 50, 51, 52, 53] [0, 1, 2, 3, 4, 5, 6, 7, 8, 9, 10, 11, 12, 13, 14, 15, 16, 17, 18, 19, 20, 21, 22, 23, 24, 25, 26, 27, 28, 29, 30, 31, 32, 33, 34, 35, 36, 37, 38, 39, 40, 41, 42, 43, 44, 45, 46, 47, 54] rfl rfl (by decide) (by decide) (fun H locs hP hD hS => ?_)
    have hP : va_P D vwCl (zest cs o A T S0 S1 S2 S3 xm f xl g xk xn xd xe ++ (zmod cs q A S V xm 0 xam f xl xpl gr ++ [(ou, .inl (cs 2, 1, .inr (.inl (zAL (zU gu 0 (zW (A (34 + (zX xs (xi + 1))) * 10000 / A 37)))))))])) H := zP_perm hP zPe_m
    have hD : va_D (fun z => s.heap.size ≤ z) (zest cs o A T S0 S1 S2 S3 xm f xl g xk xn xd xe ++ (zmod cs q A S V xm 0 xam f xl xpl gr ++ [(ou, .inl (cs 2, 1, .inr (.inl (zAL (zU gu 0 (zW (A (34 + (zX xs (xi + 1))) * 10000 / A 37)))))))])) := zD_perm hD zPe_m
    refine lv_istore (lv' := [(6, .int (zI (A (34 + (zX xs (xi + 1))) * 10000 / A 37))), (5, .int (zI 0)), (4, .int (zI xi)), (3, .ref ou), (2, .ref (q 0)), (1, .ref (o 0 0)), (0, .ref b)]) hx hb dL_law_858 hl (by decide) rfl (fun ls hl => ?_)
    refine lv_aload_n hx hb dL_law_860 rfl (lv_at hl 4 rfl) ?_
    refine zc_ri (va_runV (As := []) (rest := []) ⟨hx, hb, hml, hown, hts⟩ (met_X6_thrown l D cs q A S V xm 0 xam f xl xpl gr) (cwV 0 hts gL_law_X6_thrown rfl rfl rfl (by decide +kernel) ⟨(Nat.le_of_ble_eq_true rfl), (Nat.le_of_ble_eq_true rfl)⟩) ⟨zPre.blind, va_recv hK hP (ci := 6) (q0 := 48) rfl rfl, fun U hU hW => zp_R (hP.sub (ws' := zmod cs q A S V xm 0 xam f xl xpl gr) [48, 49, 50, 51, 52, 53] rfl) hK (hD.sub (ws' := zmod cs q A S V xm 0 xam f xl xpl gr) [48, 49, 50, 51, 52, 53] (by decide) rfl) hN hU hW⟩ rfl rfl hl.1 rfl (lv_room (Nat.le_of_ble_eq_true rfl)) dL_law_861 ⟨by show cells + 0 + 0 + 0 ≤ 601024; omega, by show slots + 0 + 0 + 0 ≤ 7293034; omega⟩) ?_
    refine lv_iload hx hb dL_law_864 (lv_at hl 1 rfl) ?_
    refine zr_iceq (tgt := 871) hx hb dL_law_866 (by decide) ?_
    refine lv_iload hx hb dL_law_871 (lv_at hl 1 rfl) ?_
    refine zr_if_ne (tgt := 888) hx hb dL_law_873 (by decide) (by decide) (fun h9 => absurd h9 (by decide)) (fun _ => ?_)
    refine lv_aload_n hx hb dL_law_876 rfl (lv_at hl 3 rfl) ?_
    refine zr_iconst hx hb dL_law_877 ?_
    refine zr_lald (D := D) (g := zU gu 0 (zW (A (34 + (zX xs (xi + 1))) * 10000 / A 37))) hx hb hK hP 54 2 rfl rfl (by decide) (by decide) dL_law_878 ?_
    rw [show (zU gu 0 (zW (A (34 + (zX xs (xi + 1))) * 10000 / A 37))) 0 = zW (A (34 + (zX xs (xi + 1))) * 10000 / A 37) from rfl]
    refine lv_iload hx hb dL_law_879 (lv_at hl 0 rfl) ?_
    refine lv_i2l hx hb dL_law_881 (zW_l (A (34 + (zX xs (xi + 1))) * 10000 / A 37)) ?_
    refine zr_lceq (tgt := 888) hx hb dL_law_882 dL_law_883 (by decide) ?_
    refine lv_goto (tgt := 1683) hx hb dL_law_888 (by decide) ?_
    refine W.widen (k := cells + 1) (n := slots + 6) (by show cells + 0 + 0 ≤ cells + 1; omega) (by show slots + 0 + 0 ≤ slots + 6; omega) ?_
    exact kk o q n A T S0 S1 S2 S3 S V xm f xl g xk xn xd xe 0 xam xpl gr (zU gu 0 (zW (A (34 + (zX xs (xi + 1))) * 10000 / A 37))) (by exact hI9) (by omega) H locs hP hD hS ls (lv_sub hl [2, 3, 4, 5, 6] rfl)
  replace hc9 := hc9
  refine lv_aload_n hx hb dL_law_835 rfl (lv_at hl 3 rfl) ?_
  refine lv_aload_n hx hb dL_law_836 rfl (lv_at hl 4 rfl) ?_
  refine lv_iload hx hb dL_law_837 (lv_at hl 0 rfl) ?_
  refine zr_iconst hx hb dL_law_839 ?_
  refine zr_iadd hx hb dL_law_840 ?_
  refine zr_sls hx hb hXs hbl hbA hS hL (by omega) dL_law_841 ?_
  refine lv_aload_n hx hb dL_law_842 rfl (lv_at hl 1 rfl) ?_
  refine zc_xk (vx_runSX (As := [.ref (o 0 0), .int (zI (zX xs (xi + 1))), .ref ou]) (rest := []) ⟨hx, hb, hml, hown, hts⟩ (met_L_soc_x l hfl D cs o ou gu A (zX xs (xi + 1)) (zX_r xs _) hc9) (vx_cwSW 3 hts gL_law_L_soc rfl rfl rfl (by decide +kernel) ⟨(Nat.le_of_ble_eq_true rfl), (Nat.le_of_ble_eq_true rfl)⟩) ⟨zPreU.blind, fun U hU hW => zp_U (hP.sub (ws' := [((o 0) 0, .inr (5, [.ref ((o 1) 0), .ref ((o 2) 0), .ref ((o 3) 0), .ref ((o 8) 0)]))] ++ (zbat cs (o 1) A ++ [(ou, .inl (cs 2, 1, .inr (.inl (zAL gu))))])) [0, 1, 2, 3, 4, 5, 6, 7, 54] rfl) hK (hD.sub (ws' := [((o 0) 0, .inr (5, [.ref ((o 1) 0), .ref ((o 2) 0), .ref ((o 3) 0), .ref ((o 8) 0)]))] ++ (zbat cs (o 1) A ++ [(ou, .inl (cs 2, 1, .inr (.inl (zAL gu))))])) [0, 1, 2, 3, 4, 5, 6, 7, 54] (by decide) rfl) hN (hG.at hS) hC hU hW⟩ rfl rfl hl.1 rfl (lv_room (Nat.le_of_ble_eq_true rfl)) dL_law_843 ⟨by show cells + 1 ≤ 601024; omega, by show slots + 6 ≤ 7293034; omega⟩) hS hP (fun H locs hP hS => ?_)
  refine lv_istore (lv' := [(5, .int (zI 1)), (4, .int (zI xi)), (3, .ref ou), (2, .ref (q 0)), (1, .ref (o 0 0)), (0, .ref b)]) hx hb dL_law_846 hl (by decide) rfl (fun ls hl => ?_)
  refine lv_aload_n hx hb dL_law_848 rfl (lv_at hl 3 rfl) ?_
  refine lv_aload_n hx hb dL_law_849 rfl (lv_at hl 5 rfl) ?_
  refine lv_iload hx hb dL_law_850 (lv_at hl 1 rfl) ?_
  refine zr_iconst hx hb dL_law_852 ?_
  refine zr_iadd hx hb dL_law_853 ?_
  refine zr_sls hx hb hXs hbl hbA hS hL (by omega) dL_law_854 ?_
  refine zc_ij (w := zmod cs q A S V xm xth xam f xl xpl gr) (wr := zest cs o A T S0 S1 S2 S3 xm f xl g xk xn xd xe ++ [(ou, .inl (cs 2, 1, .inr (.inl (zAL gu))))]) (va_runV (As := [.int (zI (zX xs (xi + 1)))]) (rest := []) ⟨hx, hb, hml, hown, hts⟩ (met_X6_soc_no1 l D cs q H.size A S V xm xth xam f xl xpl gr (zX xs (xi + 1)) (zX_r xs _) hc9) (cwV 1 hts gL_law_X6_soc rfl rfl rfl (by decide +kernel) ⟨(Nat.le_of_ble_eq_true rfl), (Nat.le_of_ble_eq_true rfl)⟩) ⟨zPreZ.blind, va_recv hK hP (ci := 6) (q0 := 48) rfl rfl, fun U hU hW => zp_Z (hP.sub (ws' := zmod cs q A S V xm xth xam f xl xpl gr) [48, 49, 50, 51, 52, 53] rfl) hK (hD.sub (ws' := zmod cs q A S V xm xth xam f xl xpl gr) [48, 49, 50, 51, 52, 53] (by decide) rfl) hN hU hW⟩ rfl rfl hl.1 rfl (lv_room (Nat.le_of_ble_eq_true rfl)) dL_law_855 ⟨by show cells + 1 + 0 ≤ 601024; omega, by show slots + 6 + 0 ≤ 7293034; omega⟩) hS hP hD hA [48, 49, 50, 51, 52, 53] [0, 1, 2, 3, 4, 5, 6, 7, 8, 9, 10, 11, 12, 13, 14, 15, 16, 17, 18, 19, 20, 21, 22, 23, 24, 25, 26, 27, 28, 29, 30, 31, 32, 33, 34, 35, 36, 37, 38, 39, 40, 41, 42, 43, 44, 45, 46, 47, 54] rfl rfl (by decide) (by decide) (fun H locs hP hD hS => ?_)
  have hP : va_P D vwCl (zest cs o A T S0 S1 S2 S3 xm f xl g xk xn xd xe ++ (zmod cs q A S V xm 1 xam f xl xpl gr ++ [(ou, .inl (cs 2, 1, .inr (.inl (zAL gu))))])) H := zP_perm hP zPe_m
  have hD : va_D (fun z => s.heap.size ≤ z) (zest cs o A T S0 S1 S2 S3 xm f xl g xk xn xd xe ++ (zmod cs q A S V xm 1 xam f xl xpl gr ++ [(ou, .inl (cs 2, 1, .inr (.inl (zAL gu))))])) := zD_perm hD zPe_m
  refine lv_istore (lv' := [(6, .int (zI 0)), (5, .int (zI 1)), (4, .int (zI xi)), (3, .ref ou), (2, .ref (q 0)), (1, .ref (o 0 0)), (0, .ref b)]) hx hb dL_law_858 hl (by decide) rfl (fun ls hl => ?_)
  refine lv_aload_n hx hb dL_law_860 rfl (lv_at hl 4 rfl) ?_
  refine zc_ri (va_runV (As := []) (rest := []) ⟨hx, hb, hml, hown, hts⟩ (met_X6_thrown l D cs q A S V xm 1 xam f xl xpl gr) (cwV 0 hts gL_law_X6_thrown rfl rfl rfl (by decide +kernel) ⟨(Nat.le_of_ble_eq_true rfl), (Nat.le_of_ble_eq_true rfl)⟩) ⟨zPre.blind, va_recv hK hP (ci := 6) (q0 := 48) rfl rfl, fun U hU hW => zp_R (hP.sub (ws' := zmod cs q A S V xm 1 xam f xl xpl gr) [48, 49, 50, 51, 52, 53] rfl) hK (hD.sub (ws' := zmod cs q A S V xm 1 xam f xl xpl gr) [48, 49, 50, 51, 52, 53] (by decide) rfl) hN hU hW⟩ rfl rfl hl.1 rfl (lv_room (Nat.le_of_ble_eq_true rfl)) dL_law_861 ⟨by show cells + 1 + 0 + 0 ≤ 601024; omega, by show slots + 6 + 0 + 0 ≤ 7293034; omega⟩) ?_
  refine lv_iload hx hb dL_law_864 (lv_at hl 1 rfl) ?_
  refine zr_iceq (tgt := 871) hx hb dL_law_866 (by decide) ?_
  refine lv_iload hx hb dL_law_871 (lv_at hl 1 rfl) ?_
  refine zr_if_ne (tgt := 888) hx hb dL_law_873 (by decide) (by decide) (fun _ => ?_) (fun h9 => absurd h9 (by decide))
  refine lv_goto (tgt := 1683) hx hb dL_law_888 (by decide) ?_
  refine W.widen (k := cells + 1) (n := slots + 6) (by show cells + 1 + 0 ≤ cells + 1; omega) (by show slots + 6 + 0 ≤ slots + 6; omega) ?_
  exact kk o q n A T S0 S1 S2 S3 S V xm f xl g xk xn xd xe 1 xam xpl gr gu (by exact hI9) (by omega) H locs hP hD hS ls (lv_sub hl [2, 3, 4, 5, 6] rfl)
/-! the law: status -/
set_option maxHeartbeats 8000000 in
set_option maxRecDepth 100000 in
theorem law_status {p : Program} {e : Env} {s : State} {m : MethodId} {below : List Frame} {meth : Method} {c : Code} {b L : Nat} {xs : Nat → Int32} {Q : State → Prop} (l : Launch) (hfl : l.stackTraces = false) (D : va_G) (cs : Nat → ClassId) (hx : p.tables.exec = Jvm.exec) (hb : c.code = cL_law) (hml : c.maxLocals = 9) (hown : s.vm.findClass RL = some m.cls) (hts : ∀ w ∈ wsL_law, w.before #[Value.ref b] s = true) (hK : va_K D vwCl (zTy cs) s) (hN : zNW s) (hG : zXG s) (hC : zNcP s) (hO : va_AO RX1 s) (hL : L ≤ 2560) (hXs : va_X b L xs s s.heap) (hbl : b < s.heap.size) (xi : Int) (hxi : 0 ≤ xi ∧ xi + 5 ≤ L) (cells slots : Nat) (hcl : cells + 1 ≤ 601024 ∧ slots + 6 ≤ 7293034) (ou : Nat) (o : Nat → Nat → Nat) (q : Nat → Nat) (n : Int) (A T S0 S1 S2 S3 S V : Int → Int) (xm : Int) (f : Int → Int) (xl : Int) (g : Int → Int) (xk xn xd xe xth xam xpl : Int) (gr gu : Int → Int) (hI9 : zInL n A S0 S1 S2 S3 S xm f xl) (hn9 : 0 ≤ n ∧ n ≤ 1200 * xi) (H : Heap) (locs : List Loc) (hP : va_P D vwCl (zest cs o A T S0 S1 S2 S3 xm f xl g xk xn xd xe ++ (zmod cs q A S V xm xth xam f xl xpl gr ++ [(ou, .inl (cs 2, 1, .inr (.inl (zAL gu))))])) H) (hD : va_D (fun z => s.heap.size ≤ z) (zest cs o A T S0 S1 S2 S3 xm f xl g xk xn xd xe ++ (zmod cs q A S V xm xth xam f xl xpl gr ++ [(ou, .inl (cs 2, 1, .inr (.inl (zAL gu))))]))) (hS : va_S (fun z => s.heap.size ≤ z) s.heap H locs) (ls : Array Slot) (hl : lv_has ls 9 [(4, .int (zI xi)), (3, .ref ou), (2, .ref (q 0)), (1, .ref (o 0 0)), (0, .ref b)]) (kk : ∀ (o : Nat → Nat → Nat) (q : Nat → Nat) (n : Int) (A T S0 S1 S2 S3 S V : Int → Int) (xm : Int) (f : Int → Int) (xl : Int) (g : Int → Int) (xk xn xd xe xth xam xpl : Int) (gr gu : Int → Int), zInL n A S0 S1 S2 S3 S xm f xl → (0 ≤ n ∧ n ≤ 1200 * (xi + 5)) → ∀ (H : Heap) (locs : List Loc), va_P D vwCl (zest cs o A T S0 S1 S2 S3 xm f xl g xk xn xd xe ++ (zmod cs q A S V xm xth xam f xl xpl gr ++ [(ou, .inl (cs 2, 1, .inr (.inl (zAL gu))))])) H → va_D (fun z => s.heap.size ≤ z) (zest cs o A T S0 S1 S2 S3 xm f xl g xk xn xd xe ++ (zmod cs q A S V xm xth xam f xl xpl gr ++ [(ou, .inl (cs 2, 1, .inr (.inl (zAL gu))))])) → va_S (fun z => s.heap.size ≤ z) s.heap H locs → ∀ ls : Array Slot, lv_has ls 9 [(4, .int (zI xi)), (3, .ref ou), (2, .ref (q 0)), (1, .ref (o 0 0)), (0, .ref b)] → W p l e room_1 s m #[Value.ref b] below meth c H locs (cells + 1) (slots + 6) Q (F0 m 1683 ls [])) : W p l e room_1 s m #[Value.ref b] below meth c H locs cells slots Q (F0 m 891 ls []) := by
  have hcl1 := hcl.1
  have hcl2 := hcl.2
  have hA : ∀ z : Nat, s.heap.size ≤ z → s.heap.size ≤ z := fun _ h => h
  have hbA : ¬ (s.heap.size ≤ b) := Nat.not_le.mpr hbl
  have hr1 := zX_r xs (xi + 1)
  by_cases hc9 : 0 ≤ (zX xs (xi + 1)) ∧ (zX xs (xi + 1)) ≤ 5
  · refine lv_aload_n hx hb dL_law_891 rfl (lv_at hl 3 rfl) ?_
    refine lv_aload_n hx hb dL_law_892 rfl (lv_at hl 4 rfl) ?_
    refine lv_iload hx hb dL_law_893 (lv_at hl 0 rfl) ?_
    refine zr_iconst hx hb dL_law_895 ?_
    refine zr_iadd hx hb dL_law_896 ?_
    refine zr_sls hx hb hXs hbl hbA hS hL (by omega) dL_law_897 ?_
    refine lv_aload_n hx hb dL_law_898 rfl (lv_at hl 1 rfl) ?_
    refine zc_xi (w := [((o 0) 0, .inr (5, [.ref ((o 1) 0), .ref ((o 2) 0), .ref ((o 3) 0), .ref ((o 8) 0)]))] ++ (zbat cs (o 1) A ++ [(ou, .inl (cs 2, 1, .inr (.inl (zAL gu))))])) (wr := zbat cs (o 2) T ++ ([(o 3 0, .inr (3, [.ref (o 3 1), .int (zI xm)])), (o 3 1, .inl (cs 3, 4, .inr (.inr (.inr (.inr (zR (o 4 0) (o 5 0) (o 6 0) (o 7 0)))))))] ++ (zbat cs (o 4) S0 ++ (zbat cs (o 5) S1 ++ (zbat cs (o 6) S2 ++ (zbat cs (o 7) S3 ++ (ztxt cs (o 8) f xl g xk xn xd xe ++ (zmod cs q A S V xm xth xam f xl xpl gr)))))))) (vx_runSX (As := [.ref (o 0 0), .int (zI (zX xs (xi + 1))), .ref ou]) (rest := []) ⟨hx, hb, hml, hown, hts⟩ (met_L_status_ok l D cs o ou gu H.size A n (zX xs (xi + 1)) (by exact hI9.1) (by omega) (zX_r xs _) hc9) (vx_cwSW 3 hts gL_law_L_status rfl rfl rfl (by decide +kernel) ⟨(Nat.le_of_ble_eq_true rfl), (Nat.le_of_ble_eq_true rfl)⟩) ⟨zPreZ.blind, fun U hU hW => zp_Z (hP.sub (ws' := [((o 0) 0, .inr (5, [.ref ((o 1) 0), .ref ((o 2) 0), .ref ((o 3) 0), .ref ((o 8) 0)]))] ++ (zbat cs (o 1) A ++ [(ou, .inl (cs 2, 1, .inr (.inl (zAL gu))))])) [0, 1, 2, 3, 4, 5, 6, 7, 54] rfl) hK (hD.sub (ws' := [((o 0) 0, .inr (5, [.ref ((o 1) 0), .ref ((o 2) 0), .ref ((o 3) 0), .ref ((o 8) 0)]))] ++ (zbat cs (o 1) A ++ [(ou, .inl (cs 2, 1, .inr (.inl (zAL gu))))])) [0, 1, 2, 3, 4, 5, 6, 7, 54] (by decide) rfl) hN hU hW⟩ rfl rfl hl.1 rfl (lv_room (Nat.le_of_ble_eq_true rfl)) dL_law_899 ⟨by show cells + 0 ≤ 601024; omega, by show slots + 0 ≤ 7293034; omega⟩) hS hP hD hA [0, 1, 2, 3, 4, 5, 6, 7, 54] [8, 9, 10, 11, 12, 13, 14, 15, 16, 17, 18, 19, 20, 21, 22, 23, 24, 25, 26, 27, 28, 29, 30, 31, 32, 33, 34, 35, 36, 37, 38, 39, 40, 41, 42, 43, 44, 45, 46, 47, 48, 49, 50, 51, 52, 53] rfl rfl (by decide) (by decide) (fun H locs hP hD hS => ?_)
    have hP : va_P D vwCl (zest cs o A T S0 S1 S2 S3 xm f xl g xk xn xd xe ++ (zmod cs q A S V xm xth xam f xl xpl gr ++ [(ou, .inl (cs 2, 1, .inr (.inl (zAL (zU gu 0 (zW (zStt A (zX xs (xi + 1)))))))))])) H := zP_perm hP zPe_B
    have hD : va_D (fun z => s.heap.size ≤ z) (zest cs o A T S0 S1 S2 S3 xm f xl g xk xn xd xe ++ (zmod cs q A S V xm xth xam f xl xpl gr ++ [(ou, .inl (cs 2, 1, .inr (.inl (zAL (zU gu 0 (zW (zStt A (zX xs (xi + 1)))))))))])) := zD_perm hD zPe_B
    refine lv_istore (lv' := [(5, .int (zI 0)), (4, .int (zI xi)), (3, .ref ou), (2, .ref (q 0)), (1, .ref (o 0 0)), (0, .ref b)]) hx hb dL_law_902 hl (by decide) rfl (fun ls hl => ?_)
    refine lv_aload_n hx hb dL_law_904 rfl (lv_at hl 3 rfl) ?_
    refine lv_aload_n hx hb dL_law_905 rfl (lv_at hl 5 rfl) ?_
    refine lv_iload hx hb dL_law_906 (lv_at hl 1 rfl) ?_
    refine zr_iconst hx hb dL_law_908 ?_
    refine zr_iadd hx hb dL_law_909 ?_
    refine zr_sls hx hb hXs hbl hbA hS hL (by omega) dL_law_910 ?_
    refine zc_ij (w := zmod cs q A S V xm xth xam f xl xpl gr) (wr := zest cs o A T S0 S1 S2 S3 xm f xl g xk xn xd xe ++ [(ou, .inl (cs 2, 1, .inr (.inl (zAL (zU gu 0 (zW (zStt A (zX xs (xi + 1)))))))))]) (va_runV (As := [.int (zI (zX xs (xi + 1)))]) (rest := []) ⟨hx, hb, hml, hown, hts⟩ (met_X6_status_ok l D cs q H.size A S V xm xth xam f xl xpl gr n (zX xs (xi + 1)) (by exact hI9.1) (by omega) (zX_r xs _) hc9) (cwV 1 hts gL_law_X6_status rfl rfl rfl (by decide +kernel) ⟨(Nat.le_of_ble_eq_true rfl), (Nat.le_of_ble_eq_true rfl)⟩) ⟨zPreZ.blind, va_recv hK hP (ci := 6) (q0 := 48) rfl rfl, fun U hU hW => zp_Z (hP.sub (ws' := zmod cs q A S V xm xth xam f xl xpl gr) [48, 49, 50, 51, 52, 53] rfl) hK (hD.sub (ws' := zmod cs q A S V xm xth xam f xl xpl gr) [48, 49, 50, 51, 52, 53] (by decide) rfl) hN hU hW⟩ rfl rfl hl.1 rfl (lv_room (Nat.le_of_ble_eq_true rfl)) dL_law_911 ⟨by show cells + 0 + 0 ≤ 601024; omega, by show slots + 0 + 0 ≤ 7293034; omega⟩) hS hP hD hA [48, 49, 50, 51, 52, 53] [0, 1, 2, 3, 4, 5, 6, 7, 8, 9, 10, 11, 12, 13, 14, 15, 16, 17, 18, 19, 20, 21, 22, 23, 24, 25, 26, 27, 28, 29, 30, 31, 32, 33, 34, 35, 36, 37, 38, 39, 40, 41, 42, 43, 44, 45, 46, 47, 54] rfl rfl (by decide) (by decide) (fun H locs hP hD hS => ?_)
    have hP : va_P D vwCl (zest cs o A T S0 S1 S2 S3 xm f xl g xk xn xd xe ++ (zmod cs q A S V xm 0 xam f xl xpl gr ++ [(ou, .inl (cs 2, 1, .inr (.inl (zAL (zU gu 0 (zW (zStt A (zX xs (xi + 1)))))))))])) H := zP_perm hP zPe_m
    have hD : va_D (fun z => s.heap.size ≤ z) (zest cs o A T S0 S1 S2 S3 xm f xl g xk xn xd xe ++ (zmod cs q A S V xm 0 xam f xl xpl gr ++ [(ou, .inl (cs 2, 1, .inr (.inl (zAL (zU gu 0 (zW (zStt A (zX xs (xi + 1)))))))))])) := zD_perm hD zPe_m
    refine lv_istore (lv' := [(6, .int (zI (zStt A (zX xs (xi + 1))))), (5, .int (zI 0)), (4, .int (zI xi)), (3, .ref ou), (2, .ref (q 0)), (1, .ref (o 0 0)), (0, .ref b)]) hx hb dL_law_914 hl (by decide) rfl (fun ls hl => ?_)
    refine lv_aload_n hx hb dL_law_916 rfl (lv_at hl 4 rfl) ?_
    refine zc_ri (va_runV (As := []) (rest := []) ⟨hx, hb, hml, hown, hts⟩ (met_X6_thrown l D cs q A S V xm 0 xam f xl xpl gr) (cwV 0 hts gL_law_X6_thrown rfl rfl rfl (by decide +kernel) ⟨(Nat.le_of_ble_eq_true rfl), (Nat.le_of_ble_eq_true rfl)⟩) ⟨zPre.blind, va_recv hK hP (ci := 6) (q0 := 48) rfl rfl, fun U hU hW => zp_R (hP.sub (ws' := zmod cs q A S V xm 0 xam f xl xpl gr) [48, 49, 50, 51, 52, 53] rfl) hK (hD.sub (ws' := zmod cs q A S V xm 0 xam f xl xpl gr) [48, 49, 50, 51, 52, 53] (by decide) rfl) hN hU hW⟩ rfl rfl hl.1 rfl (lv_room (Nat.le_of_ble_eq_true rfl)) dL_law_917 ⟨by show cells + 0 + 0 + 0 ≤ 601024; omega, by show slots + 0 + 0 + 0 ≤ 7293034; omega⟩) ?_
    refine lv_iload hx hb dL_law_920 (lv_at hl 1 rfl) ?_
    refine zr_iceq (tgt := 927) hx hb dL_law_922 (by decide) ?_
    refine lv_iload hx hb dL_law_927 (lv_at hl 1 rfl) ?_
    refine zr_if_ne (tgt := 944) hx hb dL_law_929 (by decide) (by decide) (fun h9 => absurd h9 (by decide)) (fun _ => ?_)
    refine lv_aload_n hx hb dL_law_932 rfl (lv_at hl 3 rfl) ?_
    refine zr_iconst hx hb dL_law_933 ?_
    refine zr_lald (D := D) (g := zU gu 0 (zW (zStt A (zX xs (xi + 1))))) hx hb hK hP 54 2 rfl rfl (by decide) (by decide) dL_law_934 ?_
    rw [show (zU gu 0 (zW (zStt A (zX xs (xi + 1))))) 0 = zW (zStt A (zX xs (xi + 1))) from rfl]
    refine lv_iload hx hb dL_law_935 (lv_at hl 0 rfl) ?_
    refine lv_i2l hx hb dL_law_937 (zW_l (zStt A (zX xs (xi + 1)))) ?_
    refine zr_lceq (tgt := 944) hx hb dL_law_938 dL_law_939 (by decide) ?_
    refine lv_goto (tgt := 1683) hx hb dL_law_944 (by decide) ?_
    refine W.widen (k := cells + 1) (n := slots + 6) (by show cells + 0 + 0 ≤ cells + 1; omega) (by show slots + 0 + 0 ≤ slots + 6; omega) ?_
    exact kk o q n A T S0 S1 S2 S3 S V xm f xl g xk xn xd xe 0 xam xpl gr (zU gu 0 (zW (zStt A (zX xs (xi + 1))))) (by exact hI9) (by omega) H locs hP hD hS ls (lv_sub hl [2, 3, 4, 5, 6] rfl)
  replace hc9 := hc9
  refine lv_aload_n hx hb dL_law_891 rfl (lv_at hl 3 rfl) ?_
  refine lv_aload_n hx hb dL_law_892 rfl (lv_at hl 4 rfl) ?_
  refine lv_iload hx hb dL_law_893 (lv_at hl 0 rfl) ?_
  refine zr_iconst hx hb dL_law_895 ?_
  refine zr_iadd hx hb dL_law_896 ?_
  refine zr_sls hx hb hXs hbl hbA hS hL (by omega) dL_law_897 ?_
  refine lv_aload_n hx hb dL_law_898 rfl (lv_at hl 1 rfl) ?_
  refine zc_xk (vx_runSX (As := [.ref (o 0 0), .int (zI (zX xs (xi + 1))), .ref ou]) (rest := []) ⟨hx, hb, hml, hown, hts⟩ (met_L_status_x l hfl D cs o ou gu A (zX xs (xi + 1)) (zX_r xs _) hc9) (vx_cwSW 3 hts gL_law_L_status rfl rfl rfl (by decide +kernel) ⟨(Nat.le_of_ble_eq_true rfl), (Nat.le_of_ble_eq_true rfl)⟩) ⟨zPreU.blind, fun U hU hW => zp_U (hP.sub (ws' := [((o 0) 0, .inr (5, [.ref ((o 1) 0), .ref ((o 2) 0), .ref ((o 3) 0), .ref ((o 8) 0)]))] ++ (zbat cs (o 1) A ++ [(ou, .inl (cs 2, 1, .inr (.inl (zAL gu))))])) [0, 1, 2, 3, 4, 5, 6, 7, 54] rfl) hK (hD.sub (ws' := [((o 0) 0, .inr (5, [.ref ((o 1) 0), .ref ((o 2) 0), .ref ((o 3) 0), .ref ((o 8) 0)]))] ++ (zbat cs (o 1) A ++ [(ou, .inl (cs 2, 1, .inr (.inl (zAL gu))))])) [0, 1, 2, 3, 4, 5, 6, 7, 54] (by decide) rfl) hN (hG.at hS) hC hU hW⟩ rfl rfl hl.1 rfl (lv_room (Nat.le_of_ble_eq_true rfl)) dL_law_899 ⟨by show cells + 1 ≤ 601024; omega, by show slots + 6 ≤ 7293034; omega⟩) hS hP (fun H locs hP hS => ?_)
  refine lv_istore (lv' := [(5, .int (zI 1)), (4, .int (zI xi)), (3, .ref ou), (2, .ref (q 0)), (1, .ref (o 0 0)), (0, .ref b)]) hx hb dL_law_902 hl (by decide) rfl (fun ls hl => ?_)
  refine lv_aload_n hx hb dL_law_904 rfl (lv_at hl 3 rfl) ?_
  refine lv_aload_n hx hb dL_law_905 rfl (lv_at hl 5 rfl) ?_
  refine lv_iload hx hb dL_law_906 (lv_at hl 1 rfl) ?_
  refine zr_iconst hx hb dL_law_908 ?_
  refine zr_iadd hx hb dL_law_909 ?_
  refine zr_sls hx hb hXs hbl hbA hS hL (by omega) dL_law_910 ?_
  refine zc_ij (w := zmod cs q A S V xm xth xam f xl xpl gr) (wr := zest cs o A T S0 S1 S2 S3 xm f xl g xk xn xd xe ++ [(ou, .inl (cs 2, 1, .inr (.inl (zAL gu))))]) (va_runV (As := [.int (zI (zX xs (xi + 1)))]) (rest := []) ⟨hx, hb, hml, hown, hts⟩ (met_X6_status_no1 l D cs q H.size A S V xm xth xam f xl xpl gr (zX xs (xi + 1)) (zX_r xs _) hc9) (cwV 1 hts gL_law_X6_status rfl rfl rfl (by decide +kernel) ⟨(Nat.le_of_ble_eq_true rfl), (Nat.le_of_ble_eq_true rfl)⟩) ⟨zPreZ.blind, va_recv hK hP (ci := 6) (q0 := 48) rfl rfl, fun U hU hW => zp_Z (hP.sub (ws' := zmod cs q A S V xm xth xam f xl xpl gr) [48, 49, 50, 51, 52, 53] rfl) hK (hD.sub (ws' := zmod cs q A S V xm xth xam f xl xpl gr) [48, 49, 50, 51, 52, 53] (by decide) rfl) hN hU hW⟩ rfl rfl hl.1 rfl (lv_room (Nat.le_of_ble_eq_true rfl)) dL_law_911 ⟨by show cells + 1 + 0 ≤ 601024; omega, by show slots + 6 + 0 ≤ 7293034; omega⟩) hS hP hD hA [48, 49, 50, 51, 52, 53] [0, 1, 2, 3, 4, 5, 6, 7, 8, 9, 10, 11, 12, 13, 14, 15, 16, 17, 18, 19, 20, 21, 22, 23, 24, 25, 26, 27, 28, 29, 30, 31, 32, 33, 34, 35, 36, 37, 38, 39, 40, 41, 42, 43, 44, 45, 46, 47, 54] rfl rfl (by decide) (by decide) (fun H locs hP hD hS => ?_)
  have hP : va_P D vwCl (zest cs o A T S0 S1 S2 S3 xm f xl g xk xn xd xe ++ (zmod cs q A S V xm 1 xam f xl xpl gr ++ [(ou, .inl (cs 2, 1, .inr (.inl (zAL gu))))])) H := zP_perm hP zPe_m
  have hD : va_D (fun z => s.heap.size ≤ z) (zest cs o A T S0 S1 S2 S3 xm f xl g xk xn xd xe ++ (zmod cs q A S V xm 1 xam f xl xpl gr ++ [(ou, .inl (cs 2, 1, .inr (.inl (zAL gu))))])) := zD_perm hD zPe_m
  refine lv_istore (lv' := [(6, .int (zI 0)), (5, .int (zI 1)), (4, .int (zI xi)), (3, .ref ou), (2, .ref (q 0)), (1, .ref (o 0 0)), (0, .ref b)]) hx hb dL_law_914 hl (by decide) rfl (fun ls hl => ?_)
  refine lv_aload_n hx hb dL_law_916 rfl (lv_at hl 4 rfl) ?_
  refine zc_ri (va_runV (As := []) (rest := []) ⟨hx, hb, hml, hown, hts⟩ (met_X6_thrown l D cs q A S V xm 1 xam f xl xpl gr) (cwV 0 hts gL_law_X6_thrown rfl rfl rfl (by decide +kernel) ⟨(Nat.le_of_ble_eq_true rfl), (Nat.le_of_ble_eq_true rfl)⟩) ⟨zPre.blind, va_recv hK hP (ci := 6) (q0 := 48) rfl rfl, fun U hU hW => zp_R (hP.sub (ws' := zmod cs q A S V xm 1 xam f xl xpl gr) [48, 49, 50, 51, 52, 53] rfl) hK (hD.sub (ws' := zmod cs q A S V xm 1 xam f xl xpl gr) [48, 49, 50, 51, 52, 53] (by decide) rfl) hN hU hW⟩ rfl rfl hl.1 rfl (lv_room (Nat.le_of_ble_eq_true rfl)) dL_law_917 ⟨by show cells + 1 + 0 + 0 ≤ 601024; omega, by show slots + 6 + 0 + 0 ≤ 7293034; omega⟩) ?_
  refine lv_iload hx hb dL_law_920 (lv_at hl 1 rfl) ?_
  refine zr_iceq (tgt := 927) hx hb dL_law_922 (by decide) ?_
  refine lv_iload hx hb dL_law_927 (lv_at hl 1 rfl) ?_
  refine zr_if_ne (tgt := 944) hx hb dL_law_929 (by decide) (by decide) (fun _ => ?_) (fun h9 => absurd h9 (by decide))
  refine lv_goto (tgt := 1683) hx hb dL_law_944 (by decide) ?_
  refine W.widen (k := cells + 1) (n := slots + 6) (by show cells + 1 + 0 ≤ cells + 1; omega) (by show slots + 6 + 0 ≤ slots + 6; omega) ?_
  exact kk o q n A T S0 S1 S2 S3 S V xm f xl g xk xn xd xe 1 xam xpl gr gu (by exact hI9) (by omega) H locs hP hD hS ls (lv_sub hl [2, 3, 4, 5, 6] rfl)
