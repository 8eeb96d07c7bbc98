/-! the law: openVoltage -/
set_option maxHeartbeats 8000000 in
set_option maxRecDepth 100000 in
theorem law_openVoltage {p : Program} {e : Env} {s : State} {m : MethodId} {below : List Frame} {meth : Method} {c : Code} {b L : Nat} {xs : Nat → Int32} {Q : State → Prop} (l : Launch) (hfl : l.stackTraces = false) (D : va_G) (cs : Nat → ClassId) (hx : p.tables.exec = Jvm.exec) (hb : c.code = cL_law) (hml : c.maxLocals = 9) (hown : s.vm.findClass RL = some m.cls) (hts : ∀ w ∈ wsL_law, w.before #[Value.ref b] s = true) (hK : va_K D vwCl (zTy cs) s) (hN : zNW s) (hG : zXG s) (hC : zNcP s) (hO : va_AO RX1 s) (hL : L ≤ 2560) (hXs : va_X b L xs s s.heap) (hbl : b < s.heap.size) (xi : Int) (hxi : 0 ≤ xi ∧ xi + 5 ≤ L) (cells slots : Nat) (hcl : cells + 1 ≤ 601024 ∧ slots + 6 ≤ 7293034) (ou : Nat) (o : Nat → Nat → Nat) (q : Nat → Nat) (n : Int) (A T S0 S1 S2 S3 S V : Int → Int) (xm : Int) (f : Int → Int) (xl : Int) (g : Int → Int) (xk xn xd xe xth xam xpl : Int) (gr gu : Int → Int) (hI9 : zInL n A S0 S1 S2 S3 S xm f xl) (hn9 : 0 ≤ n ∧ n ≤ 1200 * xi) (H : Heap) (locs : List Loc) (hP : va_P D vwCl (zest cs o A T S0 S1 S2 S3 xm f xl g xk xn xd xe ++ (zmod cs q A S V xm xth xam f xl xpl gr ++ [(ou, .inl (cs 2, 1, .inr (.inl (zAL gu))))])) H) (hD : va_D (fun z => s.heap.size ≤ z) (zest cs o A T S0 S1 S2 S3 xm f xl g xk xn xd xe ++ (zmod cs q A S V xm xth xam f xl xpl gr ++ [(ou, .inl (cs 2, 1, .inr (.inl (zAL gu))))]))) (hS : va_S (fun z => s.heap.size ≤ z) s.heap H locs) (ls : Array Slot) (hl : lv_has ls 9 [(4, .int (zI xi)), (3, .ref ou), (2, .ref (q 0)), (1, .ref (o 0 0)), (0, .ref b)]) (kk : ∀ (o : Nat → Nat → Nat) (q : Nat → Nat) (n : Int) (A T S0 S1 S2 S3 S V : Int → Int) (xm : Int) (f : Int → Int) (xl : Int) (g : Int → Int) (xk xn xd xe xth xam xpl : Int) (gr gu : Int → Int), zInL n A S0 S1 S2 S3 S xm f xl → (0 ≤ n ∧ n ≤ 1200 * (xi + 5)) → ∀ (H : Heap) (locs : List Loc), va_P D vwCl (zest cs o A T S0 S1 S2 S3 xm f xl g xk xn xd xe ++ (zmod cs q A S V xm xth xam f xl xpl gr ++ [(ou, .inl (cs 2, 1, .inr (.inl (zAL gu))))])) H → va_D (fun z => s.heap.size ≤ z) (zest cs o A T S0 S1 S2 S3 xm f xl g xk xn xd xe ++ (zmod cs q A S V xm xth xam f xl xpl gr ++ [(ou, .inl (cs 2, 1, .inr (.inl (zAL gu))))])) → va_S (fun z => s.heap.size ≤ z) s.heap H locs → ∀ ls : Array Slot, lv_has ls 9 [(4, .int (zI xi)), (3, .ref ou), (2, .ref (q 0)), (1, .ref (o 0 0)), (0, .ref b)] → W p l e room_1 s m #[Value.ref b] below meth c H locs (cells + 1) (slots + 6) Q (F0 m 1683 ls [])) : W p l e room_1 s m #[Value.ref b] below meth c H locs cells slots Q (F0 m 1015 ls []) := by
  have hcl1 := hcl.1
  have hcl2 := hcl.2
  have hA : ∀ z : Nat, s.heap.size ≤ z → s.heap.size ≤ z := fun _ h => h
  have hbA : ¬ (s.heap.size ≤ b) := Nat.not_le.mpr hbl
  have hr1 := zX_r xs (xi + 1)
  have hr2 := zX_r xs (xi + 2)
  by_cases hc9 : (0 ≤ (zX xs (xi + 1)) ∧ (zX xs (xi + 1)) ≤ 10000) ∧ 0 ≤ (zX xs (xi + 2)) ∧ (zX xs (xi + 2)) ≤ 1000
  · refine lv_aload_n hx hb dL_law_1015 rfl (lv_at hl 3 rfl) ?_
    refine lv_aload_n hx hb dL_law_1016 rfl (lv_at hl 4 rfl) ?_
    refine lv_iload hx hb dL_law_1017 (lv_at hl 0 rfl) ?_
    refine zr_iconst hx hb dL_law_1019 ?_
    refine zr_iadd hx hb dL_law_1020 ?_
    refine zr_sls hx hb hXs hbl hbA hS hL (by omega) dL_law_1021 ?_
    refine lv_aload_n hx hb dL_law_1022 rfl (lv_at hl 4 rfl) ?_
    refine lv_iload hx hb dL_law_1023 (lv_at hl 0 rfl) ?_
    refine zr_iconst hx hb dL_law_1025 ?_
    refine zr_iadd hx hb dL_law_1026 ?_
    refine zr_sls hx hb hXs hbl hbA hS hL (by omega) dL_law_1027 ?_
    refine lv_aload_n hx hb dL_law_1028 rfl (lv_at hl 1 rfl) ?_
    refine zc_xi (w := [((o 0) 0, .inr (5, [.ref ((o 1) 0), .ref ((o 2) 0), .ref ((o 3) 0), .ref ((o 8) 0)]))] ++ (zbat cs (o 1) A ++ [(ou, .inl (cs 2, 1, .inr (.inl (zAL gu))))])) (wr := zbat cs (o 2) T ++ ([(o 3 0, .inr (3, [.ref (o 3 1), .int (zI xm)])), (o 3 1, .inl (cs 3, 4, .inr (.inr (.inr (.inr (zR (o 4 0) (o 5 0) (o 6 0) (o 7 0)))))))] ++ (zbat cs (o 4) S0 ++ (zbat cs (o 5) S1 ++ (zbat cs (o 6) S2 ++ (zbat cs (o 7) S3 ++ (ztxt cs (o 8) f xl g xk xn xd xe ++ (zmod cs q A S V xm xth xam f xl xpl gr)))))))) (vx_runSX (As := [.ref (o 0 0), .int (zI (zX xs (xi + 1))), .int (zI (zX xs (xi + 2))), .ref ou]) (rest := []) ⟨hx, hb, hml, hown, hts⟩ (met_L_openVoltage_ok l D cs o ou gu H.size A n (zX xs (xi + 1)) (zX xs (xi + 2)) (by exact hI9.1) (by omega) (zX_r xs _) (zX_r xs _) hc9) (vx_cwSW 4 hts gL_law_L_openVoltage rfl rfl rfl (by decide +kernel) ⟨(Nat.le_of_ble_eq_true rfl), (Nat.le_of_ble_eq_true rfl)⟩) ⟨zPreZ.blind, fun U hU hW => zp_Z (hP.sub (ws' := [((o 0) 0, .inr (5, [.ref ((o 1) 0), .ref ((o 2) 0), .ref ((o 3) 0), .ref ((o 8) 0)]))] ++ (zbat cs (o 1) A ++ [(ou, .inl (cs 2, 1, .inr (.inl (zAL gu))))])) [0, 1, 2, 3, 4, 5, 6, 7, 54] rfl) hK (hD.sub (ws' := [((o 0) 0, .inr (5, [.ref ((o 1) 0), .ref ((o 2) 0), .ref ((o 3) 0), .ref ((o 8) 0)]))] ++ (zbat cs (o 1) A ++ [(ou, .inl (cs 2, 1, .inr (.inl (zAL gu))))])) [0, 1, 2, 3, 4, 5, 6, 7, 54] (by decide) rfl) hN hU hW⟩ rfl rfl hl.1 rfl (lv_room (Nat.le_of_ble_eq_true rfl)) dL_law_1029 ⟨by show cells + 0 ≤ 601024; omega, by show slots + 0 ≤ 7293034; omega⟩) hS hP hD hA [0, 1, 2, 3, 4, 5, 6, 7, 54] [8, 9, 10, 11, 12, 13, 14, 15, 16, 17, 18, 19, 20, 21, 22, 23, 24, 25, 26, 27, 28, 29, 30, 31, 32, 33, 34, 35, 36, 37, 38, 39, 40, 41, 42, 43, 44, 45, 46, 47, 48, 49, 50, 51, 52, 53] rfl rfl (by decide) (by decide) (fun H locs hP hD hS => ?_)
    have hP : va_P D vwCl (zest cs o A T S0 S1 S2 S3 xm f xl g xk xn xd xe ++ (zmod cs q A S V xm xth xam f xl xpl gr ++ [(ou, .inl (cs 2, 1, .inr (.inl (zAL (zU gu 0 (zW (zV A (zX xs (xi + 1)) (zX xs (xi + 2)))))))))])) H := zP_perm hP zPe_B
    have hD : va_D (fun z => s.heap.size ≤ z) (zest cs o A T S0 S1 S2 S3 xm f xl g xk xn xd xe ++ (zmod cs q A S V xm xth xam f xl xpl gr ++ [(ou, .inl (cs 2, 1, .inr (.inl (zAL (zU gu 0 (zW (zV A (zX xs (xi + 1)) (zX xs (xi + 2)))))))))])) := zD_perm hD zPe_B
    refine lv_istore (lv' := [(5, .int (zI 0)), (4, .int (zI xi)), (3, .ref ou), (2, .ref (q 0)), (1, .ref (o 0 0)), (0, .ref b)]) hx hb dL_law_1032 hl (by decide) rfl (fun ls hl => ?_)
    refine lv_aload_n hx hb dL_law_1034 rfl (lv_at hl 3 rfl) ?_
    refine lv_aload_n hx hb dL_law_1035 rfl (lv_at hl 5 rfl) ?_
    refine lv_iload hx hb dL_law_1036 (lv_at hl 1 rfl) ?_
    refine zr_iconst hx hb dL_law_1038 ?_
    refine zr_iadd hx hb dL_law_1039 ?_
    refine zr_sls hx hb hXs hbl hbA hS hL (by omega) dL_law_1040 ?_
    refine lv_aload_n hx hb dL_law_1041 rfl (lv_at hl 5 rfl) ?_
    refine lv_iload hx hb dL_law_1042 (lv_at hl 1 rfl) ?_
    refine zr_iconst hx hb dL_law_1044 ?_
    refine zr_iadd hx hb dL_law_1045 ?_
    refine zr_sls hx hb hXs hbl hbA hS hL (by omega) dL_law_1046 ?_
    refine zc_ij (w := zmod cs q A S V xm xth xam f xl xpl gr) (wr := zest cs o A T S0 S1 S2 S3 xm f xl g xk xn xd xe ++ [(ou, .inl (cs 2, 1, .inr (.inl (zAL (zU gu 0 (zW (zV A (zX xs (xi + 1)) (zX xs (xi + 2)))))))))]) (va_runV (As := [.int (zI (zX xs (xi + 1))), .int (zI (zX xs (xi + 2)))]) (rest := []) ⟨hx, hb, hml, hown, hts⟩ (met_X6_openVoltage_ok l D cs q H.size A S V xm xth xam f xl xpl gr n (zX xs (xi + 1)) (zX xs (xi + 2)) (by exact hI9.1) (by omega) (zX_r xs _) (zX_r xs _) hc9) (cwV 2 hts gL_law_X6_openVoltage rfl rfl rfl (by decide +kernel) ⟨(Nat.le_of_ble_eq_true rfl), (Nat.le_of_ble_eq_true rfl)⟩) ⟨zPreZ.blind, va_recv hK hP (ci := 6) (q0 := 48) rfl rfl, fun U hU hW => zp_Z (hP.sub (ws' := zmod cs q A S V xm xth xam f xl xpl gr) [48, 49, 50, 51, 52, 53] rfl) hK (hD.sub (ws' := zmod cs q A S V xm xth xam f xl xpl gr) [48, 49, 50, 51, 52, 53] (by decide) rfl) hN hU hW⟩ rfl rfl hl.1 rfl (lv_room (Nat.le_of_ble_eq_true rfl)) dL_law_1047 ⟨by show cells + 0 + 0 ≤ 601024; omega, by show slots + 0 + 0 ≤ 7293034; omega⟩) hS hP hD hA [48, 49, 50, 51, 52, 53] [0, 1, 2, 3, 4, 5, 6, 7, 8, 9, 10, 11, 12, 13, 14, 15, 16, 17, 18, 19, 20, 21, 22, 23, 24, 25, 26, 27, 28, 29, 30, 31, 32, 33, 34, 35, 36, 37, 38, 39, 40, 41, 42, 43, 44, 45, 46, 47, 54] rfl rfl (by decide) (by decide) (fun H locs hP hD hS => ?_)
    have hP : va_P D vwCl (zest cs o A T S0 S1 S2 S3 xm f xl g xk xn xd xe ++ (zmod cs q A S V xm 0 xam f xl xpl gr ++ [(ou, .inl (cs 2, 1, .inr (.inl (zAL (zU gu 0 (zW (zV A (zX xs (xi + 1)) (zX xs (xi + 2)))))))))])) H := zP_perm hP zPe_m
    have hD : va_D (fun z => s.heap.size ≤ z) (zest cs o A T S0 S1 S2 S3 xm f xl g xk xn xd xe ++ (zmod cs q A S V xm 0 xam f xl xpl gr ++ [(ou, .inl (cs 2, 1, .inr (.inl (zAL (zU gu 0 (zW (zV A (zX xs (xi + 1)) (zX xs (xi + 2)))))))))])) := zD_perm hD zPe_m
    refine lv_istore (lv' := [(6, .int (zI (zV A (zX xs (xi + 1)) (zX xs (xi + 2))))), (5, .int (zI 0)), (4, .int (zI xi)), (3, .ref ou), (2, .ref (q 0)), (1, .ref (o 0 0)), (0, .ref b)]) hx hb dL_law_1050 hl (by decide) rfl (fun ls hl => ?_)
    refine lv_aload_n hx hb dL_law_1052 rfl (lv_at hl 4 rfl) ?_
    refine zc_ri (va_runV (As := []) (rest := []) ⟨hx, hb, hml, hown, hts⟩ (met_X6_thrown l D cs q A S V xm 0 xam f xl xpl gr) (cwV 0 hts gL_law_X6_thrown rfl rfl rfl (by decide +kernel) ⟨(Nat.le_of_ble_eq_true rfl), (Nat.le_of_ble_eq_true rfl)⟩) ⟨zPre.blind, va_recv hK hP (ci := 6) (q0 := 48) rfl rfl, fun U hU hW => zp_R (hP.sub (ws' := zmod cs q A S V xm 0 xam f xl xpl gr) [48, 49, 50, 51, 52, 53] rfl) hK (hD.sub (ws' := zmod cs q A S V xm 0 xam f xl xpl gr) [48, 49, 50, 51, 52, 53] (by decide) rfl) hN hU hW⟩ rfl rfl hl.1 rfl (lv_room (Nat.le_of_ble_eq_true rfl)) dL_law_1053 ⟨by show cells + 0 + 0 + 0 ≤ 601024; omega, by show slots + 0 + 0 + 0 ≤ 7293034; omega⟩) ?_
    refine lv_iload hx hb dL_law_1056 (lv_at hl 1 rfl) ?_
    refine zr_iceq (tgt := 1063) hx hb dL_law_1058 (by decide) ?_
    refine lv_iload hx hb dL_law_1063 (lv_at hl 1 rfl) ?_
    refine zr_if_ne (tgt := 1080) hx hb dL_law_1065 (by decide) (by decide) (fun h9 => absurd h9 (by decide)) (fun _ => ?_)
    refine lv_aload_n hx hb dL_law_1068 rfl (lv_at hl 3 rfl) ?_
    refine zr_iconst hx hb dL_law_1069 ?_
    refine zr_lald (D := D) (g := zU gu 0 (zW (zV A (zX xs (xi + 1)) (zX xs (xi + 2))))) hx hb hK hP 54 2 rfl rfl (by decide) (by decide) dL_law_1070 ?_
    rw [show (zU gu 0 (zW (zV A (zX xs (xi + 1)) (zX xs (xi + 2))))) 0 = zW (zV A (zX xs (xi + 1)) (zX xs (xi + 2))) from rfl]
    refine lv_iload hx hb dL_law_1071 (lv_at hl 0 rfl) ?_
    refine lv_i2l hx hb dL_law_1073 (zW_l (zV A (zX xs (xi + 1)) (zX xs (xi + 2)))) ?_
    refine zr_lceq (tgt := 1080) hx hb dL_law_1074 dL_law_1075 (by decide) ?_
    refine lv_goto (tgt := 1683) hx hb dL_law_1080 (by decide) ?_
    refine W.widen (k := cells + 1) (n := slots + 6) (by show cells + 0 + 0 ≤ cells + 1; omega) (by show slots + 0 + 0 ≤ slots + 6; omega) ?_
    exact kk o q n A T S0 S1 S2 S3 S V xm f xl g xk xn xd xe 0 xam xpl gr (zU gu 0 (zW (zV A (zX xs (xi + 1)) (zX xs (xi + 2))))) (by exact hI9) (by omega) H locs hP hD hS ls (lv_sub hl [2, 3, 4, 5, 6] rfl)
  replace hc9 := hc9
  refine lv_aload_n hx hb dL_law_1015 rfl (lv_at hl 3 rfl) ?_
  refine lv_aload_n hx hb dL_law_1016 rfl (lv_at hl 4 rfl) ?_
  refine lv_iload hx hb dL_law_1017 (lv_at hl 0 rfl) ?_
  refine zr_iconst hx hb dL_law_1019 ?_
  refine zr_iadd hx hb dL_law_1020 ?_
  refine zr_sls hx hb hXs hbl hbA hS hL (by omega) dL_law_1021 ?_
  refine lv_aload_n hx hb dL_law_1022 rfl (lv_at hl 4 rfl) ?_
  refine lv_iload hx hb dL_law_1023 (lv_at hl 0 rfl) ?_
  refine zr_iconst hx hb dL_law_1025 ?_
  refine zr_iadd hx hb dL_law_1026 ?_
  refine zr_sls hx hb hXs hbl hbA hS hL (by omega) dL_law_1027 ?_
  refine lv_aload_n hx hb dL_law_1028 rfl (lv_at hl 1 rfl) ?_
  refine zc_xk (vx_runSX (As := [.ref (o 0 0), .int (zI (zX xs (xi + 1))), .int (zI (zX xs (xi + 2))), .ref ou]) (rest := []) ⟨hx, hb, hml, hown, hts⟩ (met_L_openVoltage_x l hfl D cs o ou gu A (zX xs (xi + 1)) (zX xs (xi + 2)) (zX_r xs _) (zX_r xs _) hc9) (vx_cwSW 4 hts gL_law_L_openVoltage rfl rfl rfl (by decide +kernel) ⟨(Nat.le_of_ble_eq_true rfl), (Nat.le_of_ble_eq_true rfl)⟩) ⟨zPreU.blind, fun U hU hW => zp_U (hP.sub (ws' := [((o 0) 0, .inr (5, [.ref ((o 1) 0), .ref ((o 2) 0), .ref ((o 3) 0), .ref ((o 8) 0)]))] ++ (zbat cs (o 1) A ++ [(ou, .inl (cs 2, 1, .inr (.inl (zAL gu))))])) [0, 1, 2, 3, 4, 5, 6, 7, 54] rfl) hK (hD.sub (ws' := [((o 0) 0, .inr (5, [.ref ((o 1) 0), .ref ((o 2) 0), .ref ((o 3) 0), .ref ((o 8) 0)]))] ++ (zbat cs (o 1) A ++ [(ou, .inl (cs 2, 1, .inr (.inl (zAL gu))))])) [0, 1, 2, 3, 4, 5, 6, 7, 54] (by decide) rfl) hN (hG.at hS) hC hU hW⟩ rfl rfl hl.1 rfl (lv_room (Nat.le_of_ble_eq_true rfl)) dL_law_1029 ⟨by show cells + 1 ≤ 601024; omega, by show slots + 6 ≤ 7293034; omega⟩) hS hP (fun H locs hP hS => ?_)
  refine lv_istore (lv' := [(5, .int (zI 1)), (4, .int (zI xi)), (3, .ref ou), (2, .ref (q 0)), (1, .ref (o 0 0)), (0, .ref b)]) hx hb dL_law_1032 hl (by decide) rfl (fun ls hl => ?_)
  refine lv_aload_n hx hb dL_law_1034 rfl (lv_at hl 3 rfl) ?_
  refine lv_aload_n hx hb dL_law_1035 rfl (lv_at hl 5 rfl) ?_
  refine lv_iload hx hb dL_law_1036 (lv_at hl 1 rfl) ?_
  refine zr_iconst hx hb dL_law_1038 ?_
  refine zr_iadd hx hb dL_law_1039 ?_
  refine zr_sls hx hb hXs hbl hbA hS hL (by omega) dL_law_1040 ?_
  refine lv_aload_n hx hb dL_law_1041 rfl (lv_at hl 5 rfl) ?_
  refine lv_iload hx hb dL_law_1042 (lv_at hl 1 rfl) ?_
  refine zr_iconst hx hb dL_law_1044 ?_
  refine zr_iadd hx hb dL_law_1045 ?_
  refine zr_sls hx hb hXs hbl hbA hS hL (by omega) dL_law_1046 ?_
  refine zc_ij (w := zmod cs q A S V xm xth xam f xl xpl gr) (wr := zest cs o A T S0 S1 S2 S3 xm f xl g xk xn xd xe ++ [(ou, .inl (cs 2, 1, .inr (.inl (zAL gu))))]) (va_runV (As := [.int (zI (zX xs (xi + 1))), .int (zI (zX xs (xi + 2)))]) (rest := []) ⟨hx, hb, hml, hown, hts⟩ (met_X6_openVoltage_no1 l D cs q H.size A S V xm xth xam f xl xpl gr (zX xs (xi + 1)) (zX xs (xi + 2)) (zX_r xs _) (zX_r xs _) hc9) (cwV 2 hts gL_law_X6_openVoltage rfl rfl rfl (by decide +kernel) ⟨(Nat.le_of_ble_eq_true rfl), (Nat.le_of_ble_eq_true rfl)⟩) ⟨zPreZ.blind, va_recv hK hP (ci := 6) (q0 := 48) rfl rfl, fun U hU hW => zp_Z (hP.sub (ws' := zmod cs q A S V xm xth xam f xl xpl gr) [48, 49, 50, 51, 52, 53] rfl) hK (hD.sub (ws' := zmod cs q A S V xm xth xam f xl xpl gr) [48, 49, 50, 51, 52, 53] (by decide) rfl) hN hU hW⟩ rfl rfl hl.1 rfl (lv_room (Nat.le_of_ble_eq_true rfl)) dL_law_1047 ⟨by show cells + 1 + 0 ≤ 601024; omega, by show slots + 6 + 0 ≤ 7293034; omega⟩) hS hP hD hA [48, 49, 50, 51, 52, 53] [0, 1, 2, 3, 4, 5, 6, 7, 8, 9, 10, 11, 12, 13, 14, 15, 16, 17, 18, 19, 20, 21, 22, 23, 24, 25, 26, 27, 28, 29, 30, 31, 32, 33, 34, 35, 36, 37, 38, 39, 40, 41, 42, 43, 44, 45, 46, 47, 54] rfl rfl (by decide) (by decide) (fun H locs hP hD hS => ?_)
  have hP : va_P D vwCl (zest cs o A T S0 S1 S2 S3 xm f xl g xk xn xd xe ++ (zmod cs q A S V xm 1 xam f xl xpl gr ++ [(ou, .inl (cs 2, 1, .inr (.inl (zAL gu))))])) H := zP_perm hP zPe_m
  have hD : va_D (fun z => s.heap.size ≤ z) (zest cs o A T S0 S1 S2 S3 xm f xl g xk xn xd xe ++ (zmod cs q A S V xm 1 xam f xl xpl gr ++ [(ou, .inl (cs 2, 1, .inr (.inl (zAL gu))))])) := zD_perm hD zPe_m
  refine lv_istore (lv' := [(6, .int (zI 0)), (5, .int (zI 1)), (4, .int (zI xi)), (3, .ref ou), (2, .ref (q 0)), (1, .ref (o 0 0)), (0, .ref b)]) hx hb dL_law_1050 hl (by decide) rfl (fun ls hl => ?_)
  refine lv_aload_n hx hb dL_law_1052 rfl (lv_at hl 4 rfl) ?_
  refine zc_ri (va_runV (As := []) (rest := []) ⟨hx, hb, hml, hown, hts⟩ (met_X6_thrown l D cs q A S V xm 1 xam f xl xpl gr) (cwV 0 hts gL_law_X6_thrown rfl rfl rfl (by decide +kernel) ⟨(Nat.le_of_ble_eq_true rfl), (Nat.le_of_ble_eq_true rfl)⟩) ⟨zPre.blind, va_recv hK hP (ci := 6) (q0 := 48) rfl rfl, fun U hU hW => zp_R (hP.sub (ws' := zmod cs q A S V xm 1 xam f xl xpl gr) [48, 49, 50, 51, 52, 53] rfl) hK (hD.sub (ws' := zmod cs q A S V xm 1 xam f xl xpl gr) [48, 49, 50, 51, 52, 53] (by decide) rfl) hN hU hW⟩ rfl rfl hl.1 rfl (lv_room (Nat.le_of_ble_eq_true rfl)) dL_law_1053 ⟨by show cells + 1 + 0 + 0 ≤ 601024; omega, by show slots + 6 + 0 + 0 ≤ 7293034; omega⟩) ?_
  refine lv_iload hx hb dL_law_1056 (lv_at hl 1 rfl) ?_
  refine zr_iceq (tgt := 1063) hx hb dL_law_1058 (by decide) ?_
  refine lv_iload hx hb dL_law_1063 (lv_at hl 1 rfl) ?_
  refine zr_if_ne (tgt := 1080) hx hb dL_law_1065 (by decide) (by decide) (fun _ => ?_) (fun h9 => absurd h9 (by decide))
  refine lv_goto (tgt := 1683) hx hb dL_law_1080 (by decide) ?_
  refine W.widen (k := cells + 1) (n := slots + 6) (by show cells + 1 + 0 ≤ cells + 1; omega) (by show slots + 6 + 0 ≤ slots + 6; omega) ?_
  exact kk o q n A T S0 S1 S2 S3 S V xm f xl g xk xn xd xe 1 xam xpl gr gu (by exact hI9) (by omega) H locs hP hD hS ls (lv_sub hl [2, 3, 4, 5, 6] rfl)
/-! the law: invert -/
set_option maxHeartbeats 8000000 in
set_option maxRecDepth 100000 in
theorem law_invert {p : Program} {e : Env} {s : State} {m : MethodId} {below : List Frame} {meth : Method} {c : Code} {b L : Nat} {xs : Nat → Int32} {Q : State → Prop} (l : Launch) (hfl : l.stackTraces = false) (D : va_G) (cs : Nat → ClassId) (hx : p.tables.exec = Jvm.exec) (hb : c.code = cL_law) (hml : c.maxLocals = 9) (hown : s.vm.findClass RL = some m.cls) (hts : ∀ w ∈ wsL_law, w.before #[Value.ref b] s = true) (hK : va_K D vwCl (zTy cs) s) (hN : zNW s) (hG : zXG s) (hC : zNcP s) (hO : va_AO RX1 s) (hL : L ≤ 2560) (hXs : va_X b L xs s s.heap) (hbl : b < s.heap.size) (xi : Int) (hxi : 0 ≤ xi ∧ xi + 5 ≤ L) (cells slots : Nat) (hcl : cells + 1 ≤ 601024 ∧ slots + 6 ≤ 7293034) (ou : Nat) (o : Nat → Nat → Nat) (q : Nat → Nat) (n : Int) (A T S0 S1 S2 S3 S V : Int → Int) (xm : Int) (f : Int → Int) (xl : Int) (g : Int → Int) (xk xn xd xe xth xam xpl : Int) (gr gu : Int → Int) (hI9 : zInL n A S0 S1 S2 S3 S xm f xl) (hn9 : 0 ≤ n ∧ n ≤ 1200 * xi) (H : Heap) (locs : List Loc) (hP : va_P D vwCl (zest cs o A T S0 S1 S2 S3 xm f xl g xk xn xd xe ++ (zmod cs q A S V xm xth xam f xl xpl gr ++ [(ou, .inl (cs 2, 1, .inr (.inl (zAL gu))))])) H) (hD : va_D (fun z => s.heap.size ≤ z) (zest cs o A T S0 S1 S2 S3 xm f xl g xk xn xd xe ++ (zmod cs q A S V xm xth xam f xl xpl gr ++ [(ou, .inl (cs 2, 1, .inr (.inl (zAL gu))))]))) (hS : va_S (fun z => s.heap.size ≤ z) s.heap H locs) (ls : Array Slot) (hl : lv_has ls 9 [(4, .int (zI xi)), (3, .ref ou), (2, .ref (q 0)), (1, .ref (o 0 0)), (0, .ref b)]) (kk : ∀ (o : Nat → Nat → Nat) (q : Nat → Nat) (n : Int) (A T S0 S1 S2 S3 S V : Int → Int) (xm : Int) (f : Int → Int) (xl : Int) (g : Int → Int) (xk xn xd xe xth xam xpl : Int) (gr gu : Int → Int), zInL n A S0 S1 S2 S3 S xm f xl → (0 ≤ n ∧ n ≤ 1200 * (xi + 5)) → ∀ (H : Heap) (locs : List Loc), va_P D vwCl (zest cs o A T S0 S1 S2 S3 xm f xl g xk xn xd xe ++ (zmod cs q A S V xm xth xam f xl xpl gr ++ [(ou, .inl (cs 2, 1, .inr (.inl (zAL gu))))])) H → va_D (fun z => s.heap.size ≤ z) (zest cs o A T S0 S1 S2 S3 xm f xl g xk xn xd xe ++ (zmod cs q A S V xm xth xam f xl xpl gr ++ [(ou, .inl (cs 2, 1, .inr (.inl (zAL gu))))])) → va_S (fun z => s.heap.size ≤ z) s.heap H locs → ∀ ls : Array Slot, lv_has ls 9 [(4, .int (zI xi)), (3, .ref ou), (2, .ref (q 0)), (1, .ref (o 0 0)), (0, .ref b)] → W p l e room_1 s m #[Value.ref b] below meth c H locs (cells + 1) (slots + 6) Q (F0 m 1683 ls [])) : W p l e room_1 s m #[Value.ref b] below meth c H locs cells slots Q (F0 m 1083 ls []) := by
  have hcl1 := hcl.1
  have hcl2 := hcl.2
  have hA : ∀ z : Nat, s.heap.size ≤ z → s.heap.size ≤ z := fun _ h => h
  have hbA : ¬ (s.heap.size ≤ b) := Nat.not_le.mpr hbl
  have hr1 := zX_r xs (xi + 1)
  have hr2 := zX_r xs (xi + 2)
  by_cases hc9 : (0 ≤ (zX xs (xi + 1)) ∧ (zX xs (xi + 1)) ≤ 6000) ∧ 0 ≤ (zX xs (xi + 2)) ∧ (zX xs (xi + 2)) ≤ 1000
  · refine lv_aload_n hx hb dL_law_1083 rfl (lv_at hl 3 rfl) ?_
    refine lv_aload_n hx hb dL_law_1084 rfl (lv_at hl 4 rfl) ?_
    refine lv_iload hx hb dL_law_1085 (lv_at hl 0 rfl) ?_
    refine zr_iconst hx hb dL_law_1087 ?_
    refine zr_iadd hx hb dL_law_1088 ?_
    refine zr_sls hx hb hXs hbl hbA hS hL (by omega) dL_law_1089 ?_
    refine lv_aload_n hx hb dL_law_1090 rfl (lv_at hl 4 rfl) ?_
    refine lv_iload hx hb dL_law_1091 (lv_at hl 0 rfl) ?_
    refine zr_iconst hx hb dL_law_1093 ?_
    refine zr_iadd hx hb dL_law_1094 ?_
    refine zr_sls hx hb hXs hbl hbA hS hL (by omega) dL_law_1095 ?_
    refine lv_aload_n hx hb dL_law_1096 rfl (lv_at hl 1 rfl) ?_
    refine zc_xi (w := [((o 0) 0, .inr (5, [.ref ((o 1) 0), .ref ((o 2) 0), .ref ((o 3) 0), .ref ((o 8) 0)]))] ++ (zbat cs (o 1) A ++ [(ou, .inl (cs 2, 1, .inr (.inl (zAL gu))))])) (wr := zbat cs (o 2) T ++ ([(o 3 0, .inr (3, [.ref (o 3 1), .int (zI xm)])), (o 3 1, .inl (cs 3, 4, .inr (.inr (.inr (.inr (zR (o 4 0) (o 5 0) (o 6 0) (o 7 0)))))))] ++ (zbat cs (o 4) S0 ++ (zbat cs (o 5) S1 ++ (zbat cs (o 6) S2 ++ (zbat cs (o 7) S3 ++ (ztxt cs (o 8) f xl g xk xn xd xe ++ (zmod cs q A S V xm xth xam f xl xpl gr)))))))) (vx_runSX (As := [.ref (o 0 0), .int (zI (zX xs (xi + 1))), .int (zI (zX xs (xi + 2))), .ref ou]) (rest := []) ⟨hx, hb, hml, hown, hts⟩ (met_L_invert_ok l D cs o ou gu H.size A n (zX xs (xi + 1)) (zX xs (xi + 2)) (by exact hI9.1) (by omega) (zX_r xs _) (zX_r xs _) hc9) (vx_cwSW 4 hts gL_law_L_invert rfl rfl rfl (by decide +kernel) ⟨(Nat.le_of_ble_eq_true rfl), (Nat.le_of_ble_eq_true rfl)⟩) ⟨zPreZ.blind, fun U hU hW => zp_Z (hP.sub (ws' := [((o 0) 0, .inr (5, [.ref ((o 1) 0), .ref ((o 2) 0), .ref ((o 3) 0), .ref ((o 8) 0)]))] ++ (zbat cs (o 1) A ++ [(ou, .inl (cs 2, 1, .inr (.inl (zAL gu))))])) [0, 1, 2, 3, 4, 5, 6, 7, 54] rfl) hK (hD.sub (ws' := [((o 0) 0, .inr (5, [.ref ((o 1) 0), .ref ((o 2) 0), .ref ((o 3) 0), .ref ((o 8) 0)]))] ++ (zbat cs (o 1) A ++ [(ou, .inl (cs 2, 1, .inr (.inl (zAL gu))))])) [0, 1, 2, 3, 4, 5, 6, 7, 54] (by decide) rfl) hN hU hW⟩ rfl rfl hl.1 rfl (lv_room (Nat.le_of_ble_eq_true rfl)) dL_law_1097 ⟨by show cells + 0 ≤ 601024; omega, by show slots + 0 ≤ 7293034; omega⟩) hS hP hD hA [0, 1, 2, 3, 4, 5, 6, 7, 54] [8, 9, 10, 11, 12, 13, 14, 15, 16, 17, 18, 19, 20, 21, 22, 23, 24, 25, 26, 27, 28, 29, 30, 31, 32, 33, 34, 35, 36, 37, 38, 39, 40, 41, 42, 43, 44, 45, 46, 47, 48, 49, 50, 51, 52, 53] rfl rfl (by decide) (by decide) (fun H locs hP hD hS => ?_)
    have hP : va_P D vwCl (zest cs o A T S0 S1 S2 S3 xm f xl g xk xn xd xe ++ (zmod cs q A S V xm xth xam f xl xpl gr ++ [(ou, .inl (cs 2, 1, .inr (.inl (zAL (zU gu 0 (zW (zInv A (zX xs (xi + 1)) (zX xs (xi + 2)))))))))])) H := zP_perm hP zPe_B
    have hD : va_D (fun z => s.heap.size ≤ z) (zest cs o A T S0 S1 S2 S3 xm f xl g xk xn xd xe ++ (zmod cs q A S V xm xth xam f xl xpl gr ++ [(ou, .inl (cs 2, 1, .inr (.inl (zAL (zU gu 0 (zW (zInv A (zX xs (xi + 1)) (zX xs (xi + 2)))))))))])) := zD_perm hD zPe_B
    refine lv_istore (lv' := [(5, .int (zI 0)), (4, .int (zI xi)), (3, .ref ou), (2, .ref (q 0)), (1, .ref (o 0 0)), (0, .ref b)]) hx hb dL_law_1100 hl (by decide) rfl (fun ls hl => ?_)
    refine lv_aload_n hx hb dL_law_1102 rfl (lv_at hl 3 rfl) ?_
    refine lv_aload_n hx hb dL_law_1103 rfl (lv_at hl 5 rfl) ?_
    refine lv_iload hx hb dL_law_1104 (lv_at hl 1 rfl) ?_
    refine zr_iconst hx hb dL_law_1106 ?_
    refine zr_iadd hx hb dL_law_1107 ?_
    refine zr_sls hx hb hXs hbl hbA hS hL (by omega) dL_law_1108 ?_
    refine lv_aload_n hx hb dL_law_1109 rfl (lv_at hl 5 rfl) ?_
    refine lv_iload hx hb dL_law_1110 (lv_at hl 1 rfl) ?_
    refine zr_iconst hx hb dL_law_1112 ?_
    refine zr_iadd hx hb dL_law_1113 ?_
    refine zr_sls hx hb hXs hbl hbA hS hL (by omega) dL_law_1114 ?_
    refine zc_ij (w := zmod cs q A S V xm xth xam f xl xpl gr) (wr := zest cs o A T S0 S1 S2 S3 xm f xl g xk xn xd xe ++ [(ou, .inl (cs 2, 1, .inr (.inl (zAL (zU gu 0 (zW (zInv A (zX xs (xi + 1)) (zX xs (xi + 2)))))))))]) (va_runV (As := [.int (zI (zX xs (xi + 1))), .int (zI (zX xs (xi + 2)))]) (rest := []) ⟨hx, hb, hml, hown, hts⟩ (met_X6_invert_ok l D cs q H.size A S V xm xth xam f xl xpl gr n (zX xs (xi + 1)) (zX xs (xi + 2)) (by exact hI9.1) (by omega) (zX_r xs _) (zX_r xs _) hc9) (cwV 2 hts gL_law_X6_invert rfl rfl rfl (by decide +kernel) ⟨(Nat.le_of_ble_eq_true rfl), (Nat.le_of_ble_eq_true rfl)⟩) ⟨zPreZ.blind, va_recv hK hP (ci := 6) (q0 := 48) rfl rfl, fun U hU hW => zp_Z (hP.sub (ws' := zmod cs q A S V xm xth xam f xl xpl gr) [48, 49, 50, 51, 52, 53] rfl) hK (hD.sub (ws' := zmod cs q A S V xm xth xam f xl xpl gr) [48, 49, 50, 51, 52, 53] (by decide) rfl) hN hU hW⟩ rfl rfl hl.1 rfl (lv_room (Nat.le_of_ble_eq_true rfl)) dL_law_1115 ⟨by show cells + 0 + 0 ≤ 601024; omega, by show slots + 0 + 0 ≤ 7293034; omega⟩) hS hP hD hA [48, 49, 50, 51, 52, 53] [0, 1, 2, 3, 4, 5, 6, 7, 8, 9, 10, 11, 12, 13, 14, 15, 16, 17, 18, 19, 20, 21, 22, 23, 24, 25, 26, 27, 28, 29, 30, 31, 32, 33, 34, 35, 36, 37, 38, 39, 40, 41, 42, 43, 44, 45, 46, 47, 54] rfl rfl (by decide) (by decide) (fun H locs hP hD hS => ?_)
    have hP : va_P D vwCl (zest cs o A T S0 S1 S2 S3 xm f xl g xk xn xd xe ++ (zmod cs q A S V xm 0 xam f xl xpl gr ++ [(ou, .inl (cs 2, 1, .inr (.inl (zAL (zU gu 0 (zW (zInv A (zX xs (xi + 1)) (zX xs (xi + 2)))))))))])) H := zP_perm hP zPe_m
    have hD : va_D (fun z => s.heap.size ≤ z) (zest cs o A T S0 S1 S2 S3 xm f xl g xk xn xd xe ++ (zmod cs q A S V xm 0 xam f xl xpl gr ++ [(ou, .inl (cs 2, 1, .inr (.inl (zAL (zU gu 0 (zW (zInv A (zX xs (xi + 1)) (zX xs (xi + 2)))))))))])) := zD_perm hD zPe_m
    refine lv_istore (lv' := [(6, .int (zI (zInv A (zX xs (xi + 1)) (zX xs (xi + 2))))), (5, .int (zI 0)), (4, .int (zI xi)), (3, .ref ou), (2, .ref (q 0)), (1, .ref (o 0 0)), (0, .ref b)]) hx hb dL_law_1118 hl (by decide) rfl (fun ls hl => ?_)
    refine lv_aload_n hx hb dL_law_1120 rfl (lv_at hl 4 rfl) ?_
    refine zc_ri (va_runV (As := []) (rest := []) ⟨hx, hb, hml, hown, hts⟩ (met_X6_thrown l D cs q A S V xm 0 xam f xl xpl gr) (cwV 0 hts gL_law_X6_thrown rfl rfl rfl (by decide +kernel) ⟨(Nat.le_of_ble_eq_true rfl), (Nat.le_of_ble_eq_true rfl)⟩) ⟨zPre.blind, va_recv hK hP (ci := 6) (q0 := 48) rfl rfl, fun U hU hW => zp_R (hP.sub (ws' := zmod cs q A S V xm 0 xam f xl xpl gr) [48, 49, 50, 51, 52, 53] rfl) hK (hD.sub (ws' := zmod cs q A S V xm 0 xam f xl xpl gr) [48, 49, 50, 51, 52, 53] (by decide) rfl) hN hU hW⟩ rfl rfl hl.1 rfl (lv_room (Nat.le_of_ble_eq_true rfl)) dL_law_1121 ⟨by show cells + 0 + 0 + 0 ≤ 601024; omega, by show slots + 0 + 0 + 0 ≤ 7293034; omega⟩) ?_
    refine lv_iload hx hb dL_law_1124 (lv_at hl 1 rfl) ?_
    refine zr_iceq (tgt := 1131) hx hb dL_law_1126 (by decide) ?_
    refine lv_iload hx hb dL_law_1131 (lv_at hl 1 rfl) ?_
    refine zr_if_ne (tgt := 1148) hx hb dL_law_1133 (by decide) (by decide) (fun h9 => absurd h9 (by decide)) (fun _ => ?_)
    refine lv_aload_n hx hb dL_law_1136 rfl (lv_at hl 3 rfl) ?_
    refine zr_iconst hx hb dL_law_1137 ?_
    refine zr_lald (D := D) (g := zU gu 0 (zW (zInv A (zX xs (xi + 1)) (zX xs (xi + 2))))) hx hb hK hP 54 2 rfl rfl (by decide) (by decide) dL_law_1138 ?_
    rw [show (zU gu 0 (zW (zInv A (zX xs (xi + 1)) (zX xs (xi + 2))))) 0 = zW (zInv A (zX xs (xi + 1)) (zX xs (xi + 2))) from rfl]
    refine lv_iload hx hb dL_law_1139 (lv_at hl 0 rfl) ?_
    refine lv_i2l hx hb dL_law_1141 (zW_l (zInv A (zX xs (xi + 1)) (zX xs (xi + 2)))) ?_
    refine zr_lceq (tgt := 1148) hx hb dL_law_1142 dL_law_1143 (by decide) ?_
    refine lv_goto (tgt := 1683) hx hb dL_law_1148 (by decide) ?_
    refine W.widen (k := cells + 1) (n := slots + 6) (by show cells + 0 + 0 ≤ cells + 1; omega) (by show slots + 0 + 0 ≤ slots + 6; omega) ?_
    exact kk o q n A T S0 S1 S2 S3 S V xm f xl g xk xn xd xe 0 xam xpl gr (zU gu 0 (zW (zInv A (zX xs (xi + 1)) (zX xs (xi + 2))))) (by exact hI9) (by omega) H locs hP hD hS ls (lv_sub hl [2, 3, 4, 5, 6] rfl)
  replace hc9 := hc9
  refine lv_aload_n hx hb dL_law_1083 rfl (lv_at hl 3 rfl) ?_
  refine lv_aload_n hx hb dL_law_1084 rfl (lv_at hl 4 rfl) ?_
  refine lv_iload hx hb dL_law_1085 (lv_at hl 0 rfl) ?_
  refine zr_iconst hx hb dL_law_1087 ?_
  refine zr_iadd hx hb dL_law_1088 ?_
  refine zr_sls hx hb hXs hbl hbA hS hL (by omega) dL_law_1089 ?_
  refine lv_aload_n hx hb dL_law_1090 rfl (lv_at hl 4 rfl) ?_
  refine lv_iload hx hb dL_law_1091 (lv_at hl 0 rfl) ?_
  refine zr_iconst hx hb dL_law_1093 ?_
  refine zr_iadd hx hb dL_law_1094 ?_
  refine zr_sls hx hb hXs hbl hbA hS hL (by omega) dL_law_1095 ?_
  refine lv_aload_n hx hb dL_law_1096 rfl (lv_at hl 1 rfl) ?_
  refine zc_xk (vx_runSX (As := [.ref (o 0 0), .int (zI (zX xs (xi + 1))), .int (zI (zX xs (xi + 2))), .ref ou]) (rest := []) ⟨hx, hb, hml, hown, hts⟩ (met_L_invert_x l hfl D cs o ou gu A (zX xs (xi + 1)) (zX xs (xi + 2)) (zX_r xs _) (zX_r xs _) hc9) (vx_cwSW 4 hts gL_law_L_invert rfl rfl rfl (by decide +kernel) ⟨(Nat.le_of_ble_eq_true rfl), (Nat.le_of_ble_eq_true rfl)⟩) ⟨zPreU.blind, fun U hU hW => zp_U (hP.sub (ws' := [((o 0) 0, .inr (5, [.ref ((o 1) 0), .ref ((o 2) 0), .ref ((o 3) 0), .ref ((o 8) 0)]))] ++ (zbat cs (o 1) A ++ [(ou, .inl (cs 2, 1, .inr (.inl (zAL gu))))])) [0, 1, 2, 3, 4, 5, 6, 7, 54] rfl) hK (hD.sub (ws' := [((o 0) 0, .inr (5, [.ref ((o 1) 0), .ref ((o 2) 0), .ref ((o 3) 0), .ref ((o 8) 0)]))] ++ (zbat cs (o 1) A ++ [(ou, .inl (cs 2, 1, .inr (.inl (zAL gu))))])) [0, 1, 2, 3, 4, 5, 6, 7, 54] (by decide) rfl) hN (hG.at hS) hC hU hW⟩ rfl rfl hl.1 rfl (lv_room (Nat.le_of_ble_eq_true rfl)) dL_law_1097 ⟨by show cells + 1 ≤ 601024; omega, by show slots + 6 ≤ 7293034; omega⟩) hS hP (fun H locs hP hS => ?_)
  refine lv_istore (lv' := [(5, .int (zI 1)), (4, .int (zI xi)), (3, .ref ou), (2, .ref (q 0)), (1, .ref (o 0 0)), (0, .ref b)]) hx hb dL_law_1100 hl (by decide) rfl (fun ls hl => ?_)
  refine lv_aload_n hx hb dL_law_1102 rfl (lv_at hl 3 rfl) ?_
  refine lv_aload_n hx hb dL_law_1103 rfl (lv_at hl 5 rfl) ?_
  refine lv_iload hx hb dL_law_1104 (lv_at hl 1 rfl) ?_
  refine zr_iconst hx hb dL_law_1106 ?_
  refine zr_iadd hx hb dL_law_1107 ?_
  refine zr_sls hx hb hXs hbl hbA hS hL (by omega) dL_law_1108 ?_
  refine lv_aload_n hx hb dL_law_1109 rfl (lv_at hl 5 rfl) ?_
  refine lv_iload hx hb dL_law_1110 (lv_at hl 1 rfl) ?_
  refine zr_iconst hx hb dL_law_1112 ?_
  refine zr_iadd hx hb dL_law_1113 ?_
  refine zr_sls hx hb hXs hbl hbA hS hL (by omega) dL_law_1114 ?_
  refine zc_ij (w := zmod cs q A S V xm xth xam f xl xpl gr) (wr := zest cs o A T S0 S1 S2 S3 xm f xl g xk xn xd xe ++ [(ou, .inl (cs 2, 1, .inr (.inl (zAL gu))))]) (va_runV (As := [.int (zI (zX xs (xi + 1))), .int (zI (zX xs (xi + 2)))]) (rest := []) ⟨hx, hb, hml, hown, hts⟩ (met_X6_invert_no1 l D cs q H.size A S V xm xth xam f xl xpl gr (zX xs (xi + 1)) (zX xs (xi + 2)) (zX_r xs _) (zX_r xs _) hc9) (cwV 2 hts gL_law_X6_invert rfl rfl rfl (by decide +kernel) ⟨(Nat.le_of_ble_eq_true rfl), (Nat.le_of_ble_eq_true rfl)⟩) ⟨zPreZ.blind, va_recv hK hP (ci := 6) (q0 := 48) rfl rfl, fun U hU hW => zp_Z (hP.sub (ws' := zmod cs q A S V xm xth xam f xl xpl gr) [48, 49, 50, 51, 52, 53] rfl) hK (hD.sub (ws' := zmod cs q A S V xm xth xam f xl xpl gr) [48, 49, 50, 51, 52, 53] (by decide) rfl) hN hU hW⟩ rfl rfl hl.1 rfl (lv_room (Nat.le_of_ble_eq_true rfl)) dL_law_1115 ⟨by show cells + 1 + 0 ≤ 601024; omega, by show slots + 6 + 0 ≤ 7293034; omega⟩) hS hP hD hA [48, 49, 50, 51, 52, 53] [0, 1, 2, 3, 4, 5, 6, 7, 8, 9, 10, 11, 12, 13, 14, 15, 16, 17, 18, 19, 20, 21, 22, 23, 24, 25, 26, 27, 28, 29, 30, 31, 32, 33, 34, 35, 36, 37, 38, 39, 40, 41, 42, 43, 44, 45, 46, 47, 54] rfl rfl (by decide) (by decide) (fun H locs hP hD hS => ?_)
  have hP : va_P D vwCl (zest cs o A T S0 S1 S2 S3 xm f xl g xk xn xd xe ++ (zmod cs q A S V xm 1 xam f xl xpl gr ++ [(ou, .inl (cs 2, 1, .inr (.inl (zAL gu))))])) H := zP_perm hP zPe_m
  have hD : va_D (fun z => s.heap.size ≤ z) (zest cs o A T S0 S1 S2 S3 xm f xl g xk xn xd xe ++ (zmod cs q A S V xm 1 xam f xl xpl gr ++ [(ou, .inl (cs 2, 1, .inr (.inl (zAL gu))))])) := zD_perm hD zPe_m
  refine lv_istore (lv' := [(6, .int (zI 0)), (5, .int (zI 1)), (4, .int (zI xi)), (3, .ref ou), (2, .ref (q 0)), (1, .ref (o 0 0)), (0, .ref b)]) hx hb dL_law_1118 hl (by decide) rfl (fun ls hl => ?_)
  refine lv_aload_n hx hb dL_law_1120 rfl (lv_at hl 4 rfl) ?_
  refine zc_ri (va_runV (As := []) (rest := []) ⟨hx, hb, hml, hown, hts⟩ (met_X6_thrown l D cs q A S V xm 1 xam f xl xpl gr) (cwV 0 hts gL_law_X6_thrown rfl rfl rfl (by decide +kernel) ⟨(Nat.le_of_ble_eq_true rfl), (Nat.le_of_ble_eq_true rfl)⟩) ⟨zPre.blind, va_recv hK hP (ci := 6) (q0 := 48) rfl rfl, fun U hU hW => zp_R (hP.sub (ws' := zmod cs q A S V xm 1 xam f xl xpl gr) [48, 49, 50, 51, 52, 53] rfl) hK (hD.sub (ws' := zmod cs q A S V xm 1 xam f xl xpl gr) [48, 49, 50, 51, 52, 53] (by decide) rfl) hN hU hW⟩ rfl rfl hl.1 rfl (lv_room (Nat.le_of_ble_eq_true rfl)) dL_law_1121 ⟨by show cells + 1 + 0 + 0 ≤ 601024; omega, by show slots + 6 + 0 + 0 ≤ 7293034; omega⟩) ?_
  refine lv_iload hx hb dL_law_1124 (lv_at hl 1 rfl) ?_
  refine zr_iceq (tgt := 1131) hx hb dL_law_1126 (by decide) ?_
  refine lv_iload hx hb dL_law_1131 (lv_at hl 1 rfl) ?_
  refine zr_if_ne (tgt := 1148) hx hb dL_law_1133 (by decide) (by decide) (fun _ => ?_) (fun h9 => absurd h9 (by decide))
  refine lv_goto (tgt := 1683) hx hb dL_law_1148 (by decide) ?_
  refine W.widen (k := cells + 1) (n := slots + 6) (by show cells + 1 + 0 ≤ cells + 1; omega) (by show slots + 6 + 0 ≤ slots + 6; omega) ?_
  exact kk o q n A T S0 S1 S2 S3 S V xm f xl g xk xn xd xe 1 xam xpl gr gu (by exact hI9) (by omega) H locs hP hD hS ls (lv_sub hl [2, 3, 4, 5, 6] rfl)
/-! the law: anchor -/
set_option maxHeartbeats 8000000 in
set_option maxRecDepth 100000 in
theorem law_anchor {p : Program} {e : Env} {s : State} {m : MethodId} {below : List Frame} {meth : Method} {c : Code} {b L : Nat} {xs : Nat → Int32} {Q : State → Prop} (l : Launch) (hfl : l.stackTraces = false) (D : va_G) (cs : Nat → ClassId) (hx : p.tables.exec = Jvm.exec) (hb : c.code = cL_law) (hml : c.maxLocals = 9) (hown : s.vm.findClass RL = some m.cls) (hts : ∀ w ∈ wsL_law, w.before #[Value.ref b] s = true) (hK : va_K D vwCl (zTy cs) s) (hN : zNW s) (hG : zXG s) (hC : zNcP s) (hO : va_AO RX1 s) (hL : L ≤ 2560) (hXs : va_X b L xs s s.heap) (hbl : b < s.heap.size) (xi : Int) (hxi : 0 ≤ xi ∧ xi + 5 ≤ L) (cells slots : Nat) (hcl : cells + 1 ≤ 601024 ∧ slots + 6 ≤ 7293034) (ou : Nat) (o : Nat → Nat → Nat) (q : Nat → Nat) (n : Int) (A T S0 S1 S2 S3 S V : Int → Int) (xm : Int) (f : Int → Int) (xl : Int) (g : Int → Int) (xk xn xd xe xth xam xpl : Int) (gr gu : Int → Int) (hI9 : zInL n A S0 S1 S2 S3 S xm f xl) (hn9 : 0 ≤ n ∧ n ≤ 1200 * xi) (H : Heap) (locs : List Loc) (hP : va_P D vwCl (zest cs o A T S0 S1 S2 S3 xm f xl g xk xn xd xe ++ (zmod cs q A S V xm xth xam f xl xpl gr ++ [(ou, .inl (cs 2, 1, .inr (.inl (zAL gu))))])) H) (hD : va_D (fun z => s.heap.size ≤ z) (zest cs o A T S0 S1 S2 S3 xm f xl g xk xn xd xe ++ (zmod cs q A S V xm xth xam f xl xpl gr ++ [(ou, .inl (cs 2, 1, .inr (.inl (zAL gu))))]))) (hS : va_S (fun z => s.heap.size ≤ z) s.heap H locs) (ls : Array Slot) (hl : lv_has ls 9 [(4, .int (zI xi)), (3, .ref ou), (2, .ref (q 0)), (1, .ref (o 0 0)), (0, .ref b)]) (kk : ∀ (o : Nat → Nat → Nat) (q : Nat → Nat) (n : Int) (A T S0 S1 S2 S3 S V : Int → Int) (xm : Int) (f : Int → Int) (xl : Int) (g : Int → Int) (xk xn xd xe xth xam xpl : Int) (gr gu : Int → Int), zInL n A S0 S1 S2 S3 S xm f xl → (0 ≤ n ∧ n ≤ 1200 * (xi + 5)) → ∀ (H : Heap) (locs : List Loc), va_P D vwCl (zest cs o A T S0 S1 S2 S3 xm f xl g xk xn xd xe ++ (zmod cs q A S V xm xth xam f xl xpl gr ++ [(ou, .inl (cs 2, 1, .inr (.inl (zAL gu))))])) H → va_D (fun z => s.heap.size ≤ z) (zest cs o A T S0 S1 S2 S3 xm f xl g xk xn xd xe ++ (zmod cs q A S V xm xth xam f xl xpl gr ++ [(ou, .inl (cs 2, 1, .inr (.inl (zAL gu))))])) → va_S (fun z => s.heap.size ≤ z) s.heap H locs → ∀ ls : Array Slot, lv_has ls 9 [(4, .int (zI xi)), (3, .ref ou), (2, .ref (q 0)), (1, .ref (o 0 0)), (0, .ref b)] → W p l e room_1 s m #[Value.ref b] below meth c H locs (cells + 1) (slots + 6) Q (F0 m 1683 ls [])) : W p l e room_1 s m #[Value.ref b] below meth c H locs cells slots Q (F0 m 1164 ls []) := by
  have hcl1 := hcl.1
  have hcl2 := hcl.2
  have hA : ∀ z : Nat, s.heap.size ≤ z → s.heap.size ≤ z := fun _ h => h
  have hbA : ¬ (s.heap.size ≤ b) := Nat.not_le.mpr hbl
  have hr1 := zX_r xs (xi + 1)
  have hr2 := zX_r xs (xi + 2)
  by_cases hc9 : (0 ≤ (zX xs (xi + 1)) ∧ (zX xs (xi + 1)) < A 52) ∧ 0 ≤ (zX xs (xi + 2)) ∧ (zX xs (xi + 2)) ≤ 3
  · refine lv_aload_n hx hb dL_law_1164 rfl (lv_at hl 3 rfl) ?_
    refine lv_aload_n hx hb dL_law_1165 rfl (lv_at hl 4 rfl) ?_
    refine lv_iload hx hb dL_law_1166 (lv_at hl 0 rfl) ?_
    refine zr_iconst hx hb dL_law_1168 ?_
    refine zr_iadd hx hb dL_law_1169 ?_
    refine zr_sls hx hb hXs hbl hbA hS hL (by omega) dL_law_1170 ?_
    refine lv_aload_n hx hb dL_law_1171 rfl (lv_at hl 4 rfl) ?_
    refine lv_iload hx hb dL_law_1172 (lv_at hl 0 rfl) ?_
    refine zr_iconst hx hb dL_law_1174 ?_
    refine zr_iadd hx hb dL_law_1175 ?_
    refine zr_sls hx hb hXs hbl hbA hS hL (by omega) dL_law_1176 ?_
    refine lv_aload_n hx hb dL_law_1177 rfl (lv_at hl 1 rfl) ?_
    refine zc_xi (w := [((o 0) 0, .inr (5, [.ref ((o 1) 0), .ref ((o 2) 0), .ref ((o 3) 0), .ref ((o 8) 0)]))] ++ (zbat cs (o 1) A ++ [(ou, .inl (cs 2, 1, .inr (.inl (zAL gu))))])) (wr := zbat cs (o 2) T ++ ([(o 3 0, .inr (3, [.ref (o 3 1), .int (zI xm)])), (o 3 1, .inl (cs 3, 4, .inr (.inr (.inr (.inr (zR (o 4 0) (o 5 0) (o 6 0) (o 7 0)))))))] ++ (zbat cs (o 4) S0 ++ (zbat cs (o 5) S1 ++ (zbat cs (o 6) S2 ++ (zbat cs (o 7) S3 ++ (ztxt cs (o 8) f xl g xk xn xd xe ++ (zmod cs q A S V xm xth xam f xl xpl gr)))))))) (vx_runSX (As := [.ref (o 0 0), .int (zI (zX xs (xi + 1))), .int (zI (zX xs (xi + 2))), .ref ou]) (rest := []) ⟨hx, hb, hml, hown, hts⟩ (met_L_anchor_ok l D cs o ou gu H.size A n (zX xs (xi + 1)) (zX xs (xi + 2)) (by exact hI9.1) (by omega) (zX_r xs _) (zX_r xs _) hc9) (vx_cwSW 4 hts gL_law_L_anchor rfl rfl rfl (by decide +kernel) ⟨(Nat.le_of_ble_eq_true rfl), (Nat.le_of_ble_eq_true rfl)⟩) ⟨zPreZ.blind, fun U hU hW => zp_Z (hP.sub (ws' := [((o 0) 0, .inr (5, [.ref ((o 1) 0), .ref ((o 2) 0), .ref ((o 3) 0), .ref ((o 8) 0)]))] ++ (zbat cs (o 1) A ++ [(ou, .inl (cs 2, 1, .inr (.inl (zAL gu))))])) [0, 1, 2, 3, 4, 5, 6, 7, 54] rfl) hK (hD.sub (ws' := [((o 0) 0, .inr (5, [.ref ((o 1) 0), .ref ((o 2) 0), .ref ((o 3) 0), .ref ((o 8) 0)]))] ++ (zbat cs (o 1) A ++ [(ou, .inl (cs 2, 1, .inr (.inl (zAL gu))))])) [0, 1, 2, 3, 4, 5, 6, 7, 54] (by decide) rfl) hN hU hW⟩ rfl rfl hl.1 rfl (lv_room (Nat.le_of_ble_eq_true rfl)) dL_law_1178 ⟨by show cells + 0 ≤ 601024; omega, by show slots + 0 ≤ 7293034; omega⟩) hS hP hD hA [0, 1, 2, 3, 4, 5, 6, 7, 54] [8, 9, 10, 11, 12, 13, 14, 15, 16, 17, 18, 19, 20, 21, 22, 23, 24, 25, 26, 27, 28, 29, 30, 31, 32, 33, 34, 35, 36, 37, 38, 39, 40, 41, 42, 43, 44, 45, 46, 47, 48, 49, 50, 51, 52, 53] rfl rfl (by decide) (by decide) (fun H locs hP hD hS => ?_)
    have hP : va_P D vwCl (zest cs o A T S0 S1 S2 S3 xm f xl g xk xn xd xe ++ (zmod cs q A S V xm xth xam f xl xpl gr ++ [(ou, .inl (cs 2, 1, .inr (.inl (zAL (zU gu 0 (zW (A (53 + (4 * (zX xs (xi + 1)) + (zX xs (xi + 2)))))))))))])) H := zP_perm hP zPe_B
    have hD : va_D (fun z => s.heap.size ≤ z) (zest cs o A T S0 S1 S2 S3 xm f xl g xk xn xd xe ++ (zmod cs q A S V xm xth xam f xl xpl gr ++ [(ou, .inl (cs 2, 1, .inr (.inl (zAL (zU gu 0 (zW (A (53 + (4 * (zX xs (xi + 1)) + (zX xs (xi + 2)))))))))))])) := zD_perm hD zPe_B
    refine lv_istore (lv' := [(5, .int (zI 0)), (4, .int (zI xi)), (3, .ref ou), (2, .ref (q 0)), (1, .ref (o 0 0)), (0, .ref b)]) hx hb dL_law_1181 hl (by decide) rfl (fun ls hl => ?_)
    refine lv_aload_n hx hb dL_law_1183 rfl (lv_at hl 3 rfl) ?_
    refine lv_aload_n hx hb dL_law_1184 rfl (lv_at hl 5 rfl) ?_
    refine lv_iload hx hb dL_law_1185 (lv_at hl 1 rfl) ?_
    refine zr_iconst hx hb dL_law_1187 ?_
    refine zr_iadd hx hb dL_law_1188 ?_
    refine zr_sls hx hb hXs hbl hbA hS hL (by omega) dL_law_1189 ?_
    refine lv_aload_n hx hb dL_law_1190 rfl (lv_at hl 5 rfl) ?_
    refine lv_iload hx hb dL_law_1191 (lv_at hl 1 rfl) ?_
    refine zr_iconst hx hb dL_law_1193 ?_
    refine zr_iadd hx hb dL_law_1194 ?_
    refine zr_sls hx hb hXs hbl hbA hS hL (by omega) dL_law_1195 ?_
    refine zc_ij (w := zmod cs q A S V xm xth xam f xl xpl gr) (wr := zest cs o A T S0 S1 S2 S3 xm f xl g xk xn xd xe ++ [(ou, .inl (cs 2, 1, .inr (.inl (zAL (zU gu 0 (zW (A (53 + (4 * (zX xs (xi + 1)) + (zX xs (xi + 2)))))))))))]) (va_runV (As := [.int (zI (zX xs (xi + 1))), .int (zI (zX xs (xi + 2)))]) (rest := []) ⟨hx, hb, hml, hown, hts⟩ (met_X6_anchor_ok l D cs q H.size A S V xm xth xam f xl xpl gr n (zX xs (xi + 1)) (zX xs (xi + 2)) (by exact hI9.1) (by omega) (zX_r xs _) (zX_r xs _) hc9) (cwV 2 hts gL_law_X6_anchor rfl rfl rfl (by decide +kernel) ⟨(Nat.le_of_ble_eq_true rfl), (Nat.le_of_ble_eq_true rfl)⟩) ⟨zPreZ.blind, va_recv hK hP (ci := 6) (q0 := 48) rfl rfl, fun U hU hW => zp_Z (hP.sub (ws' := zmod cs q A S V xm xth xam f xl xpl gr) [48, 49, 50, 51, 52, 53] rfl) hK (hD.sub (ws' := zmod cs q A S V xm xth xam f xl xpl gr) [48, 49, 50, 51, 52, 53] (by decide) rfl) hN hU hW⟩ rfl rfl hl.1 rfl (lv_room (Nat.le_of_ble_eq_true rfl)) dL_law_1196 ⟨by show cells + 0 + 0 ≤ 601024; omega, by show slots + 0 + 0 ≤ 7293034; omega⟩) hS hP hD hA [48, 49, 50, 51, 52, 53] [0, 1, 2, 3, 4, 5, 6, 7, 8, 9, 10, 11, 12, 13, 14, 15, 16, 17, 18, 19, 20, 21, 22, 23, 24, 25, 26, 27, 28, 29, 30, 31, 32, 33, 34, 35, 36, 37, 38, 39, 40, 41, 42, 43, 44, 45, 46, 47, 54] rfl rfl (by decide) (by decide) (fun H locs hP hD hS => ?_)
    have hP : va_P D vwCl (zest cs o A T S0 S1 S2 S3 xm f xl g xk xn xd xe ++ (zmod cs q A S V xm 0 xam f xl xpl gr ++ [(ou, .inl (cs 2, 1, .inr (.inl (zAL (zU gu 0 (zW (A (53 + (4 * (zX xs (xi + 1)) + (zX xs (xi + 2)))))))))))])) H := zP_perm hP zPe_m
    have hD : va_D (fun z => s.heap.size ≤ z) (zest cs o A T S0 S1 S2 S3 xm f xl g xk xn xd xe ++ (zmod cs q A S V xm 0 xam f xl xpl gr ++ [(ou, .inl (cs 2, 1, .inr (.inl (zAL (zU gu 0 (zW (A (53 + (4 * (zX xs (xi + 1)) + (zX xs (xi + 2)))))))))))])) := zD_perm hD zPe_m
    refine lv_istore (lv' := [(6, .int (zI (A (53 + (4 * (zX xs (xi + 1)) + (zX xs (xi + 2))))))), (5, .int (zI 0)), (4, .int (zI xi)), (3, .ref ou), (2, .ref (q 0)), (1, .ref (o 0 0)), (0, .ref b)]) hx hb dL_law_1199 hl (by decide) rfl (fun ls hl => ?_)
    refine lv_aload_n hx hb dL_law_1201 rfl (lv_at hl 4 rfl) ?_
    refine zc_ri (va_runV (As := []) (rest := []) ⟨hx, hb, hml, hown, hts⟩ (met_X6_thrown l D cs q A S V xm 0 xam f xl xpl gr) (cwV 0 hts gL_law_X6_thrown rfl rfl rfl (by decide +kernel) ⟨(Nat.le_of_ble_eq_true rfl), (Nat.le_of_ble_eq_true rfl)⟩) ⟨zPre.blind, va_recv hK hP (ci := 6) (q0 := 48) rfl rfl, fun U hU hW => zp_R (hP.sub (ws' := zmod cs q A S V xm 0 xam f xl xpl gr) [48, 49, 50, 51, 52, 53] rfl) hK (hD.sub (ws' := zmod cs q A S V xm 0 xam f xl xpl gr) [48, 49, 50, 51, 52, 53] (by decide) rfl) hN hU hW⟩ rfl rfl hl.1 rfl (lv_room (Nat.le_of_ble_eq_true rfl)) dL_law_1202 ⟨by show cells + 0 + 0 + 0 ≤ 601024; omega, by show slots + 0 + 0 + 0 ≤ 7293034; omega⟩) ?_
    refine lv_iload hx hb dL_law_1205 (lv_at hl 1 rfl) ?_
    refine zr_iceq (tgt := 1212) hx hb dL_law_1207 (by decide) ?_
    refine lv_iload hx hb dL_law_1212 (lv_at hl 1 rfl) ?_
    refine zr_if_ne (tgt := 1229) hx hb dL_law_1214 (by decide) (by decide) (fun h9 => absurd h9 (by decide)) (fun _ => ?_)
    refine lv_aload_n hx hb dL_law_1217 rfl (lv_at hl 3 rfl) ?_
    refine zr_iconst hx hb dL_law_1218 ?_
    refine zr_lald (D := D) (g := zU gu 0 (zW (A (53 + (4 * (zX xs (xi + 1)) + (zX xs (xi + 2))))))) hx hb hK hP 54 2 rfl rfl (by decide) (by decide) dL_law_1219 ?_
    rw [show (zU gu 0 (zW (A (53 + (4 * (zX xs (xi + 1)) + (zX xs (xi + 2))))))) 0 = zW (A (53 + (4 * (zX xs (xi + 1)) + (zX xs (xi + 2))))) from rfl]
    refine lv_iload hx hb dL_law_1220 (lv_at hl 0 rfl) ?_
    refine lv_i2l hx hb dL_law_1222 (zW_l (A (53 + (4 * (zX xs (xi + 1)) + (zX xs (xi + 2)))))) ?_
    refine zr_lceq (tgt := 1229) hx hb dL_law_1223 dL_law_1224 (by decide) ?_
    refine lv_goto (tgt := 1683) hx hb dL_law_1229 (by decide) ?_
    refine W.widen (k := cells + 1) (n := slots + 6) (by show cells + 0 + 0 ≤ cells + 1; omega) (by show slots + 0 + 0 ≤ slots + 6; omega) ?_
    exact kk o q n A T S0 S1 S2 S3 S V xm f xl g xk xn xd xe 0 xam xpl gr (zU gu 0 (zW (A (53 + (4 * (zX xs (xi + 1)) + (zX xs (xi + 2))))))) (by exact hI9) (by omega) H locs hP hD hS ls (lv_sub hl [2, 3, 4, 5, 6] rfl)
  have hcA := hc9
  by_cases hc9 : ¬ (0 ≤ (zX xs (xi + 1)) ∧ (zX xs (xi + 1)) < A 52)
  · refine lv_aload_n hx hb dL_law_1164 rfl (lv_at hl 3 rfl) ?_
    refine lv_aload_n hx hb dL_law_1165 rfl (lv_at hl 4 rfl) ?_
    refine lv_iload hx hb dL_law_1166 (lv_at hl 0 rfl) ?_
    refine zr_iconst hx hb dL_law_1168 ?_
    refine zr_iadd hx hb dL_law_1169 ?_
    refine zr_sls hx hb hXs hbl hbA hS hL (by omega) dL_law_1170 ?_
    refine lv_aload_n hx hb dL_law_1171 rfl (lv_at hl 4 rfl) ?_
    refine lv_iload hx hb dL_law_1172 (lv_at hl 0 rfl) ?_
    refine zr_iconst hx hb dL_law_1174 ?_
    refine zr_iadd hx hb dL_law_1175 ?_
    refine zr_sls hx hb hXs hbl hbA hS hL (by omega) dL_law_1176 ?_
    refine lv_aload_n hx hb dL_law_1177 rfl (lv_at hl 1 rfl) ?_
    refine zc_xk (vx_runSX (As := [.ref (o 0 0), .int (zI (zX xs (xi + 1))), .int (zI (zX xs (xi + 2))), .ref ou]) (rest := []) ⟨hx, hb, hml, hown, hts⟩ (met_L_anchor_x1 l hfl D cs o ou gu A n (zX xs (xi + 1)) (zX xs (xi + 2)) (by exact hI9.1) (by omega) (zX_r xs _) (zX_r xs _) hc9) (vx_cwSW 4 hts gL_law_L_anchor rfl rfl rfl (by decide +kernel) ⟨(Nat.le_of_ble_eq_true rfl), (Nat.le_of_ble_eq_true rfl)⟩) ⟨zPreU.blind, fun U hU hW => zp_U (hP.sub (ws' := [((o 0) 0, .inr (5, [.ref ((o 1) 0), .ref ((o 2) 0), .ref ((o 3) 0), .ref ((o 8) 0)]))] ++ (zbat cs (o 1) A ++ [(ou, .inl (cs 2, 1, .inr (.inl (zAL gu))))])) [0, 1, 2, 3, 4, 5, 6, 7, 54] rfl) hK (hD.sub (ws' := [((o 0) 0, .inr (5, [.ref ((o 1) 0), .ref ((o 2) 0), .ref ((o 3) 0), .ref ((o 8) 0)]))] ++ (zbat cs (o 1) A ++ [(ou, .inl (cs 2, 1, .inr (.inl (zAL gu))))])) [0, 1, 2, 3, 4, 5, 6, 7, 54] (by decide) rfl) hN (hG.at hS) hC hU hW⟩ rfl rfl hl.1 rfl (lv_room (Nat.le_of_ble_eq_true rfl)) dL_law_1178 ⟨by show cells + 1 ≤ 601024; omega, by show slots + 6 ≤ 7293034; omega⟩) hS hP (fun H locs hP hS => ?_)
    refine lv_istore (lv' := [(5, .int (zI 1)), (4, .int (zI xi)), (3, .ref ou), (2, .ref (q 0)), (1, .ref (o 0 0)), (0, .ref b)]) hx hb dL_law_1181 hl (by decide) rfl (fun ls hl => ?_)
    refine lv_aload_n hx hb dL_law_1183 rfl (lv_at hl 3 rfl) ?_
    refine lv_aload_n hx hb dL_law_1184 rfl (lv_at hl 5 rfl) ?_
    refine lv_iload hx hb dL_law_1185 (lv_at hl 1 rfl) ?_
    refine zr_iconst hx hb dL_law_1187 ?_
    refine zr_iadd hx hb dL_law_1188 ?_
    refine zr_sls hx hb hXs hbl hbA hS hL (by omega) dL_law_1189 ?_
    refine lv_aload_n hx hb dL_law_1190 rfl (lv_at hl 5 rfl) ?_
    refine lv_iload hx hb dL_law_1191 (lv_at hl 1 rfl) ?_
    refine zr_iconst hx hb dL_law_1193 ?_
    refine zr_iadd hx hb dL_law_1194 ?_
    refine zr_sls hx hb hXs hbl hbA hS hL (by omega) dL_law_1195 ?_
    refine zc_ij (w := zmod cs q A S V xm xth xam f xl xpl gr) (wr := zest cs o A T S0 S1 S2 S3 xm f xl g xk xn xd xe ++ [(ou, .inl (cs 2, 1, .inr (.inl (zAL gu))))]) (va_runV (As := [.int (zI (zX xs (xi + 1))), .int (zI (zX xs (xi + 2)))]) (rest := []) ⟨hx, hb, hml, hown, hts⟩ (met_X6_anchor_no1 l D cs q H.size A S V xm xth xam f xl xpl gr n (zX xs (xi + 1)) (zX xs (xi + 2)) (by exact hI9.1) (by omega) (zX_r xs _) (zX_r xs _) hc9) (cwV 2 hts gL_law_X6_anchor rfl rfl rfl (by decide +kernel) ⟨(Nat.le_of_ble_eq_true rfl), (Nat.le_of_ble_eq_true rfl)⟩) ⟨zPreZ.blind, va_recv hK hP (ci := 6) (q0 := 48) rfl rfl, fun U hU hW => zp_Z (hP.sub (ws' := zmod cs q A S V xm xth xam f xl xpl gr) [48, 49, 50, 51, 52, 53] rfl) hK (hD.sub (ws' := zmod cs q A S V xm xth xam f xl xpl gr) [48, 49, 50, 51, 52, 53] (by decide) rfl) hN hU hW⟩ rfl rfl hl.1 rfl (lv_room (Nat.le_of_ble_eq_true rfl)) dL_law_1196 ⟨by show cells + 1 + 0 ≤ 601024; omega, by show slots + 6 + 0 ≤ 7293034; omega⟩) hS hP hD hA [48, 49, 50, 51, 52, 53] [0, 1, 2, 3, 4, 5, 6, 7, 8, 9, 10, 11, 12, 13, 14, 15, 16, 17, 18, 19, 20, 21, 22, 23, 24, 25, 26, 27, 28, 29, 30, 31, 32, 33, 34, 35, 36, 37, 38, 39, 40, 41, 42, 43, 44, 45, 46, 47, 54] rfl rfl (by decide) (by decide) (fun H locs hP hD hS => ?_)
    have hP : va_P D vwCl (zest cs o A T S0 S1 S2 S3 xm f xl g xk xn xd xe ++ (zmod cs q A S V xm 1 xam f xl xpl gr ++ [(ou, .inl (cs 2, 1, .inr (.inl (zAL gu))))])) H := zP_perm hP zPe_m
    have hD : va_D (fun z => s.heap.size ≤ z) (zest cs o A T S0 S1 S2 S3 xm f xl g xk xn xd xe ++ (zmod cs q A S V xm 1 xam f xl xpl gr ++ [(ou, .inl (cs 2, 1, .inr (.inl (zAL gu))))])) := zD_perm hD zPe_m
    refine lv_istore (lv' := [(6, .int (zI 0)), (5, .int (zI 1)), (4, .int (zI xi)), (3, .ref ou), (2, .ref (q 0)), (1, .ref (o 0 0)), (0, .ref b)]) hx hb dL_law_1199 hl (by decide) rfl (fun ls hl => ?_)
    refine lv_aload_n hx hb dL_law_1201 rfl (lv_at hl 4 rfl) ?_
    refine zc_ri (va_runV (As := []) (rest := []) ⟨hx, hb, hml, hown, hts⟩ (met_X6_thrown l D cs q A S V xm 1 xam f xl xpl gr) (cwV 0 hts gL_law_X6_thrown rfl rfl rfl (by decide +kernel) ⟨(Nat.le_of_ble_eq_true rfl), (Nat.le_of_ble_eq_true rfl)⟩) ⟨zPre.blind, va_recv hK hP (ci := 6) (q0 := 48) rfl rfl, fun U hU hW => zp_R (hP.sub (ws' := zmod cs q A S V xm 1 xam f xl xpl gr) [48, 49, 50, 51, 52, 53] rfl) hK (hD.sub (ws' := zmod cs q A S V xm 1 xam f xl xpl gr) [48, 49, 50, 51, 52, 53] (by decide) rfl) hN hU hW⟩ rfl rfl hl.1 rfl (lv_room (Nat.le_of_ble_eq_true rfl)) dL_law_1202 ⟨by show cells + 1 + 0 + 0 ≤ 601024; omega, by show slots + 6 + 0 + 0 ≤ 7293034; omega⟩) ?_
    refine lv_iload hx hb dL_law_1205 (lv_at hl 1 rfl) ?_
    refine zr_iceq (tgt := 1212) hx hb dL_law_1207 (by decide) ?_
    refine lv_iload hx hb dL_law_1212 (lv_at hl 1 rfl) ?_
    refine zr_if_ne (tgt := 1229) hx hb dL_law_1214 (by decide) (by decide) (fun _ => ?_) (fun h9 => absurd h9 (by decide))
    refine lv_goto (tgt := 1683) hx hb dL_law_1229 (by decide) ?_
    refine W.widen (k := cells + 1) (n := slots + 6) (by show cells + 1 + 0 ≤ cells + 1; omega) (by show slots + 6 + 0 ≤ slots + 6; omega) ?_
    exact kk o q n A T S0 S1 S2 S3 S V xm f xl g xk xn xd xe 1 xam xpl gr gu (by exact hI9) (by omega) H locs hP hD hS ls (lv_sub hl [2, 3, 4, 5, 6] rfl)
  have hcB := hc9
  have hc9 : (0 ≤ (zX xs (xi + 1)) ∧ (zX xs (xi + 1)) < A 52) ∧ ¬ (0 ≤ (zX xs (xi + 2)) ∧ (zX xs (xi + 2)) ≤ 3) := ⟨Decidable.not_not.mp hcB, fun h => hcA ⟨Decidable.not_not.mp hcB, h⟩⟩
  refine lv_aload_n hx hb dL_law_1164 rfl (lv_at hl 3 rfl) ?_
  refine lv_aload_n hx hb dL_law_1165 rfl (lv_at hl 4 rfl) ?_
  refine lv_iload hx hb dL_law_1166 (lv_at hl 0 rfl) ?_
  refine zr_iconst hx hb dL_law_1168 ?_
  refine zr_iadd hx hb dL_law_1169 ?_
  refine zr_sls hx hb hXs hbl hbA hS hL (by omega) dL_law_1170 ?_
  refine lv_aload_n hx hb dL_law_1171 rfl (lv_at hl 4 rfl) ?_
  refine lv_iload hx hb dL_law_1172 (lv_at hl 0 rfl) ?_
  refine zr_iconst hx hb dL_law_1174 ?_
  refine zr_iadd hx hb dL_law_1175 ?_
  refine zr_sls hx hb hXs hbl hbA hS hL (by omega) dL_law_1176 ?_
  refine lv_aload_n hx hb dL_law_1177 rfl (lv_at hl 1 rfl) ?_
  refine zc_xk (vx_runSX (As := [.ref (o 0 0), .int (zI (zX xs (xi + 1))), .int (zI (zX xs (xi + 2))), .ref ou]) (rest := []) ⟨hx, hb, hml, hown, hts⟩ (met_L_anchor_x2 l hfl D cs o ou gu A n (zX xs (xi + 1)) (zX xs (xi + 2)) (by exact hI9.1) (by omega) (zX_r xs _) (zX_r xs _) hc9) (vx_cwSW 4 hts gL_law_L_anchor rfl rfl rfl (by decide +kernel) ⟨(Nat.le_of_ble_eq_true rfl), (Nat.le_of_ble_eq_true rfl)⟩) ⟨zPreU.blind, fun U hU hW => zp_U (hP.sub (ws' := [((o 0) 0, .inr (5, [.ref ((o 1) 0), .ref ((o 2) 0), .ref ((o 3) 0), .ref ((o 8) 0)]))] ++ (zbat cs (o 1) A ++ [(ou, .inl (cs 2, 1, .inr (.inl (zAL gu))))])) [0, 1, 2, 3, 4, 5, 6, 7, 54] rfl) hK (hD.sub (ws' := [((o 0) 0, .inr (5, [.ref ((o 1) 0), .ref ((o 2) 0), .ref ((o 3) 0), .ref ((o 8) 0)]))] ++ (zbat cs (o 1) A ++ [(ou, .inl (cs 2, 1, .inr (.inl (zAL gu))))])) [0, 1, 2, 3, 4, 5, 6, 7, 54] (by decide) rfl) hN (hG.at hS) hC hU hW⟩ rfl rfl hl.1 rfl (lv_room (Nat.le_of_ble_eq_true rfl)) dL_law_1178 ⟨by show cells + 1 ≤ 601024; omega, by show slots + 6 ≤ 7293034; omega⟩) hS hP (fun H locs hP hS => ?_)
  refine lv_istore (lv' := [(5, .int (zI 2)), (4, .int (zI xi)), (3, .ref ou), (2, .ref (q 0)), (1, .ref (o 0 0)), (0, .ref b)]) hx hb dL_law_1181 hl (by decide) rfl (fun ls hl => ?_)
  refine lv_aload_n hx hb dL_law_1183 rfl (lv_at hl 3 rfl) ?_
  refine lv_aload_n hx hb dL_law_1184 rfl (lv_at hl 5 rfl) ?_
  refine lv_iload hx hb dL_law_1185 (lv_at hl 1 rfl) ?_
  refine zr_iconst hx hb dL_law_1187 ?_
  refine zr_iadd hx hb dL_law_1188 ?_
  refine zr_sls hx hb hXs hbl hbA hS hL (by omega) dL_law_1189 ?_
  refine lv_aload_n hx hb dL_law_1190 rfl (lv_at hl 5 rfl) ?_
  refine lv_iload hx hb dL_law_1191 (lv_at hl 1 rfl) ?_
  refine zr_iconst hx hb dL_law_1193 ?_
  refine zr_iadd hx hb dL_law_1194 ?_
  refine zr_sls hx hb hXs hbl hbA hS hL (by omega) dL_law_1195 ?_
  refine zc_ij (w := zmod cs q A S V xm xth xam f xl xpl gr) (wr := zest cs o A T S0 S1 S2 S3 xm f xl g xk xn xd xe ++ [(ou, .inl (cs 2, 1, .inr (.inl (zAL gu))))]) (va_runV (As := [.int (zI (zX xs (xi + 1))), .int (zI (zX xs (xi + 2)))]) (rest := []) ⟨hx, hb, hml, hown, hts⟩ (met_X6_anchor_no2 l D cs q H.size A S V xm xth xam f xl xpl gr n (zX xs (xi + 1)) (zX xs (xi + 2)) (by exact hI9.1) (by omega) (zX_r xs _) (zX_r xs _) hc9) (cwV 2 hts gL_law_X6_anchor rfl rfl rfl (by decide +kernel) ⟨(Nat.le_of_ble_eq_true rfl), (Nat.le_of_ble_eq_true rfl)⟩) ⟨zPreZ.blind, va_recv hK hP (ci := 6) (q0 := 48) rfl rfl, fun U hU hW => zp_Z (hP.sub (ws' := zmod cs q A S V xm xth xam f xl xpl gr) [48, 49, 50, 51, 52, 53] rfl) hK (hD.sub (ws' := zmod cs q A S V xm xth xam f xl xpl gr) [48, 49, 50, 51, 52, 53] (by decide) rfl) hN hU hW⟩ rfl rfl hl.1 rfl (lv_room (Nat.le_of_ble_eq_true rfl)) dL_law_1196 ⟨by show cells + 1 + 0 ≤ 601024; omega, by show slots + 6 + 0 ≤ 7293034; omega⟩) hS hP hD hA [48, 49, 50, 51, 52, 53] [0, 1, 2, 3, 4, 5, 6, 7, 8, 9, 10, 11, 12, 13, 14, 15, 16, 17, 18, 19, 20, 21, 22, 23, 24, 25, 26, 27, 28, 29, 30, 31, 32, 33, 34, 35, 36, 37, 38, 39, 40, 41, 42, 43, 44, 45, 46, 47, 54] rfl rfl (by decide) (by decide) (fun H locs hP hD hS => ?_)
  have hP : va_P D vwCl (zest cs o A T S0 S1 S2 S3 xm f xl g xk xn xd xe ++ (zmod cs q A S V xm 2 xam f xl xpl gr ++ [(ou, .inl (cs 2, 1, .inr (.inl (zAL gu))))])) H := zP_perm hP zPe_m
  have hD : va_D (fun z => s.heap.size ≤ z) (zest cs o A T S0 S1 S2 S3 xm f xl g xk xn xd xe ++ (zmod cs q A S V xm 2 xam f xl xpl gr ++ [(ou, .inl (cs 2, 1, .inr (.inl (zAL gu))))])) := zD_perm hD zPe_m
  refine lv_istore (lv' := [(6, .int (zI 0)), (5, .int (zI 2)), (4, .int (zI xi)), (3, .ref ou), (2, .ref (q 0)), (1, .ref (o 0 0)), (0, .ref b)]) hx hb dL_law_1199 hl (by decide) rfl (fun ls hl => ?_)
  refine lv_aload_n hx hb dL_law_1201 rfl (lv_at hl 4 rfl) ?_
  refine zc_ri (va_runV (As := []) (rest := []) ⟨hx, hb, hml, hown, hts⟩ (met_X6_thrown l D cs q A S V xm 2 xam f xl xpl gr) (cwV 0 hts gL_law_X6_thrown rfl rfl rfl (by decide +kernel) ⟨(Nat.le_of_ble_eq_true rfl), (Nat.le_of_ble_eq_true rfl)⟩) ⟨zPre.blind, va_recv hK hP (ci := 6) (q0 := 48) rfl rfl, fun U hU hW => zp_R (hP.sub (ws' := zmod cs q A S V xm 2 xam f xl xpl gr) [48, 49, 50, 51, 52, 53] rfl) hK (hD.sub (ws' := zmod cs q A S V xm 2 xam f xl xpl gr) [48, 49, 50, 51, 52, 53] (by decide) rfl) hN hU hW⟩ rfl rfl hl.1 rfl (lv_room (Nat.le_of_ble_eq_true rfl)) dL_law_1202 ⟨by show cells + 1 + 0 + 0 ≤ 601024; omega, by show slots + 6 + 0 + 0 ≤ 7293034; omega⟩) ?_
  refine lv_iload hx hb dL_law_1205 (lv_at hl 1 rfl) ?_
  refine zr_iceq (tgt := 1212) hx hb dL_law_1207 (by decide) ?_
  refine lv_iload hx hb dL_law_1212 (lv_at hl 1 rfl) ?_
  refine zr_if_ne (tgt := 1229) hx hb dL_law_1214 (by decide) (by decide) (fun _ => ?_) (fun h9 => absurd h9 (by decide))
  refine lv_goto (tgt := 1683) hx hb dL_law_1229 (by decide) ?_
  refine W.widen (k := cells + 1) (n := slots + 6) (by show cells + 1 + 0 ≤ cells + 1; omega) (by show slots + 6 + 0 ≤ slots + 6; omega) ?_
  exact kk o q n A T S0 S1 S2 S3 S V xm f xl g xk xn xd xe 2 xam xpl gr gu (by exact hI9) (by omega) H locs hP hD hS ls (lv_sub hl [2, 3, 4, 5, 6] rfl)
/-! the law: boundAfter -/
set_option maxHeartbeats 8000000 in
set_option maxRecDepth 100000 in
theorem law_boundAfter {p : Program} {e : Env} {s : State} {m : MethodId} {below : List Frame} {meth : Method} {c : Code} {b L : Nat} {xs : Nat → Int32} {Q : State → Prop} (l : Launch) (hfl : l.stackTraces = false) (D : va_G) (cs : Nat → ClassId) (hx : p.tables.exec = Jvm.exec) (hb : c.code = cL_law) (hml : c.maxLocals = 9) (hown : s.vm.findClass RL = some m.cls) (hts : ∀ w ∈ wsL_law, w.before #[Value.ref b] s = true) (hK : va_K D vwCl (zTy cs) s) (hN : zNW s) (hG : zXG s) (hC : zNcP s) (hO : va_AO RX1 s) (hL : L ≤ 2560) (hXs : va_X b L xs s s.heap) (hbl : b < s.heap.size) (xi : Int) (hxi : 0 ≤ xi ∧ xi + 5 ≤ L) (cells slots : Nat) (hcl : cells + 1 ≤ 601024 ∧ slots + 6 ≤ 7293034) (ou : Nat) (o : Nat → Nat → Nat) (q : Nat → Nat) (n : Int) (A T S0 S1 S2 S3 S V : Int → Int) (xm : Int) (f : Int → Int) (xl : Int) (g : Int → Int) (xk xn xd xe xth xam xpl : Int) (gr gu : Int → Int) (hI9 : zInL n A S0 S1 S2 S3 S xm f xl) (hn9 : 0 ≤ n ∧ n ≤ 1200 * xi) (H : Heap) (locs : List Loc) (hP : va_P D vwCl (zest cs o A T S0 S1 S2 S3 xm f xl g xk xn xd xe ++ (zmod cs q A S V xm xth xam f xl xpl gr ++ [(ou, .inl (cs 2, 1, .inr (.inl (zAL gu))))])) H) (hD : va_D (fun z => s.heap.size ≤ z) (zest cs o A T S0 S1 S2 S3 xm f xl g xk xn xd xe ++ (zmod cs q A S V xm xth xam f xl xpl gr ++ [(ou, .inl (cs 2, 1, .inr (.inl (zAL gu))))]))) (hS : va_S (fun z => s.heap.size ≤ z) s.heap H locs) (ls : Array Slot) (hl : lv_has ls 9 [(4, .int (zI xi)), (3, .ref ou), (2, .ref (q 0)), (1, .ref (o 0 0)), (0, .ref b)]) (kk : ∀ (o : Nat → Nat → Nat) (q : Nat → Nat) (n : Int) (A T S0 S1 S2 S3 S V : Int → Int) (xm : Int) (f : Int → Int) (xl : Int) (g : Int → Int) (xk xn xd xe xth xam xpl : Int) (gr gu : Int → Int), zInL n A S0 S1 S2 S3 S xm f xl → (0 ≤ n ∧ n ≤ 1200 * (xi + 5)) → ∀ (H : Heap) (locs : List Loc), va_P D vwCl (zest cs o A T S0 S1 S2 S3 xm f xl g xk xn xd xe ++ (zmod cs q A S V xm xth xam f xl xpl gr ++ [(ou, .inl (cs 2, 1, .inr (.inl (zAL gu))))])) H → va_D (fun z => s.heap.size ≤ z) (zest cs o A T S0 S1 S2 S3 xm f xl g xk xn xd xe ++ (zmod cs q A S V xm xth xam f xl xpl gr ++ [(ou, .inl (cs 2, 1, .inr (.inl (zAL gu))))])) → va_S (fun z => s.heap.size ≤ z) s.heap H locs → ∀ ls : Array Slot, lv_has ls 9 [(4, .int (zI xi)), (3, .ref ou), (2, .ref (q 0)), (1, .ref (o 0 0)), (0, .ref b)] → W p l e room_1 s m #[Value.ref b] below meth c H locs (cells + 1) (slots + 6) Q (F0 m 1683 ls [])) : W p l e room_1 s m #[Value.ref b] below meth c H locs cells slots Q (F0 m 1232 ls []) := by
  have hcl1 := hcl.1
  have hcl2 := hcl.2
  have hA : ∀ z : Nat, s.heap.size ≤ z → s.heap.size ≤ z := fun _ h => h
  have hbA : ¬ (s.heap.size ≤ b) := Nat.not_le.mpr hbl
  have hr1 := zX_r xs (xi + 1)
  have hr2 := zX_r xs (xi + 2)
  have hr3 := zX_r xs (xi + 3)
  by_cases htv : zX xs (xi + 3) = 0
  · by_cases hc9 : (-50000 ≤ (zX xs (xi + 1)) ∧ (zX xs (xi + 1)) ≤ 50000) ∧ 0 ≤ (zX xs (xi + 2)) ∧ (zX xs (xi + 2)) ≤ 1000000
    · refine lv_aload_n hx hb dL_law_1232 rfl (lv_at hl 3 rfl) ?_
      refine lv_aload_n hx hb dL_law_1233 rfl (lv_at hl 4 rfl) ?_
      refine lv_iload hx hb dL_law_1234 (lv_at hl 0 rfl) ?_
      refine zr_iconst hx hb dL_law_1236 ?_
      refine zr_iadd hx hb dL_law_1237 ?_
      refine zr_sls hx hb hXs hbl hbA hS hL (by omega) dL_law_1238 ?_
      refine lv_aload_n hx hb dL_law_1239 rfl (lv_at hl 4 rfl) ?_
      refine lv_iload hx hb dL_law_1240 (lv_at hl 0 rfl) ?_
      refine zr_iconst hx hb dL_law_1242 ?_
      refine zr_iadd hx hb dL_law_1243 ?_
      refine zr_sls hx hb hXs hbl hbA hS hL (by omega) dL_law_1244 ?_
      refine lv_aload_n hx hb dL_law_1245 rfl (lv_at hl 4 rfl) ?_
      refine lv_iload hx hb dL_law_1246 (lv_at hl 0 rfl) ?_
      refine zr_iconst hx hb dL_law_1248 ?_
      refine zr_iadd hx hb dL_law_1249 ?_
      refine zr_sls hx hb hXs hbl hbA hS hL (by omega) dL_law_1250 ?_
      refine zr_if_eq (tgt := 1258) hx hb dL_law_1251 (by decide) (by omega) (fun _ => ?_) (fun h9 => absurd htv h9)
      refine zr_iconst hx hb dL_law_1258 ?_
      refine lv_aload_n hx hb dL_law_1259 rfl (lv_at hl 1 rfl) ?_
      refine zc_xi (w := [((o 0) 0, .inr (5, [.ref ((o 1) 0), .ref ((o 2) 0), .ref ((o 3) 0), .ref ((o 8) 0)]))] ++ (zbat cs (o 1) A ++ [(ou, .inl (cs 2, 1, .inr (.inl (zAL gu))))])) (wr := zbat cs (o 2) T ++ ([(o 3 0, .inr (3, [.ref (o 3 1), .int (zI xm)])), (o 3 1, .inl (cs 3, 4, .inr (.inr (.inr (.inr (zR (o 4 0) (o 5 0) (o 6 0) (o 7 0)))))))] ++ (zbat cs (o 4) S0 ++ (zbat cs (o 5) S1 ++ (zbat cs (o 6) S2 ++ (zbat cs (o 7) S3 ++ (ztxt cs (o 8) f xl g xk xn xd xe ++ (zmod cs q A S V xm xth xam f xl xpl gr)))))))) (vx_runSX (As := [.ref (o 0 0), .int (zI (zX xs (xi + 1))), .int (zI (zX xs (xi + 2))), .int (zI (zB (False))), .ref ou]) (rest := []) ⟨hx, hb, hml, hown, hts⟩ (met_L_boundAfter_ok l D cs o ou gu H.size A n (zX xs (xi + 1)) (zX xs (xi + 2)) False (by exact hI9.1) (by omega) (zX_r xs _) (zX_r xs _) hc9) (vx_cwSW 5 hts gL_law_L_boundAfter rfl rfl rfl (by decide +kernel) ⟨(Nat.le_of_ble_eq_true rfl), (Nat.le_of_ble_eq_true rfl)⟩) ⟨zPreZ.blind, fun U hU hW => zp_Z (hP.sub (ws' := [((o 0) 0, .inr (5, [.ref ((o 1) 0), .ref ((o 2) 0), .ref ((o 3) 0), .ref ((o 8) 0)]))] ++ (zbat cs (o 1) A ++ [(ou, .inl (cs 2, 1, .inr (.inl (zAL gu))))])) [0, 1, 2, 3, 4, 5, 6, 7, 54] rfl) hK (hD.sub (ws' := [((o 0) 0, .inr (5, [.ref ((o 1) 0), .ref ((o 2) 0), .ref ((o 3) 0), .ref ((o 8) 0)]))] ++ (zbat cs (o 1) A ++ [(ou, .inl (cs 2, 1, .inr (.inl (zAL gu))))])) [0, 1, 2, 3, 4, 5, 6, 7, 54] (by decide) rfl) hN hU hW⟩ rfl rfl hl.1 rfl (lv_room (Nat.le_of_ble_eq_true rfl)) dL_law_1260 ⟨by show cells + 0 ≤ 601024; omega, by show slots + 0 ≤ 7293034; omega⟩) hS hP hD hA [0, 1, 2, 3, 4, 5, 6, 7, 54] [8, 9, 10, 11, 12, 13, 14, 15, 16, 17, 18, 19, 20, 21, 22, 23, 24, 25, 26, 27, 28, 29, 30, 31, 32, 33, 34, 35, 36, 37, 38, 39, 40, 41, 42, 43, 44, 45, 46, 47, 48, 49, 50, 51, 52, 53] rfl rfl (by decide) (by decide) (fun H locs hP hD hS => ?_)
      have hP : va_P D vwCl (zest cs o A T S0 S1 S2 S3 xm f xl g xk xn xd xe ++ (zmod cs q A S V xm xth xam f xl xpl gr ++ [(ou, .inl (cs 2, 1, .inr (.inl (zAL (zU gu 0 (zBo A (zX xs (xi + 1)) (zX xs (xi + 2)) False))))))])) H := zP_perm hP zPe_B
      have hD : va_D (fun z => s.heap.size ≤ z) (zest cs o A T S0 S1 S2 S3 xm f xl g xk xn xd xe ++ (zmod cs q A S V xm xth xam f xl xpl gr ++ [(ou, .inl (cs 2, 1, .inr (.inl (zAL (zU gu 0 (zBo A (zX xs (xi + 1)) (zX xs (xi + 2)) False))))))])) := zD_perm hD zPe_B
      refine lv_istore (lv' := [(5, .int (zI 0)), (4, .int (zI xi)), (3, .ref ou), (2, .ref (q 0)), (1, .ref (o 0 0)), (0, .ref b)]) hx hb dL_law_1263 hl (by decide) rfl (fun ls hl => ?_)
      refine lv_aload_n hx hb dL_law_1265 rfl (lv_at hl 3 rfl) ?_
      refine lv_aload_n hx hb dL_law_1266 rfl (lv_at hl 5 rfl) ?_
      refine lv_iload hx hb dL_law_1267 (lv_at hl 1 rfl) ?_
      refine zr_iconst hx hb dL_law_1269 ?_
      refine zr_iadd hx hb dL_law_1270 ?_
      refine zr_sls hx hb hXs hbl hbA hS hL (by omega) dL_law_1271 ?_
      refine lv_aload_n hx hb dL_law_1272 rfl (lv_at hl 5 rfl) ?_
      refine lv_iload hx hb dL_law_1273 (lv_at hl 1 rfl) ?_
      refine zr_iconst hx hb dL_law_1275 ?_
      refine zr_iadd hx hb dL_law_1276 ?_
      refine zr_sls hx hb hXs hbl hbA hS hL (by omega) dL_law_1277 ?_
      refine lv_aload_n hx hb dL_law_1278 rfl (lv_at hl 5 rfl) ?_
      refine lv_iload hx hb dL_law_1279 (lv_at hl 1 rfl) ?_
      refine zr_iconst hx hb dL_law_1281 ?_
      refine zr_iadd hx hb dL_law_1282 ?_
      refine zr_sls hx hb hXs hbl hbA hS hL (by omega) dL_law_1283 ?_
      refine zr_if_eq (tgt := 1291) hx hb dL_law_1284 (by decide) (by omega) (fun _ => ?_) (fun h9 => absurd htv h9)
      refine zr_iconst hx hb dL_law_1291 ?_
      refine zc_lj (w := zmod cs q A S V xm xth xam f xl xpl gr) (wr := zest cs o A T S0 S1 S2 S3 xm f xl g xk xn xd xe ++ [(ou, .inl (cs 2, 1, .inr (.inl (zAL (zU gu 0 (zBo A (zX xs (xi + 1)) (zX xs (xi + 2)) False))))))]) (va_runV (As := [.int (zI (zX xs (xi + 1))), .int (zI (zX xs (xi + 2))), .int (zI (zB (False)))]) (rest := []) ⟨hx, hb, hml, hown, hts⟩ (met_X6_boundAfter_ok l D cs q H.size A S V xm xth xam f xl xpl gr (zX xs (xi + 1)) (zX xs (xi + 2)) False (by exact zOK_w hI9.1) (zX_r xs _) (zX_r xs _) hc9) (cwV 3 hts gL_law_X6_boundAfter rfl rfl rfl (by decide +kernel) ⟨(Nat.le_of_ble_eq_true rfl), (Nat.le_of_ble_eq_true rfl)⟩) ⟨zPreZ.blind, va_recv hK hP (ci := 6) (q0 := 48) rfl rfl, fun U hU hW => zp_Z (hP.sub (ws' := zmod cs q A S V xm xth xam f xl xpl gr) [48, 49, 50, 51, 52, 53] rfl) hK (hD.sub (ws' := zmod cs q A S V xm xth xam f xl xpl gr) [48, 49, 50, 51, 52, 53] (by decide) rfl) hN hU hW⟩ rfl rfl hl.1 rfl (lv_room (Nat.le_of_ble_eq_true rfl)) dL_law_1292 ⟨by show cells + 0 + 0 ≤ 601024; omega, by show slots + 0 + 0 ≤ 7293034; omega⟩) hS hP hD hA [48, 49, 50, 51, 52, 53] [0, 1, 2, 3, 4, 5, 6, 7, 8, 9, 10, 11, 12, 13, 14, 15, 16, 17, 18, 19, 20, 21, 22, 23, 24, 25, 26, 27, 28, 29, 30, 31, 32, 33, 34, 35, 36, 37, 38, 39, 40, 41, 42, 43, 44, 45, 46, 47, 54] rfl rfl (by decide) (by decide) (fun H locs hP hD hS => ?_)
      have hP : va_P D vwCl (zest cs o A T S0 S1 S2 S3 xm f xl g xk xn xd xe ++ (zmod cs q A S V xm 0 xam f xl xpl gr ++ [(ou, .inl (cs 2, 1, .inr (.inl (zAL (zU gu 0 (zBo A (zX xs (xi + 1)) (zX xs (xi + 2)) False))))))])) H := zP_perm hP zPe_m
      have hD : va_D (fun z => s.heap.size ≤ z) (zest cs o A T S0 S1 S2 S3 xm f xl g xk xn xd xe ++ (zmod cs q A S V xm 0 xam f xl xpl gr ++ [(ou, .inl (cs 2, 1, .inr (.inl (zAL (zU gu 0 (zBo A (zX xs (xi + 1)) (zX xs (xi + 2)) False))))))])) := zD_perm hD zPe_m
      refine lv_lstore (lv' := [(6, .long (zL (zBo A (zX xs (xi + 1)) (zX xs (xi + 2)) False))), (5, .int (zI 0)), (4, .int (zI xi)), (3, .ref ou), (2, .ref (q 0)), (1, .ref (o 0 0)), (0, .ref b)]) hx hb dL_law_1295 hl (by decide) rfl (fun ls hl => ?_)
      refine lv_aload_n hx hb dL_law_1297 rfl (lv_at hl 4 rfl) ?_
      refine zc_ri (va_runV (As := []) (rest := []) ⟨hx, hb, hml, hown, hts⟩ (met_X6_thrown l D cs q A S V xm 0 xam f xl xpl gr) (cwV 0 hts gL_law_X6_thrown rfl rfl rfl (by decide +kernel) ⟨(Nat.le_of_ble_eq_true rfl), (Nat.le_of_ble_eq_true rfl)⟩) ⟨zPre.blind, va_recv hK hP (ci := 6) (q0 := 48) rfl rfl, fun U hU hW => zp_R (hP.sub (ws' := zmod cs q A S V xm 0 xam f xl xpl gr) [48, 49, 50, 51, 52, 53] rfl) hK (hD.sub (ws' := zmod cs q A S V xm 0 xam f xl xpl gr) [48, 49, 50, 51, 52, 53] (by decide) rfl) hN hU hW⟩ rfl rfl hl.1 rfl (lv_room (Nat.le_of_ble_eq_true rfl)) dL_law_1298 ⟨by show cells + 0 + 0 + 0 ≤ 601024; omega, by show slots + 0 + 0 + 0 ≤ 7293034; omega⟩) ?_
      refine lv_iload hx hb dL_law_1301 (lv_at hl 1 rfl) ?_
      refine zr_iceq (tgt := 1308) hx hb dL_law_1303 (by decide) ?_
      refine lv_iload hx hb dL_law_1308 (lv_at hl 1 rfl) ?_
      refine zr_if_ne (tgt := 1324) hx hb dL_law_1310 (by decide) (by decide) (fun h9 => absurd h9 (by decide)) (fun _ => ?_)
      refine lv_aload_n hx hb dL_law_1313 rfl (lv_at hl 3 rfl) ?_
      refine zr_iconst hx hb dL_law_1314 ?_
      refine zr_lald (D := D) (g := zU gu 0 (zBo A (zX xs (xi + 1)) (zX xs (xi + 2)) False)) hx hb hK hP 54 2 rfl rfl (by decide) (by decide) dL_law_1315 ?_
      rw [show (zU gu 0 (zBo A (zX xs (xi + 1)) (zX xs (xi + 2)) False)) 0 = zBo A (zX xs (xi + 1)) (zX xs (xi + 2)) False from rfl]
      refine lv_lload hx hb dL_law_1316 (lv_at hl 0 rfl) ?_
      refine zr_lceq (tgt := 1324) hx hb dL_law_1318 dL_law_1319 (by decide) ?_
      refine lv_goto (tgt := 1683) hx hb dL_law_1324 (by decide) ?_
      refine W.widen (k := cells + 1) (n := slots + 6) (by show cells + 0 + 0 ≤ cells + 1; omega) (by show slots + 0 + 0 ≤ slots + 6; omega) ?_
      exact kk o q n A T S0 S1 S2 S3 S V xm f xl g xk xn xd xe 0 xam xpl gr (zU gu 0 (zBo A (zX xs (xi + 1)) (zX xs (xi + 2)) False)) (by exact hI9) (by omega) H locs hP hD hS ls (lv_sub hl [2, 3, 4, 5, 6] rfl)
    replace hc9 := hc9
    refine lv_aload_n hx hb dL_law_1232 rfl (lv_at hl 3 rfl) ?_
    refine lv_aload_n hx hb dL_law_1233 rfl (lv_at hl 4 rfl) ?_
    refine lv_iload hx hb dL_law_1234 (lv_at hl 0 rfl) ?_
    refine zr_iconst hx hb dL_law_1236 ?_
    refine zr_iadd hx hb dL_law_1237 ?_
    refine zr_sls hx hb hXs hbl hbA hS hL (by omega) dL_law_1238 ?_
    refine lv_aload_n hx hb dL_law_1239 rfl (lv_at hl 4 rfl) ?_
    refine lv_iload hx hb dL_law_1240 (lv_at hl 0 rfl) ?_
    refine zr_iconst hx hb dL_law_1242 ?_
    refine zr_iadd hx hb dL_law_1243 ?_
    refine zr_sls hx hb hXs hbl hbA hS hL (by omega) dL_law_1244 ?_
    refine lv_aload_n hx hb dL_law_1245 rfl (lv_at hl 4 rfl) ?_
    refine lv_iload hx hb dL_law_1246 (lv_at hl 0 rfl) ?_
    refine zr_iconst hx hb dL_law_1248 ?_
    refine zr_iadd hx hb dL_law_1249 ?_
    refine zr_sls hx hb hXs hbl hbA hS hL (by omega) dL_law_1250 ?_
    refine zr_if_eq (tgt := 1258) hx hb dL_law_1251 (by decide) (by omega) (fun _ => ?_) (fun h9 => absurd htv h9)
    refine zr_iconst hx hb dL_law_1258 ?_
    refine lv_aload_n hx hb dL_law_1259 rfl (lv_at hl 1 rfl) ?_
    refine zc_xk (vx_runSX (As := [.ref (o 0 0), .int (zI (zX xs (xi + 1))), .int (zI (zX xs (xi + 2))), .int (zI (zB (False))), .ref ou]) (rest := []) ⟨hx, hb, hml, hown, hts⟩ (met_L_boundAfter_x l hfl D cs o ou gu A (zX xs (xi + 1)) (zX xs (xi + 2)) False (zX_r xs _) (zX_r xs _) hc9) (vx_cwSW 5 hts gL_law_L_boundAfter rfl rfl rfl (by decide +kernel) ⟨(Nat.le_of_ble_eq_true rfl), (Nat.le_of_ble_eq_true rfl)⟩) ⟨zPreU.blind, fun U hU hW => zp_U (hP.sub (ws' := [((o 0) 0, .inr (5, [.ref ((o 1) 0), .ref ((o 2) 0), .ref ((o 3) 0), .ref ((o 8) 0)]))] ++ (zbat cs (o 1) A ++ [(ou, .inl (cs 2, 1, .inr (.inl (zAL gu))))])) [0, 1, 2, 3, 4, 5, 6, 7, 54] rfl) hK (hD.sub (ws' := [((o 0) 0, .inr (5, [.ref ((o 1) 0), .ref ((o 2) 0), .ref ((o 3) 0), .ref ((o 8) 0)]))] ++ (zbat cs (o 1) A ++ [(ou, .inl (cs 2, 1, .inr (.inl (zAL gu))))])) [0, 1, 2, 3, 4, 5, 6, 7, 54] (by decide) rfl) hN (hG.at hS) hC hU hW⟩ rfl rfl hl.1 rfl (lv_room (Nat.le_of_ble_eq_true rfl)) dL_law_1260 ⟨by show cells + 1 ≤ 601024; omega, by show slots + 6 ≤ 7293034; omega⟩) hS hP (fun H locs hP hS => ?_)
    refine lv_istore (lv' := [(5, .int (zI 1)), (4, .int (zI xi)), (3, .ref ou), (2, .ref (q 0)), (1, .ref (o 0 0)), (0, .ref b)]) hx hb dL_law_1263 hl (by decide) rfl (fun ls hl => ?_)
    refine lv_aload_n hx hb dL_law_1265 rfl (lv_at hl 3 rfl) ?_
    refine lv_aload_n hx hb dL_law_1266 rfl (lv_at hl 5 rfl) ?_
    refine lv_iload hx hb dL_law_1267 (lv_at hl 1 rfl) ?_
    refine zr_iconst hx hb dL_law_1269 ?_
    refine zr_iadd hx hb dL_law_1270 ?_
    refine zr_sls hx hb hXs hbl hbA hS hL (by omega) dL_law_1271 ?_
    refine lv_aload_n hx hb dL_law_1272 rfl (lv_at hl 5 rfl) ?_
    refine lv_iload hx hb dL_law_1273 (lv_at hl 1 rfl) ?_
    refine zr_iconst hx hb dL_law_1275 ?_
    refine zr_iadd hx hb dL_law_1276 ?_
    refine zr_sls hx hb hXs hbl hbA hS hL (by omega) dL_law_1277 ?_
    refine lv_aload_n hx hb dL_law_1278 rfl (lv_at hl 5 rfl) ?_
    refine lv_iload hx hb dL_law_1279 (lv_at hl 1 rfl) ?_
    refine zr_iconst hx hb dL_law_1281 ?_
    refine zr_iadd hx hb dL_law_1282 ?_
    refine zr_sls hx hb hXs hbl hbA hS hL (by omega) dL_law_1283 ?_
    refine zr_if_eq (tgt := 1291) hx hb dL_law_1284 (by decide) (by omega) (fun _ => ?_) (fun h9 => absurd htv h9)
    refine zr_iconst hx hb dL_law_1291 ?_
    refine zc_lj (w := zmod cs q A S V xm xth xam f xl xpl gr) (wr := zest cs o A T S0 S1 S2 S3 xm f xl g xk xn xd xe ++ [(ou, .inl (cs 2, 1, .inr (.inl (zAL gu))))]) (va_runV (As := [.int (zI (zX xs (xi + 1))), .int (zI (zX xs (xi + 2))), .int (zI (zB (False)))]) (rest := []) ⟨hx, hb, hml, hown, hts⟩ (met_X6_boundAfter_no1 l D cs q H.size A S V xm xth xam f xl xpl gr (zX xs (xi + 1)) (zX xs (xi + 2)) False (zX_r xs _) (zX_r xs _) hc9) (cwV 3 hts gL_law_X6_boundAfter rfl rfl rfl (by decide +kernel) ⟨(Nat.le_of_ble_eq_true rfl), (Nat.le_of_ble_eq_true rfl)⟩) ⟨zPreZ.blind, va_recv hK hP (ci := 6) (q0 := 48) rfl rfl, fun U hU hW => zp_Z (hP.sub (ws' := zmod cs q A S V xm xth xam f xl xpl gr) [48, 49, 50, 51, 52, 53] rfl) hK (hD.sub (ws' := zmod cs q A S V xm xth xam f xl xpl gr) [48, 49, 50, 51, 52, 53] (by decide) rfl) hN hU hW⟩ rfl rfl hl.1 rfl (lv_room (Nat.le_of_ble_eq_true rfl)) dL_law_1292 ⟨by show cells + 1 + 0 ≤ 601024; omega, by show slots + 6 + 0 ≤ 7293034; omega⟩) hS hP hD hA [48, 49, 50, 51, 52, 53] [0, 1, 2, 3, 4, 5, 6, 7, 8, 9, 10, 11, 12, 13, 14, 15, 16, 17, 18, 19, 20, 21, 22, 23, 24, 25, 26, 27, 28, 29, 30, 31, 32, 33, 34, 35, 36, 37, 38, 39, 40, 41, 42, 43, 44, 45, 46, 47, 54] rfl rfl (by decide) (by decide) (fun H locs hP hD hS => ?_)
    have hP : va_P D vwCl (zest cs o A T S0 S1 S2 S3 xm f xl g xk xn xd xe ++ (zmod cs q A S V xm 1 xam f xl xpl gr ++ [(ou, .inl (cs 2, 1, .inr (.inl (zAL gu))))])) H := zP_perm hP zPe_m
    have hD : va_D (fun z => s.heap.size ≤ z) (zest cs o A T S0 S1 S2 S3 xm f xl g xk xn xd xe ++ (zmod cs q A S V xm 1 xam f xl xpl gr ++ [(ou, .inl (cs 2, 1, .inr (.inl (zAL gu))))])) := zD_perm hD zPe_m
    refine lv_lstore (lv' := [(6, .long (zL 0)), (5, .int (zI 1)), (4, .int (zI xi)), (3, .ref ou), (2, .ref (q 0)), (1, .ref (o 0 0)), (0, .ref b)]) hx hb dL_law_1295 hl (by decide) rfl (fun ls hl => ?_)
    refine lv_aload_n hx hb dL_law_1297 rfl (lv_at hl 4 rfl) ?_
    refine zc_ri (va_runV (As := []) (rest := []) ⟨hx, hb, hml, hown, hts⟩ (met_X6_thrown l D cs q A S V xm 1 xam f xl xpl gr) (cwV 0 hts gL_law_X6_thrown rfl rfl rfl (by decide +kernel) ⟨(Nat.le_of_ble_eq_true rfl), (Nat.le_of_ble_eq_true rfl)⟩) ⟨zPre.blind, va_recv hK hP (ci := 6) (q0 := 48) rfl rfl, fun U hU hW => zp_R (hP.sub (ws' := zmod cs q A S V xm 1 xam f xl xpl gr) [48, 49, 50, 51, 52, 53] rfl) hK (hD.sub (ws' := zmod cs q A S V xm 1 xam f xl xpl gr) [48, 49, 50, 51, 52, 53] (by decide) rfl) hN hU hW⟩ rfl rfl hl.1 rfl (lv_room (Nat.le_of_ble_eq_true rfl)) dL_law_1298 ⟨by show cells + 1 + 0 + 0 ≤ 601024; omega, by show slots + 6 + 0 + 0 ≤ 7293034; omega⟩) ?_
    refine lv_iload hx hb dL_law_1301 (lv_at hl 1 rfl) ?_
    refine zr_iceq (tgt := 1308) hx hb dL_law_1303 (by decide) ?_
    refine lv_iload hx hb dL_law_1308 (lv_at hl 1 rfl) ?_
    refine zr_if_ne (tgt := 1324) hx hb dL_law_1310 (by decide) (by decide) (fun _ => ?_) (fun h9 => absurd h9 (by decide))
    refine lv_goto (tgt := 1683) hx hb dL_law_1324 (by decide) ?_
    refine W.widen (k := cells + 1) (n := slots + 6) (by show cells + 1 + 0 ≤ cells + 1; omega) (by show slots + 6 + 0 ≤ slots + 6; omega) ?_
    exact kk o q n A T S0 S1 S2 S3 S V xm f xl g xk xn xd xe 1 xam xpl gr gu (by exact hI9) (by omega) H locs hP hD hS ls (lv_sub hl [2, 3, 4, 5, 6] rfl)
  have htv : ¬ zX xs (xi + 3) = 0 := htv
  by_cases hc9 : (-50000 ≤ (zX xs (xi + 1)) ∧ (zX xs (xi + 1)) ≤ 50000) ∧ 0 ≤ (zX xs (xi + 2)) ∧ (zX xs (xi + 2)) ≤ 1000000
  · refine lv_aload_n hx hb dL_law_1232 rfl (lv_at hl 3 rfl) ?_
    refine lv_aload_n hx hb dL_law_1233 rfl (lv_at hl 4 rfl) ?_
    refine lv_iload hx hb dL_law_1234 (lv_at hl 0 rfl) ?_
    refine zr_iconst hx hb dL_law_1236 ?_
    refine zr_iadd hx hb dL_law_1237 ?_
    refine zr_sls hx hb hXs hbl hbA hS hL (by omega) dL_law_1238 ?_
    refine lv_aload_n hx hb dL_law_1239 rfl (lv_at hl 4 rfl) ?_
    refine lv_iload hx hb dL_law_1240 (lv_at hl 0 rfl) ?_
    refine zr_iconst hx hb dL_law_1242 ?_
    refine zr_iadd hx hb dL_law_1243 ?_
    refine zr_sls hx hb hXs hbl hbA hS hL (by omega) dL_law_1244 ?_
    refine lv_aload_n hx hb dL_law_1245 rfl (lv_at hl 4 rfl) ?_
    refine lv_iload hx hb dL_law_1246 (lv_at hl 0 rfl) ?_
    refine zr_iconst hx hb dL_law_1248 ?_
    refine zr_iadd hx hb dL_law_1249 ?_
    refine zr_sls hx hb hXs hbl hbA hS hL (by omega) dL_law_1250 ?_
    refine zr_if_eq (tgt := 1258) hx hb dL_law_1251 (by decide) (by omega) (fun h9 => absurd h9 htv) (fun _ => ?_)
    refine zr_iconst hx hb dL_law_1254 ?_
    refine lv_goto (tgt := 1259) hx hb dL_law_1255 (by decide) ?_
    refine lv_aload_n hx hb dL_law_1259 rfl (lv_at hl 1 rfl) ?_
    refine zc_xi (w := [((o 0) 0, .inr (5, [.ref ((o 1) 0), .ref ((o 2) 0), .ref ((o 3) 0), .ref ((o 8) 0)]))] ++ (zbat cs (o 1) A ++ [(ou, .inl (cs 2, 1, .inr (.inl (zAL gu))))])) (wr := zbat cs (o 2) T ++ ([(o 3 0, .inr (3, [.ref (o 3 1), .int (zI xm)])), (o 3 1, .inl (cs 3, 4, .inr (.inr (.inr (.inr (zR (o 4 0) (o 5 0) (o 6 0) (o 7 0)))))))] ++ (zbat cs (o 4) S0 ++ (zbat cs (o 5) S1 ++ (zbat cs (o 6) S2 ++ (zbat cs (o 7) S3 ++ (ztxt cs (o 8) f xl g xk xn xd xe ++ (zmod cs q A S V xm xth xam f xl xpl gr)))))))) (vx_runSX (As := [.ref (o 0 0), .int (zI (zX xs (xi + 1))), .int (zI (zX xs (xi + 2))), .int (zI (zB (True))), .ref ou]) (rest := []) ⟨hx, hb, hml, hown, hts⟩ (met_L_boundAfter_ok l D cs o ou gu H.size A n (zX xs (xi + 1)) (zX xs (xi + 2)) True (by exact hI9.1) (by omega) (zX_r xs _) (zX_r xs _) hc9) (vx_cwSW 5 hts gL_law_L_boundAfter rfl rfl rfl (by decide +kernel) ⟨(Nat.le_of_ble_eq_true rfl), (Nat.le_of_ble_eq_true rfl)⟩) ⟨zPreZ.blind, fun U hU hW => zp_Z (hP.sub (ws' := [((o 0) 0, .inr (5, [.ref ((o 1) 0), .ref ((o 2) 0), .ref ((o 3) 0), .ref ((o 8) 0)]))] ++ (zbat cs (o 1) A ++ [(ou, .inl (cs 2, 1, .inr (.inl (zAL gu))))])) [0, 1, 2, 3, 4, 5, 6, 7, 54] rfl) hK (hD.sub (ws' := [((o 0) 0, .inr (5, [.ref ((o 1) 0), .ref ((o 2) 0), .ref ((o 3) 0), .ref ((o 8) 0)]))] ++ (zbat cs (o 1) A ++ [(ou, .inl (cs 2, 1, .inr (.inl (zAL gu))))])) [0, 1, 2, 3, 4, 5, 6, 7, 54] (by decide) rfl) hN hU hW⟩ rfl rfl hl.1 rfl (lv_room (Nat.le_of_ble_eq_true rfl)) dL_law_1260 ⟨by show cells + 0 ≤ 601024; omega, by show slots + 0 ≤ 7293034; omega⟩) hS hP hD hA [0, 1, 2, 3, 4, 5, 6, 7, 54] [8, 9, 10, 11, 12, 13, 14, 15, 16, 17, 18, 19, 20, 21, 22, 23, 24, 25, 26, 27, 28, 29, 30, 31, 32, 33, 34, 35, 36, 37, 38, 39, 40, 41, 42, 43, 44, 45, 46, 47, 48, 49, 50, 51, 52, 53] rfl rfl (by decide) (by decide) (fun H locs hP hD hS => ?_)
    have hP : va_P D vwCl (zest cs o A T S0 S1 S2 S3 xm f xl g xk xn xd xe ++ (zmod cs q A S V xm xth xam f xl xpl gr ++ [(ou, .inl (cs 2, 1, .inr (.inl (zAL (zU gu 0 (zBo A (zX xs (xi + 1)) (zX xs (xi + 2)) True))))))])) H := zP_perm hP zPe_B
    have hD : va_D (fun z => s.heap.size ≤ z) (zest cs o A T S0 S1 S2 S3 xm f xl g xk xn xd xe ++ (zmod cs q A S V xm xth xam f xl xpl gr ++ [(ou, .inl (cs 2, 1, .inr (.inl (zAL (zU gu 0 (zBo A (zX xs (xi + 1)) (zX xs (xi + 2)) True))))))])) := zD_perm hD zPe_B
    refine lv_istore (lv' := [(5, .int (zI 0)), (4, .int (zI xi)), (3, .ref ou), (2, .ref (q 0)), (1, .ref (o 0 0)), (0, .ref b)]) hx hb dL_law_1263 hl (by decide) rfl (fun ls hl => ?_)
    refine lv_aload_n hx hb dL_law_1265 rfl (lv_at hl 3 rfl) ?_
    refine lv_aload_n hx hb dL_law_1266 rfl (lv_at hl 5 rfl) ?_
    refine lv_iload hx hb dL_law_1267 (lv_at hl 1 rfl) ?_
    refine zr_iconst hx hb dL_law_1269 ?_
    refine zr_iadd hx hb dL_law_1270 ?_
    refine zr_sls hx hb hXs hbl hbA hS hL (by omega) dL_law_1271 ?_
    refine lv_aload_n hx hb dL_law_1272 rfl (lv_at hl 5 rfl) ?_
    refine lv_iload hx hb dL_law_1273 (lv_at hl 1 rfl) ?_
    refine zr_iconst hx hb dL_law_1275 ?_
    refine zr_iadd hx hb dL_law_1276 ?_
    refine zr_sls hx hb hXs hbl hbA hS hL (by omega) dL_law_1277 ?_
    refine lv_aload_n hx hb dL_law_1278 rfl (lv_at hl 5 rfl) ?_
    refine lv_iload hx hb dL_law_1279 (lv_at hl 1 rfl) ?_
    refine zr_iconst hx hb dL_law_1281 ?_
    refine zr_iadd hx hb dL_law_1282 ?_
    refine zr_sls hx hb hXs hbl hbA hS hL (by omega) dL_law_1283 ?_
    refine zr_if_eq (tgt := 1291) hx hb dL_law_1284 (by decide) (by omega) (fun h9 => absurd h9 htv) (fun _ => ?_)
    refine zr_iconst hx hb dL_law_1287 ?_
    refine lv_goto (tgt := 1292) hx hb dL_law_1288 (by decide) ?_
    refine zc_lj (w := zmod cs q A S V xm xth xam f xl xpl gr) (wr := zest cs o A T S0 S1 S2 S3 xm f xl g xk xn xd xe ++ [(ou, .inl (cs 2, 1, .inr (.inl (zAL (zU gu 0 (zBo A (zX xs (xi + 1)) (zX xs (xi + 2)) True))))))]) (va_runV (As := [.int (zI (zX xs (xi + 1))), .int (zI (zX xs (xi + 2))), .int (zI (zB (True)))]) (rest := []) ⟨hx, hb, hml, hown, hts⟩ (met_X6_boundAfter_ok l D cs q H.size A S V xm xth xam f xl xpl gr (zX xs (xi + 1)) (zX xs (xi + 2)) True (by exact zOK_w hI9.1) (zX_r xs _) (zX_r xs _) hc9) (cwV 3 hts gL_law_X6_boundAfter rfl rfl rfl (by decide +kernel) ⟨(Nat.le_of_ble_eq_true rfl), (Nat.le_of_ble_eq_true rfl)⟩) ⟨zPreZ.blind, va_recv hK hP (ci := 6) (q0 := 48) rfl rfl, fun U hU hW => zp_Z (hP.sub (ws' := zmod cs q A S V xm xth xam f xl xpl gr) [48, 49, 50, 51, 52, 53] rfl) hK (hD.sub (ws' := zmod cs q A S V xm xth xam f xl xpl gr) [48, 49, 50, 51, 52, 53] (by decide) rfl) hN hU hW⟩ rfl rfl hl.1 rfl (lv_room (Nat.le_of_ble_eq_true rfl)) dL_law_1292 ⟨by show cells + 0 + 0 ≤ 601024; omega, by show slots + 0 + 0 ≤ 7293034; omega⟩) hS hP hD hA [48, 49, 50, 51, 52, 53] [0, 1, 2, 3, 4, 5, 6, 7, 8, 9, 10, 11, 12, 13, 14, 15, 16, 17, 18, 19, 20, 21, 22, 23, 24, 25, 26, 27, 28, 29, 30, 31, 32, 33, 34, 35, 36, 37, 38, 39, 40, 41, 42, 43, 44, 45, 46, 47, 54] rfl rfl (by decide) (by decide) (fun H locs hP hD hS => ?_)
    have hP : va_P D vwCl (zest cs o A T S0 S1 S2 S3 xm f xl g xk xn xd xe ++ (zmod cs q A S V xm 0 xam f xl xpl gr ++ [(ou, .inl (cs 2, 1, .inr (.inl (zAL (zU gu 0 (zBo A (zX xs (xi + 1)) (zX xs (xi + 2)) True))))))])) H := zP_perm hP zPe_m
    have hD : va_D (fun z => s.heap.size ≤ z) (zest cs o A T S0 S1 S2 S3 xm f xl g xk xn xd xe ++ (zmod cs q A S V xm 0 xam f xl xpl gr ++ [(ou, .inl (cs 2, 1, .inr (.inl (zAL (zU gu 0 (zBo A (zX xs (xi + 1)) (zX xs (xi + 2)) True))))))])) := zD_perm hD zPe_m
    refine lv_lstore (lv' := [(6, .long (zL (zBo A (zX xs (xi + 1)) (zX xs (xi + 2)) True))), (5, .int (zI 0)), (4, .int (zI xi)), (3, .ref ou), (2, .ref (q 0)), (1, .ref (o 0 0)), (0, .ref b)]) hx hb dL_law_1295 hl (by decide) rfl (fun ls hl => ?_)
    refine lv_aload_n hx hb dL_law_1297 rfl (lv_at hl 4 rfl) ?_
    refine zc_ri (va_runV (As := []) (rest := []) ⟨hx, hb, hml, hown, hts⟩ (met_X6_thrown l D cs q A S V xm 0 xam f xl xpl gr) (cwV 0 hts gL_law_X6_thrown rfl rfl rfl (by decide +kernel) ⟨(Nat.le_of_ble_eq_true rfl), (Nat.le_of_ble_eq_true rfl)⟩) ⟨zPre.blind, va_recv hK hP (ci := 6) (q0 := 48) rfl rfl, fun U hU hW => zp_R (hP.sub (ws' := zmod cs q A S V xm 0 xam f xl xpl gr) [48, 49, 50, 51, 52, 53] rfl) hK (hD.sub (ws' := zmod cs q A S V xm 0 xam f xl xpl gr) [48, 49, 50, 51, 52, 53] (by decide) rfl) hN hU hW⟩ rfl rfl hl.1 rfl (lv_room (Nat.le_of_ble_eq_true rfl)) dL_law_1298 ⟨by show cells + 0 + 0 + 0 ≤ 601024; omega, by show slots + 0 + 0 + 0 ≤ 7293034; omega⟩) ?_
    refine lv_iload hx hb dL_law_1301 (lv_at hl 1 rfl) ?_
    refine zr_iceq (tgt := 1308) hx hb dL_law_1303 (by decide) ?_
    refine lv_iload hx hb dL_law_1308 (lv_at hl 1 rfl) ?_
    refine zr_if_ne (tgt := 1324) hx hb dL_law_1310 (by decide) (by decide) (fun h9 => absurd h9 (by decide)) (fun _ => ?_)
    refine lv_aload_n hx hb dL_law_1313 rfl (lv_at hl 3 rfl) ?_
    refine zr_iconst hx hb dL_law_1314 ?_
    refine zr_lald (D := D) (g := zU gu 0 (zBo A (zX xs (xi + 1)) (zX xs (xi + 2)) True)) hx hb hK hP 54 2 rfl rfl (by decide) (by decide) dL_law_1315 ?_
    rw [show (zU gu 0 (zBo A (zX xs (xi + 1)) (zX xs (xi + 2)) True)) 0 = zBo A (zX xs (xi + 1)) (zX xs (xi + 2)) True from rfl]
    refine lv_lload hx hb dL_law_1316 (lv_at hl 0 rfl) ?_
    refine zr_lceq (tgt := 1324) hx hb dL_law_1318 dL_law_1319 (by decide) ?_
    refine lv_goto (tgt := 1683) hx hb dL_law_1324 (by decide) ?_
    refine W.widen (k := cells + 1) (n := slots + 6) (by show cells + 0 + 0 ≤ cells + 1; omega) (by show slots + 0 + 0 ≤ slots + 6; omega) ?_
    exact kk o q n A T S0 S1 S2 S3 S V xm f xl g xk xn xd xe 0 xam xpl gr (zU gu 0 (zBo A (zX xs (xi + 1)) (zX xs (xi + 2)) True)) (by exact hI9) (by omega) H locs hP hD hS ls (lv_sub hl [2, 3, 4, 5, 6] rfl)
  replace hc9 := hc9
  refine lv_aload_n hx hb dL_law_1232 rfl (lv_at hl 3 rfl) ?_
  refine lv_aload_n hx hb dL_law_1233 rfl (lv_at hl 4 rfl) ?_
  refine lv_iload hx hb dL_law_1234 (lv_at hl 0 rfl) ?_
  refine zr_iconst hx hb dL_law_1236 ?_
  refine zr_iadd hx hb dL_law_1237 ?_
  refine zr_sls hx hb hXs hbl hbA hS hL (by omega) dL_law_1238 ?_
  refine lv_aload_n hx hb dL_law_1239 rfl (lv_at hl 4 rfl) ?_
  refine lv_iload hx hb dL_law_1240 (lv_at hl 0 rfl) ?_
  refine zr_iconst hx hb dL_law_1242 ?_
  refine zr_iadd hx hb dL_law_1243 ?_
  refine zr_sls hx hb hXs hbl hbA hS hL (by omega) dL_law_1244 ?_
  refine lv_aload_n hx hb dL_law_1245 rfl (lv_at hl 4 rfl) ?_
  refine lv_iload hx hb dL_law_1246 (lv_at hl 0 rfl) ?_
  refine zr_iconst hx hb dL_law_1248 ?_
  refine zr_iadd hx hb dL_law_1249 ?_
  refine zr_sls hx hb hXs hbl hbA hS hL (by omega) dL_law_1250 ?_
  refine zr_if_eq (tgt := 1258) hx hb dL_law_1251 (by decide) (by omega) (fun h9 => absurd h9 htv) (fun _ => ?_)
  refine zr_iconst hx hb dL_law_1254 ?_
  refine lv_goto (tgt := 1259) hx hb dL_law_1255 (by decide) ?_
  refine lv_aload_n hx hb dL_law_1259 rfl (lv_at hl 1 rfl) ?_
  refine zc_xk (vx_runSX (As := [.ref (o 0 0), .int (zI (zX xs (xi + 1))), .int (zI (zX xs (xi + 2))), .int (zI (zB (True))), .ref ou]) (rest := []) ⟨hx, hb, hml, hown, hts⟩ (met_L_boundAfter_x l hfl D cs o ou gu A (zX xs (xi + 1)) (zX xs (xi + 2)) True (zX_r xs _) (zX_r xs _) hc9) (vx_cwSW 5 hts gL_law_L_boundAfter rfl rfl rfl (by decide +kernel) ⟨(Nat.le_of_ble_eq_true rfl), (Nat.le_of_ble_eq_true rfl)⟩) ⟨zPreU.blind, fun U hU hW => zp_U (hP.sub (ws' := [((o 0) 0, .inr (5, [.ref ((o 1) 0), .ref ((o 2) 0), .ref ((o 3) 0), .ref ((o 8) 0)]))] ++ (zbat cs (o 1) A ++ [(ou, .inl (cs 2, 1, .inr (.inl (zAL gu))))])) [0, 1, 2, 3, 4, 5, 6, 7, 54] rfl) hK (hD.sub (ws' := [((o 0) 0, .inr (5, [.ref ((o 1) 0), .ref ((o 2) 0), .ref ((o 3) 0), .ref ((o 8) 0)]))] ++ (zbat cs (o 1) A ++ [(ou, .inl (cs 2, 1, .inr (.inl (zAL gu))))])) [0, 1, 2, 3, 4, 5, 6, 7, 54] (by decide) rfl) hN (hG.at hS) hC hU hW⟩ rfl rfl hl.1 rfl (lv_room (Nat.le_of_ble_eq_true rfl)) dL_law_1260 ⟨by show cells + 1 ≤ 601024; omega, by show slots + 6 ≤ 7293034; omega⟩) hS hP (fun H locs hP hS => ?_)
  refine lv_istore (lv' := [(5, .int (zI 1)), (4, .int (zI xi)), (3, .ref ou), (2, .ref (q 0)), (1, .ref (o 0 0)), (0, .ref b)]) hx hb dL_law_1263 hl (by decide) rfl (fun ls hl => ?_)
  refine lv_aload_n hx hb dL_law_1265 rfl (lv_at hl 3 rfl) ?_
  refine lv_aload_n hx hb dL_law_1266 rfl (lv_at hl 5 rfl) ?_
  refine lv_iload hx hb dL_law_1267 (lv_at hl 1 rfl) ?_
  refine zr_iconst hx hb dL_law_1269 ?_
  refine zr_iadd hx hb dL_law_1270 ?_
  refine zr_sls hx hb hXs hbl hbA hS hL (by omega) dL_law_1271 ?_
  refine lv_aload_n hx hb dL_law_1272 rfl (lv_at hl 5 rfl) ?_
  refine lv_iload hx hb dL_law_1273 (lv_at hl 1 rfl) ?_
  refine zr_iconst hx hb dL_law_1275 ?_
  refine zr_iadd hx hb dL_law_1276 ?_
  refine zr_sls hx hb hXs hbl hbA hS hL (by omega) dL_law_1277 ?_
  refine lv_aload_n hx hb dL_law_1278 rfl (lv_at hl 5 rfl) ?_
  refine lv_iload hx hb dL_law_1279 (lv_at hl 1 rfl) ?_
  refine zr_iconst hx hb dL_law_1281 ?_
  refine zr_iadd hx hb dL_law_1282 ?_
  refine zr_sls hx hb hXs hbl hbA hS hL (by omega) dL_law_1283 ?_
  refine zr_if_eq (tgt := 1291) hx hb dL_law_1284 (by decide) (by omega) (fun h9 => absurd h9 htv) (fun _ => ?_)
  refine zr_iconst hx hb dL_law_1287 ?_
  refine lv_goto (tgt := 1292) hx hb dL_law_1288 (by decide) ?_
  refine zc_lj (w := zmod cs q A S V xm xth xam f xl xpl gr) (wr := zest cs o A T S0 S1 S2 S3 xm f xl g xk xn xd xe ++ [(ou, .inl (cs 2, 1, .inr (.inl (zAL gu))))]) (va_runV (As := [.int (zI (zX xs (xi + 1))), .int (zI (zX xs (xi + 2))), .int (zI (zB (True)))]) (rest := []) ⟨hx, hb, hml, hown, hts⟩ (met_X6_boundAfter_no1 l D cs q H.size A S V xm xth xam f xl xpl gr (zX xs (xi + 1)) (zX xs (xi + 2)) True (zX_r xs _) (zX_r xs _) hc9) (cwV 3 hts gL_law_X6_boundAfter rfl rfl rfl (by decide +kernel) ⟨(Nat.le_of_ble_eq_true rfl), (Nat.le_of_ble_eq_true rfl)⟩) ⟨zPreZ.blind, va_recv hK hP (ci := 6) (q0 := 48) rfl rfl, fun U hU hW => zp_Z (hP.sub (ws' := zmod cs q A S V xm xth xam f xl xpl gr) [48, 49, 50, 51, 52, 53] rfl) hK (hD.sub (ws' := zmod cs q A S V xm xth xam f xl xpl gr) [48, 49, 50, 51, 52, 53] (by decide) rfl) hN hU hW⟩ rfl rfl hl.1 rfl (lv_room (Nat.le_of_ble_eq_true rfl)) dL_law_1292 ⟨by show cells + 1 + 0 ≤ 601024; omega, by show slots + 6 + 0 ≤ 7293034; omega⟩) hS hP hD hA [48, 49, 50, 51, 52, 53] [0, 1, 2, 3, 4, 5, 6, 7, 8, 9, 10, 11, 12, 13, 14, 15, 16, 17, 18, 19, 20, 21, 22, 23, 24, 25, 26, 27, 28, 29, 30, 31, 32, 33, 34, 35, 36, 37, 38, 39, 40, 41, 42, 43, 44, 45, 46, 47, 54] rfl rfl (by decide) (by decide) (fun H locs hP hD hS => ?_)
  have hP : va_P D vwCl (zest cs o A T S0 S1 S2 S3 xm f xl g xk xn xd xe ++ (zmod cs q A S V xm 1 xam f xl xpl gr ++ [(ou, .inl (cs 2, 1, .inr (.inl (zAL gu))))])) H := zP_perm hP zPe_m
  have hD : va_D (fun z => s.heap.size ≤ z) (zest cs o A T S0 S1 S2 S3 xm f xl g xk xn xd xe ++ (zmod cs q A S V xm 1 xam f xl xpl gr ++ [(ou, .inl (cs 2, 1, .inr (.inl (zAL gu))))])) := zD_perm hD zPe_m
  refine lv_lstore (lv' := [(6, .long (zL 0)), (5, .int (zI 1)), (4, .int (zI xi)), (3, .ref ou), (2, .ref (q 0)), (1, .ref (o 0 0)), (0, .ref b)]) hx hb dL_law_1295 hl (by decide) rfl (fun ls hl => ?_)
  refine lv_aload_n hx hb dL_law_1297 rfl (lv_at hl 4 rfl) ?_
  refine zc_ri (va_runV (As := []) (rest := []) ⟨hx, hb, hml, hown, hts⟩ (met_X6_thrown l D cs q A S V xm 1 xam f xl xpl gr) (cwV 0 hts gL_law_X6_thrown rfl rfl rfl (by decide +kernel) ⟨(Nat.le_of_ble_eq_true rfl), (Nat.le_of_ble_eq_true rfl)⟩) ⟨zPre.blind, va_recv hK hP (ci := 6) (q0 := 48) rfl rfl, fun U hU hW => zp_R (hP.sub (ws' := zmod cs q A S V xm 1 xam f xl xpl gr) [48, 49, 50, 51, 52, 53] rfl) hK (hD.sub (ws' := zmod cs q A S V xm 1 xam f xl xpl gr) [48, 49, 50, 51, 52, 53] (by decide) rfl) hN hU hW⟩ rfl rfl hl.1 rfl (lv_room (Nat.le_of_ble_eq_true rfl)) dL_law_1298 ⟨by show cells + 1 + 0 + 0 ≤ 601024; omega, by show slots + 6 + 0 + 0 ≤ 7293034; omega⟩) ?_
  refine lv_iload hx hb dL_law_1301 (lv_at hl 1 rfl) ?_
  refine zr_iceq (tgt := 1308) hx hb dL_law_1303 (by decide) ?_
  refine lv_iload hx hb dL_law_1308 (lv_at hl 1 rfl) ?_
  refine zr_if_ne (tgt := 1324) hx hb dL_law_1310 (by decide) (by decide) (fun _ => ?_) (fun h9 => absurd h9 (by decide))
  refine lv_goto (tgt := 1683) hx hb dL_law_1324 (by decide) ?_
  refine W.widen (k := cells + 1) (n := slots + 6) (by show cells + 1 + 0 ≤ cells + 1; omega) (by show slots + 6 + 0 ≤ slots + 6; omega) ?_
  exact kk o q n A T S0 S1 S2 S3 S V xm f xl g xk xn xd xe 1 xam xpl gr gu (by exact hI9) (by omega) H locs hP hD hS ls (lv_sub hl [2, 3, 4, 5, 6] rfl)
/-! the law: reaches -/
set_option maxHeartbeats 8000000 in
set_option maxRecDepth 100000 in
theorem law_reaches {p : Program} {e : Env} {s : State} {m : MethodId} {below : List Frame} {meth : Method} {c : Code} {b L : Nat} {xs : Nat → Int32} {Q : State → Prop} (l : Launch) (hfl : l.stackTraces = false) (D : va_G) (cs : Nat → ClassId) (hx : p.tables.exec = Jvm.exec) (hb : c.code = cL_law) (hml : c.maxLocals = 9) (hown : s.vm.findClass RL = some m.cls) (hts : ∀ w ∈ wsL_law, w.before #[Value.ref b] s = true) (hK : va_K D vwCl (zTy cs) s) (hN : zNW s) (hG : zXG s) (hC : zNcP s) (hO : va_AO RX1 s) (hL : L ≤ 2560) (hXs : va_X b L xs s s.heap) (hbl : b < s.heap.size) (xi : Int) (hxi : 0 ≤ xi ∧ xi + 5 ≤ L) (cells slots : Nat) (hcl : cells + 1 ≤ 601024 ∧ slots + 6 ≤ 7293034) (ou : Nat) (o : Nat → Nat → Nat) (q : Nat → Nat) (n : Int) (A T S0 S1 S2 S3 S V : Int → Int) (xm : Int) (f : Int → Int) (xl : Int) (g : Int → Int) (xk xn xd xe xth xam xpl : Int) (gr gu : Int → Int) (hI9 : zInL n A S0 S1 S2 S3 S xm f xl) (hn9 : 0 ≤ n ∧ n ≤ 1200 * xi) (H : Heap) (locs : List Loc) (hP : va_P D vwCl (zest cs o A T S0 S1 S2 S3 xm f xl g xk xn xd xe ++ (zmod cs q A S V xm xth xam f xl xpl gr ++ [(ou, .inl (cs 2, 1, .inr (.inl (zAL gu))))])) H) (hD : va_D (fun z => s.heap.size ≤ z) (zest cs o A T S0 S1 S2 S3 xm f xl g xk xn xd xe ++ (zmod cs q A S V xm xth xam f xl xpl gr ++ [(ou, .inl (cs 2, 1, .inr (.inl (zAL gu))))]))) (hS : va_S (fun z => s.heap.size ≤ z) s.heap H locs) (ls : Array Slot) (hl : lv_has ls 9 [(4, .int (zI xi)), (3, .ref ou), (2, .ref (q 0)), (1, .ref (o 0 0)), (0, .ref b)]) (kk : ∀ (o : Nat → Nat → Nat) (q : Nat → Nat) (n : Int) (A T S0 S1 S2 S3 S V : Int → Int) (xm : Int) (f : Int → Int) (xl : Int) (g : Int → Int) (xk xn xd xe xth xam xpl : Int) (gr gu : Int → Int), zInL n A S0 S1 S2 S3 S xm f xl → (0 ≤ n ∧ n ≤ 1200 * (xi + 5)) → ∀ (H : Heap) (locs : List Loc), va_P D vwCl (zest cs o A T S0 S1 S2 S3 xm f xl g xk xn xd xe ++ (zmod cs q A S V xm xth xam f xl xpl gr ++ [(ou, .inl (cs 2, 1, .inr (.inl (zAL gu))))])) H → va_D (fun z => s.heap.size ≤ z) (zest cs o A T S0 S1 S2 S3 xm f xl g xk xn xd xe ++ (zmod cs q A S V xm xth xam f xl xpl gr ++ [(ou, .inl (cs 2, 1, .inr (.inl (zAL gu))))])) → va_S (fun z => s.heap.size ≤ z) s.heap H locs → ∀ ls : Array Slot, lv_has ls 9 [(4, .int (zI xi)), (3, .ref ou), (2, .ref (q 0)), (1, .ref (o 0 0)), (0, .ref b)] → W p l e room_1 s m #[Value.ref b] below meth c H locs (cells + 1) (slots + 6) Q (F0 m 1683 ls [])) : W p l e room_1 s m #[Value.ref b] below meth c H locs cells slots Q (F0 m 1327 ls []) := by
  have hcl1 := hcl.1
  have hcl2 := hcl.2
  have hA : ∀ z : Nat, s.heap.size ≤ z → s.heap.size ≤ z := fun _ h => h
  have hbA : ¬ (s.heap.size ≤ b) := Nat.not_le.mpr hbl
  have hr1 := zX_r xs (xi + 1)
  by_cases hc9 : (-50000 ≤ (zX xs (xi + 1)) ∧ (zX xs (xi + 1)) ≤ 50000) ∧ (zX xs (xi + 1)) ≠ 0
  · refine lv_aload_n hx hb dL_law_1327 rfl (lv_at hl 3 rfl) ?_
    refine lv_aload_n hx hb dL_law_1328 rfl (lv_at hl 4 rfl) ?_
    refine lv_iload hx hb dL_law_1329 (lv_at hl 0 rfl) ?_
    refine zr_iconst hx hb dL_law_1331 ?_
    refine zr_iadd hx hb dL_law_1332 ?_
    refine zr_sls hx hb hXs hbl hbA hS hL (by omega) dL_law_1333 ?_
    refine lv_aload_n hx hb dL_law_1334 rfl (lv_at hl 1 rfl) ?_
    refine zc_xi (w := [((o 0) 0, .inr (5, [.ref ((o 1) 0), .ref ((o 2) 0), .ref ((o 3) 0), .ref ((o 8) 0)]))] ++ (zbat cs (o 1) A ++ [(ou, .inl (cs 2, 1, .inr (.inl (zAL gu))))])) (wr := zbat cs (o 2) T ++ ([(o 3 0, .inr (3, [.ref (o 3 1), .int (zI xm)])), (o 3 1, .inl (cs 3, 4, .inr (.inr (.inr (.inr (zR (o 4 0) (o 5 0) (o 6 0) (o 7 0)))))))] ++ (zbat cs (o 4) S0 ++ (zbat cs (o 5) S1 ++ (zbat cs (o 6) S2 ++ (zbat cs (o 7) S3 ++ (ztxt cs (o 8) f xl g xk xn xd xe ++ (zmod cs q A S V xm xth xam f xl xpl gr)))))))) (vx_runSX (As := [.ref (o 0 0), .int (zI (zX xs (xi + 1))), .ref ou]) (rest := []) ⟨hx, hb, hml, hown, hts⟩ (met_L_reaches_ok l D cs o ou gu H.size A n (zX xs (xi + 1)) (by exact hI9.1) (by omega) (zX_r xs _) hc9) (vx_cwSW 3 hts gL_law_L_reaches rfl rfl rfl (by decide +kernel) ⟨(Nat.le_of_ble_eq_true rfl), (Nat.le_of_ble_eq_true rfl)⟩) ⟨zPreZ.blind, fun U hU hW => zp_Z (hP.sub (ws' := [((o 0) 0, .inr (5, [.ref ((o 1) 0), .ref ((o 2) 0), .ref ((o 3) 0), .ref ((o 8) 0)]))] ++ (zbat cs (o 1) A ++ [(ou, .inl (cs 2, 1, .inr (.inl (zAL gu))))])) [0, 1, 2, 3, 4, 5, 6, 7, 54] rfl) hK (hD.sub (ws' := [((o 0) 0, .inr (5, [.ref ((o 1) 0), .ref ((o 2) 0), .ref ((o 3) 0), .ref ((o 8) 0)]))] ++ (zbat cs (o 1) A ++ [(ou, .inl (cs 2, 1, .inr (.inl (zAL gu))))])) [0, 1, 2, 3, 4, 5, 6, 7, 54] (by decide) rfl) hN hU hW⟩ rfl rfl hl.1 rfl (lv_room (Nat.le_of_ble_eq_true rfl)) dL_law_1335 ⟨by show cells + 0 ≤ 601024; omega, by show slots + 0 ≤ 7293034; omega⟩) hS hP hD hA [0, 1, 2, 3, 4, 5, 6, 7, 54] [8, 9, 10, 11, 12, 13, 14, 15, 16, 17, 18, 19, 20, 21, 22, 23, 24, 25, 26, 27, 28, 29, 30, 31, 32, 33, 34, 35, 36, 37, 38, 39, 40, 41, 42, 43, 44, 45, 46, 47, 48, 49, 50, 51, 52, 53] rfl rfl (by decide) (by decide) (fun H locs hP hD hS => ?_)
    have hP : va_P D vwCl (zest cs o A T S0 S1 S2 S3 xm f xl g xk xn xd xe ++ (zmod cs q A S V xm xth xam f xl xpl gr ++ [(ou, .inl (cs 2, 1, .inr (.inl (zAL (zU gu 0 (zW (zRe A (zX xs (xi + 1)))))))))])) H := zP_perm hP zPe_B
    have hD : va_D (fun z => s.heap.size ≤ z) (zest cs o A T S0 S1 S2 S3 xm f xl g xk xn xd xe ++ (zmod cs q A S V xm xth xam f xl xpl gr ++ [(ou, .inl (cs 2, 1, .inr (.inl (zAL (zU gu 0 (zW (zRe A (zX xs (xi + 1)))))))))])) := zD_perm hD zPe_B
    refine lv_istore (lv' := [(5, .int (zI 0)), (4, .int (zI xi)), (3, .ref ou), (2, .ref (q 0)), (1, .ref (o 0 0)), (0, .ref b)]) hx hb dL_law_1338 hl (by decide) rfl (fun ls hl => ?_)
    refine lv_aload_n hx hb dL_law_1340 rfl (lv_at hl 3 rfl) ?_
    refine lv_aload_n hx hb dL_law_1341 rfl (lv_at hl 5 rfl) ?_
    refine lv_iload hx hb dL_law_1342 (lv_at hl 1 rfl) ?_
    refine zr_iconst hx hb dL_law_1344 ?_
    refine zr_iadd hx hb dL_law_1345 ?_
    refine zr_sls hx hb hXs hbl hbA hS hL (by omega) dL_law_1346 ?_
    refine zc_ij (w := zmod cs q A S V xm xth xam f xl xpl gr) (wr := zest cs o A T S0 S1 S2 S3 xm f xl g xk xn xd xe ++ [(ou, .inl (cs 2, 1, .inr (.inl (zAL (zU gu 0 (zW (zRe A (zX xs (xi + 1)))))))))]) (va_runV (As := [.int (zI (zX xs (xi + 1)))]) (rest := []) ⟨hx, hb, hml, hown, hts⟩ (met_X6_reaches_ok l D cs q H.size A S V xm xth xam f xl xpl gr n (zX xs (xi + 1)) (by exact hI9.1) (by omega) (zX_r xs _) hc9) (cwV 1 hts gL_law_X6_reaches rfl rfl rfl (by decide +kernel) ⟨(Nat.le_of_ble_eq_true rfl), (Nat.le_of_ble_eq_true rfl)⟩) ⟨zPreZ.blind, va_recv hK hP (ci := 6) (q0 := 48) rfl rfl, fun U hU hW => zp_Z (hP.sub (ws' := zmod cs q A S V xm xth xam f xl xpl gr) [48, 49, 50, 51, 52, 53] rfl) hK (hD.sub (ws' := zmod cs q A S V xm xth xam f xl xpl gr) [48, 49, 50, 51, 52, 53] (by decide) rfl) hN hU hW⟩ rfl rfl hl.1 rfl (lv_room (Nat.le_of_ble_eq_true rfl)) dL_law_1347 ⟨by show cells + 0 + 0 ≤ 601024; omega, by show slots + 0 + 0 ≤ 7293034; omega⟩) hS hP hD hA [48, 49, 50, 51, 52, 53] [0, 1, 2, 3, 4, 5, 6, 7, 8, 9, 10, 11, 12, 13, 14, 15, 16, 17, 18, 19, 20, 21, 22, 23, 24, 25, 26, 27, 28, 29, 30, 31, 32, 33, 34, 35, 36, 37, 38, 39, 40, 41, 42, 43, 44, 45, 46, 47, 54] rfl rfl (by decide) (by decide) (fun H locs hP hD hS => ?_)
    have hP : va_P D vwCl (zest cs o A T S0 S1 S2 S3 xm f xl g xk xn xd xe ++ (zmod cs q A S V xm 0 xam f xl xpl gr ++ [(ou, .inl (cs 2, 1, .inr (.inl (zAL (zU gu 0 (zW (zRe A (zX xs (xi + 1)))))))))])) H := zP_perm hP zPe_m
    have hD : va_D (fun z => s.heap.size ≤ z) (zest cs o A T S0 S1 S2 S3 xm f xl g xk xn xd xe ++ (zmod cs q A S V xm 0 xam f xl xpl gr ++ [(ou, .inl (cs 2, 1, .inr (.inl (zAL (zU gu 0 (zW (zRe A (zX xs (xi + 1)))))))))])) := zD_perm hD zPe_m
    refine lv_istore (lv' := [(6, .int (zI (zRe A (zX xs (xi + 1))))), (5, .int (zI 0)), (4, .int (zI xi)), (3, .ref ou), (2, .ref (q 0)), (1, .ref (o 0 0)), (0, .ref b)]) hx hb dL_law_1350 hl (by decide) rfl (fun ls hl => ?_)
    refine lv_aload_n hx hb dL_law_1352 rfl (lv_at hl 4 rfl) ?_
    refine zc_ri (va_runV (As := []) (rest := []) ⟨hx, hb, hml, hown, hts⟩ (met_X6_thrown l D cs q A S V xm 0 xam f xl xpl gr) (cwV 0 hts gL_law_X6_thrown rfl rfl rfl (by decide +kernel) ⟨(Nat.le_of_ble_eq_true rfl), (Nat.le_of_ble_eq_true rfl)⟩) ⟨zPre.blind, va_recv hK hP (ci := 6) (q0 := 48) rfl rfl, fun U hU hW => zp_R (hP.sub (ws' := zmod cs q A S V xm 0 xam f xl xpl gr) [48, 49, 50, 51, 52, 53] rfl) hK (hD.sub (ws' := zmod cs q A S V xm 0 xam f xl xpl gr) [48, 49, 50, 51, 52, 53] (by decide) rfl) hN hU hW⟩ rfl rfl hl.1 rfl (lv_room (Nat.le_of_ble_eq_true rfl)) dL_law_1353 ⟨by show cells + 0 + 0 + 0 ≤ 601024; omega, by show slots + 0 + 0 + 0 ≤ 7293034; omega⟩) ?_
    refine lv_iload hx hb dL_law_1356 (lv_at hl 1 rfl) ?_
    refine zr_iceq (tgt := 1363) hx hb dL_law_1358 (by decide) ?_
    refine lv_iload hx hb dL_law_1363 (lv_at hl 1 rfl) ?_
    refine zr_if_ne (tgt := 1380) hx hb dL_law_1365 (by decide) (by decide) (fun h9 => absurd h9 (by decide)) (fun _ => ?_)
    refine lv_aload_n hx hb dL_law_1368 rfl (lv_at hl 3 rfl) ?_
    refine zr_iconst hx hb dL_law_1369 ?_
    refine zr_lald (D := D) (g := zU gu 0 (zW (zRe A (zX xs (xi + 1))))) hx hb hK hP 54 2 rfl rfl (by decide) (by decide) dL_law_1370 ?_
    rw [show (zU gu 0 (zW (zRe A (zX xs (xi + 1))))) 0 = zW (zRe A (zX xs (xi + 1))) from rfl]
    refine lv_iload hx hb dL_law_1371 (lv_at hl 0 rfl) ?_
    refine lv_i2l hx hb dL_law_1373 (zW_l (zRe A (zX xs (xi + 1)))) ?_
    refine zr_lceq (tgt := 1380) hx hb dL_law_1374 dL_law_1375 (by decide) ?_
    refine lv_goto (tgt := 1683) hx hb dL_law_1380 (by decide) ?_
    refine W.widen (k := cells + 1) (n := slots + 6) (by show cells + 0 + 0 ≤ cells + 1; omega) (by show slots + 0 + 0 ≤ slots + 6; omega) ?_
    exact kk o q n A T S0 S1 S2 S3 S V xm f xl g xk xn xd xe 0 xam xpl gr (zU gu 0 (zW (zRe A (zX xs (xi + 1))))) (by exact hI9) (by omega) H locs hP hD hS ls (lv_sub hl [2, 3, 4, 5, 6] rfl)
  replace hc9 := hc9
  refine lv_aload_n hx hb dL_law_1327 rfl (lv_at hl 3 rfl) ?_
  refine lv_aload_n hx hb dL_law_1328 rfl (lv_at hl 4 rfl) ?_
  refine lv_iload hx hb dL_law_1329 (lv_at hl 0 rfl) ?_
  refine zr_iconst hx hb dL_law_1331 ?_
  refine zr_iadd hx hb dL_law_1332 ?_
  refine zr_sls hx hb hXs hbl hbA hS hL (by omega) dL_law_1333 ?_
  refine lv_aload_n hx hb dL_law_1334 rfl (lv_at hl 1 rfl) ?_
  refine zc_xk (vx_runSX (As := [.ref (o 0 0), .int (zI (zX xs (xi + 1))), .ref ou]) (rest := []) ⟨hx, hb, hml, hown, hts⟩ (met_L_reaches_x l hfl D cs o ou gu A (zX xs (xi + 1)) (zX_r xs _) hc9) (vx_cwSW 3 hts gL_law_L_reaches rfl rfl rfl (by decide +kernel) ⟨(Nat.le_of_ble_eq_true rfl), (Nat.le_of_ble_eq_true rfl)⟩) ⟨zPreU.blind, fun U hU hW => zp_U (hP.sub (ws' := [((o 0) 0, .inr (5, [.ref ((o 1) 0), .ref ((o 2) 0), .ref ((o 3) 0), .ref ((o 8) 0)]))] ++ (zbat cs (o 1) A ++ [(ou, .inl (cs 2, 1, .inr (.inl (zAL gu))))])) [0, 1, 2, 3, 4, 5, 6, 7, 54] rfl) hK (hD.sub (ws' := [((o 0) 0, .inr (5, [.ref ((o 1) 0), .ref ((o 2) 0), .ref ((o 3) 0), .ref ((o 8) 0)]))] ++ (zbat cs (o 1) A ++ [(ou, .inl (cs 2, 1, .inr (.inl (zAL gu))))])) [0, 1, 2, 3, 4, 5, 6, 7, 54] (by decide) rfl) hN (hG.at hS) hC hU hW⟩ rfl rfl hl.1 rfl (lv_room (Nat.le_of_ble_eq_true rfl)) dL_law_1335 ⟨by show cells + 1 ≤ 601024; omega, by show slots + 6 ≤ 7293034; omega⟩) hS hP (fun H locs hP hS => ?_)
  refine lv_istore (lv' := [(5, .int (zI 1)), (4, .int (zI xi)), (3, .ref ou), (2, .ref (q 0)), (1, .ref (o 0 0)), (0, .ref b)]) hx hb dL_law_1338 hl (by decide) rfl (fun ls hl => ?_)
  refine lv_aload_n hx hb dL_law_1340 rfl (lv_at hl 3 rfl) ?_
  refine lv_aload_n hx hb dL_law_1341 rfl (lv_at hl 5 rfl) ?_
  refine lv_iload hx hb dL_law_1342 (lv_at hl 1 rfl) ?_
  refine zr_iconst hx hb dL_law_1344 ?_
  refine zr_iadd hx hb dL_law_1345 ?_
  refine zr_sls hx hb hXs hbl hbA hS hL (by omega) dL_law_1346 ?_
  refine zc_ij (w := zmod cs q A S V xm xth xam f xl xpl gr) (wr := zest cs o A T S0 S1 S2 S3 xm f xl g xk xn xd xe ++ [(ou, .inl (cs 2, 1, .inr (.inl (zAL gu))))]) (va_runV (As := [.int (zI (zX xs (xi + 1)))]) (rest := []) ⟨hx, hb, hml, hown, hts⟩ (met_X6_reaches_no1 l D cs q H.size A S V xm xth xam f xl xpl gr (zX xs (xi + 1)) (zX_r xs _) hc9) (cwV 1 hts gL_law_X6_reaches rfl rfl rfl (by decide +kernel) ⟨(Nat.le_of_ble_eq_true rfl), (Nat.le_of_ble_eq_true rfl)⟩) ⟨zPreZ.blind, va_recv hK hP (ci := 6) (q0 := 48) rfl rfl, fun U hU hW => zp_Z (hP.sub (ws' := zmod cs q A S V xm xth xam f xl xpl gr) [48, 49, 50, 51, 52, 53] rfl) hK (hD.sub (ws' := zmod cs q A S V xm xth xam f xl xpl gr) [48, 49, 50, 51, 52, 53] (by decide) rfl) hN hU hW⟩ rfl rfl hl.1 rfl (lv_room (Nat.le_of_ble_eq_true rfl)) dL_law_1347 ⟨by show cells + 1 + 0 ≤ 601024; omega, by show slots + 6 + 0 ≤ 7293034; omega⟩) hS hP hD hA [48, 49, 50, 51, 52, 53] [0, 1, 2, 3, 4, 5, 6, 7, 8, 9, 10, 11, 12, 13, 14, 15, 16, 17, 18, 19, 20, 21, 22, 23, 24, 25, 26, 27, 28, 29, 30, 31, 32, 33, 34, 35, 36, 37, 38, 39, 40, 41, 42, 43, 44, 45, 46, 47, 54] rfl rfl (by decide) (by decide) (fun H locs hP hD hS => ?_)
  have hP : va_P D vwCl (zest cs o A T S0 S1 S2 S3 xm f xl g xk xn xd xe ++ (zmod cs q A S V xm 1 xam f xl xpl gr ++ [(ou, .inl (cs 2, 1, .inr (.inl (zAL gu))))])) H := zP_perm hP zPe_m
  have hD : va_D (fun z => s.heap.size ≤ z) (zest cs o A T S0 S1 S2 S3 xm f xl g xk xn xd xe ++ (zmod cs q A S V xm 1 xam f xl xpl gr ++ [(ou, .inl (cs 2, 1, .inr (.inl (zAL gu))))])) := zD_perm hD zPe_m
  refine lv_istore (lv' := [(6, .int (zI 0)), (5, .int (zI 1)), (4, .int (zI xi)), (3, .ref ou), (2, .ref (q 0)), (1, .ref (o 0 0)), (0, .ref b)]) hx hb dL_law_1350 hl (by decide) rfl (fun ls hl => ?_)
  refine lv_aload_n hx hb dL_law_1352 rfl (lv_at hl 4 rfl) ?_
  refine zc_ri (va_runV (As := []) (rest := []) ⟨hx, hb, hml, hown, hts⟩ (met_X6_thrown l D cs q A S V xm 1 xam f xl xpl gr) (cwV 0 hts gL_law_X6_thrown rfl rfl rfl (by decide +kernel) ⟨(Nat.le_of_ble_eq_true rfl), (Nat.le_of_ble_eq_true rfl)⟩) ⟨zPre.blind, va_recv hK hP (ci := 6) (q0 := 48) rfl rfl, fun U hU hW => zp_R (hP.sub (ws' := zmod cs q A S V xm 1 xam f xl xpl gr) [48, 49, 50, 51, 52, 53] rfl) hK (hD.sub (ws' := zmod cs q A S V xm 1 xam f xl xpl gr) [48, 49, 50, 51, 52, 53] (by decide) rfl) hN hU hW⟩ rfl rfl hl.1 rfl (lv_room (Nat.le_of_ble_eq_true rfl)) dL_law_1353 ⟨by show cells + 1 + 0 + 0 ≤ 601024; omega, by show slots + 6 + 0 + 0 ≤ 7293034; omega⟩) ?_
  refine lv_iload hx hb dL_law_1356 (lv_at hl 1 rfl) ?_
  refine zr_iceq (tgt := 1363) hx hb dL_law_1358 (by decide) ?_
  refine lv_iload hx hb dL_law_1363 (lv_at hl 1 rfl) ?_
  refine zr_if_ne (tgt := 1380) hx hb dL_law_1365 (by decide) (by decide) (fun _ => ?_) (fun h9 => absurd h9 (by decide))
  refine lv_goto (tgt := 1683) hx hb dL_law_1380 (by decide) ?_
  refine W.widen (k := cells + 1) (n := slots + 6) (by show cells + 1 + 0 ≤ cells + 1; omega) (by show slots + 6 + 0 ≤ slots + 6; omega) ?_
  exact kk o q n A T S0 S1 S2 S3 S V xm f xl g xk xn xd xe 1 xam xpl gr gu (by exact hI9) (by omega) H locs hP hD hS ls (lv_sub hl [2, 3, 4, 5, 6] rfl)
/-! the law: lasts -/
set_option maxHeartbeats 8000000 in
set_option maxRecDepth 100000 in
theorem law_lasts {p : Program} {e : Env} {s : State} {m : MethodId} {below : List Frame} {meth : Method} {c : Code} {b L : Nat} {xs : Nat → Int32} {Q : State → Prop} (l : Launch) (hfl : l.stackTraces = false) (D : va_G) (cs : Nat → ClassId) (hx : p.tables.exec = Jvm.exec) (hb : c.code = cL_law) (hml : c.maxLocals = 9) (hown : s.vm.findClass RL = some m.cls) (hts : ∀ w ∈ wsL_law, w.before #[Value.ref b] s = true) (hK : va_K D vwCl (zTy cs) s) (hN : zNW s) (hG : zXG s) (hC : zNcP s) (hO : va_AO RX1 s) (hL : L ≤ 2560) (hXs : va_X b L xs s s.heap) (hbl : b < s.heap.size) (xi : Int) (hxi : 0 ≤ xi ∧ xi + 5 ≤ L) (cells slots : Nat) (hcl : cells + 1 ≤ 601024 ∧ slots + 6 ≤ 7293034) (ou : Nat) (o : Nat → Nat → Nat) (q : Nat → Nat) (n : Int) (A T S0 S1 S2 S3 S V : Int → Int) (xm : Int) (f : Int → Int) (xl : Int) (g : Int → Int) (xk xn xd xe xth xam xpl : Int) (gr gu : Int → Int) (hI9 : zInL n A S0 S1 S2 S3 S xm f xl) (hn9 : 0 ≤ n ∧ n ≤ 1200 * xi) (H : Heap) (locs : List Loc) (hP : va_P D vwCl (zest cs o A T S0 S1 S2 S3 xm f xl g xk xn xd xe ++ (zmod cs q A S V xm xth xam f xl xpl gr ++ [(ou, .inl (cs 2, 1, .inr (.inl (zAL gu))))])) H) (hD : va_D (fun z => s.heap.size ≤ z) (zest cs o A T S0 S1 S2 S3 xm f xl g xk xn xd xe ++ (zmod cs q A S V xm xth xam f xl xpl gr ++ [(ou, .inl (cs 2, 1, .inr (.inl (zAL gu))))]))) (hS : va_S (fun z => s.heap.size ≤ z) s.heap H locs) (ls : Array Slot) (hl : lv_has ls 9 [(4, .int (zI xi)), (3, .ref ou), (2, .ref (q 0)), (1, .ref (o 0 0)), (0, .ref b)]) (kk : ∀ (o : Nat → Nat → Nat) (q : Nat → Nat) (n : Int) (A T S0 S1 S2 S3 S V : Int → Int) (xm : Int) (f : Int → Int) (xl : Int) (g : Int → Int) (xk xn xd xe xth xam xpl : Int) (gr gu : Int → Int), zInL n A S0 S1 S2 S3 S xm f xl → (0 ≤ n ∧ n ≤ 1200 * (xi + 5)) → ∀ (H : Heap) (locs : List Loc), va_P D vwCl (zest cs o A T S0 S1 S2 S3 xm f xl g xk xn xd xe ++ (zmod cs q A S V xm xth xam f xl xpl gr ++ [(ou, .inl (cs 2, 1, .inr (.inl (zAL gu))))])) H → va_D (fun z => s.heap.size ≤ z) (zest cs o A T S0 S1 S2 S3 xm f xl g xk xn xd xe ++ (zmod cs q A S V xm xth xam f xl xpl gr ++ [(ou, .inl (cs 2, 1, .inr (.inl (zAL gu))))])) → va_S (fun z => s.heap.size ≤ z) s.heap H locs → ∀ ls : Array Slot, lv_has ls 9 [(4, .int (zI xi)), (3, .ref ou), (2, .ref (q 0)), (1, .ref (o 0 0)), (0, .ref b)] → W p l e room_1 s m #[Value.ref b] below meth c H locs (cells + 1) (slots + 6) Q (F0 m 1683 ls [])) : W p l e room_1 s m #[Value.ref b] below meth c H locs cells slots Q (F0 m 1383 ls []) := by
  have hcl1 := hcl.1
  have hcl2 := hcl.2
  have hA : ∀ z : Nat, s.heap.size ≤ z → s.heap.size ≤ z := fun _ h => h
  have hbA : ¬ (s.heap.size ≤ b) := Nat.not_le.mpr hbl
  have hr1 := zX_r xs (xi + 1)
  have hr2 := zX_r xs (xi + 2)
  by_cases hc9 : (-50000 ≤ (zX xs (xi + 1)) ∧ (zX xs (xi + 1)) ≤ -1) ∧ 0 ≤ (zX xs (xi + 2)) ∧ (zX xs (xi + 2)) ≤ 10000
  · refine lv_aload_n hx hb dL_law_1383 rfl (lv_at hl 3 rfl) ?_
    refine lv_aload_n hx hb dL_law_1384 rfl (lv_at hl 4 rfl) ?_
    refine lv_iload hx hb dL_law_1385 (lv_at hl 0 rfl) ?_
    refine zr_iconst hx hb dL_law_1387 ?_
    refine zr_iadd hx hb dL_law_1388 ?_
    refine zr_sls hx hb hXs hbl hbA hS hL (by omega) dL_law_1389 ?_
    refine lv_aload_n hx hb dL_law_1390 rfl (lv_at hl 4 rfl) ?_
    refine lv_iload hx hb dL_law_1391 (lv_at hl 0 rfl) ?_
    refine zr_iconst hx hb dL_law_1393 ?_
    refine zr_iadd hx hb dL_law_1394 ?_
    refine zr_sls hx hb hXs hbl hbA hS hL (by omega) dL_law_1395 ?_
    refine lv_aload_n hx hb dL_law_1396 rfl (lv_at hl 1 rfl) ?_
    refine zc_xi (w := [((o 0) 0, .inr (5, [.ref ((o 1) 0), .ref ((o 2) 0), .ref ((o 3) 0), .ref ((o 8) 0)]))] ++ (zbat cs (o 1) A ++ [(ou, .inl (cs 2, 1, .inr (.inl (zAL gu))))])) (wr := zbat cs (o 2) T ++ ([(o 3 0, .inr (3, [.ref (o 3 1), .int (zI xm)])), (o 3 1, .inl (cs 3, 4, .inr (.inr (.inr (.inr (zR (o 4 0) (o 5 0) (o 6 0) (o 7 0)))))))] ++ (zbat cs (o 4) S0 ++ (zbat cs (o 5) S1 ++ (zbat cs (o 6) S2 ++ (zbat cs (o 7) S3 ++ (ztxt cs (o 8) f xl g xk xn xd xe ++ (zmod cs q A S V xm xth xam f xl xpl gr)))))))) (vx_runSX (As := [.ref (o 0 0), .int (zI (zX xs (xi + 1))), .int (zI (zX xs (xi + 2))), .ref ou]) (rest := []) ⟨hx, hb, hml, hown, hts⟩ (met_L_lasts_ok l D cs o ou gu H.size A n (zX xs (xi + 1)) (zX xs (xi + 2)) (by exact hI9.1) (by omega) (zX_r xs _) (zX_r xs _) hc9) (vx_cwSW 4 hts gL_law_L_lasts rfl rfl rfl (by decide +kernel) ⟨(Nat.le_of_ble_eq_true rfl), (Nat.le_of_ble_eq_true rfl)⟩) ⟨zPreZ.blind, fun U hU hW => zp_Z (hP.sub (ws' := [((o 0) 0, .inr (5, [.ref ((o 1) 0), .ref ((o 2) 0), .ref ((o 3) 0), .ref ((o 8) 0)]))] ++ (zbat cs (o 1) A ++ [(ou, .inl (cs 2, 1, .inr (.inl (zAL gu))))])) [0, 1, 2, 3, 4, 5, 6, 7, 54] rfl) hK (hD.sub (ws' := [((o 0) 0, .inr (5, [.ref ((o 1) 0), .ref ((o 2) 0), .ref ((o 3) 0), .ref ((o 8) 0)]))] ++ (zbat cs (o 1) A ++ [(ou, .inl (cs 2, 1, .inr (.inl (zAL gu))))])) [0, 1, 2, 3, 4, 5, 6, 7, 54] (by decide) rfl) hN hU hW⟩ rfl rfl hl.1 rfl (lv_room (Nat.le_of_ble_eq_true rfl)) dL_law_1397 ⟨by show cells + 0 ≤ 601024; omega, by show slots + 0 ≤ 7293034; omega⟩) hS hP hD hA [0, 1, 2, 3, 4, 5, 6, 7, 54] [8, 9, 10, 11, 12, 13, 14, 15, 16, 17, 18, 19, 20, 21, 22, 23, 24, 25, 26, 27, 28, 29, 30, 31, 32, 33, 34, 35, 36, 37, 38, 39, 40, 41, 42, 43, 44, 45, 46, 47, 48, 49, 50, 51, 52, 53] rfl rfl (by decide) (by decide) (fun H locs hP hD hS => ?_)
    have hP : va_P D vwCl (zest cs o A T S0 S1 S2 S3 xm f xl g xk xn xd xe ++ (zmod cs q A S V xm xth xam f xl xpl gr ++ [(ou, .inl (cs 2, 1, .inr (.inl (zAL (zU gu 0 (zW (zLa A (zX xs (xi + 1)) (zX xs (xi + 2)))))))))])) H := zP_perm hP zPe_B
    have hD : va_D (fun z => s.heap.size ≤ z) (zest cs o A T S0 S1 S2 S3 xm f xl g xk xn xd xe ++ (zmod cs q A S V xm xth xam f xl xpl gr ++ [(ou, .inl (cs 2, 1, .inr (.inl (zAL (zU gu 0 (zW (zLa A (zX xs (xi + 1)) (zX xs (xi + 2)))))))))])) := zD_perm hD zPe_B
    refine lv_istore (lv' := [(5, .int (zI 0)), (4, .int (zI xi)), (3, .ref ou), (2, .ref (q 0)), (1, .ref (o 0 0)), (0, .ref b)]) hx hb dL_law_1400 hl (by decide) rfl (fun ls hl => ?_)
    refine lv_aload_n hx hb dL_law_1402 rfl (lv_at hl 3 rfl) ?_
    refine lv_aload_n hx hb dL_law_1403 rfl (lv_at hl 5 rfl) ?_
    refine lv_iload hx hb dL_law_1404 (lv_at hl 1 rfl) ?_
    refine zr_iconst hx hb dL_law_1406 ?_
    refine zr_iadd hx hb dL_law_1407 ?_
    refine zr_sls hx hb hXs hbl hbA hS hL (by omega) dL_law_1408 ?_
    refine lv_aload_n hx hb dL_law_1409 rfl (lv_at hl 5 rfl) ?_
    refine lv_iload hx hb dL_law_1410 (lv_at hl 1 rfl) ?_
    refine zr_iconst hx hb dL_law_1412 ?_
    refine zr_iadd hx hb dL_law_1413 ?_
    refine zr_sls hx hb hXs hbl hbA hS hL (by omega) dL_law_1414 ?_
    refine zc_ij (w := zmod cs q A S V xm xth xam f xl xpl gr) (wr := zest cs o A T S0 S1 S2 S3 xm f xl g xk xn xd xe ++ [(ou, .inl (cs 2, 1, .inr (.inl (zAL (zU gu 0 (zW (zLa A (zX xs (xi + 1)) (zX xs (xi + 2)))))))))]) (va_runV (As := [.int (zI (zX xs (xi + 1))), .int (zI (zX xs (xi + 2)))]) (rest := []) ⟨hx, hb, hml, hown, hts⟩ (met_X6_lasts_ok l D cs q H.size A S V xm xth xam f xl xpl gr n (zX xs (xi + 1)) (zX xs (xi + 2)) (by exact hI9.1) (by omega) (zX_r xs _) (zX_r xs _) hc9) (cwV 2 hts gL_law_X6_lasts rfl rfl rfl (by decide +kernel) ⟨(Nat.le_of_ble_eq_true rfl), (Nat.le_of_ble_eq_true rfl)⟩) ⟨zPreZ.blind, va_recv hK hP (ci := 6) (q0 := 48) rfl rfl, fun U hU hW => zp_Z (hP.sub (ws' := zmod cs q A S V xm xth xam f xl xpl gr) [48, 49, 50, 51, 52, 53] rfl) hK (hD.sub (ws' := zmod cs q A S V xm xth xam f xl xpl gr) [48, 49, 50, 51, 52, 53] (by decide) rfl) hN hU hW⟩ rfl rfl hl.1 rfl (lv_room (Nat.le_of_ble_eq_true rfl)) dL_law_1415 ⟨by show cells + 0 + 0 ≤ 601024; omega, by show slots + 0 + 0 ≤ 7293034; omega⟩) hS hP hD hA [48, 49, 50, 51, 52, 53] [0, 1, 2, 3, 4, 5, 6, 7, 8, 9, 10, 11, 12, 13, 14, 15, 16, 17, 18, 19, 20, 21, 22, 23, 24, 25, 26, 27, 28, 29, 30, 31, 32, 33, 34, 35, 36, 37, 38, 39, 40, 41, 42, 43, 44, 45, 46, 47, 54] rfl rfl (by decide) (by decide) (fun H locs hP hD hS => ?_)
    have hP : va_P D vwCl (zest cs o A T S0 S1 S2 S3 xm f xl g xk xn xd xe ++ (zmod cs q A S V xm 0 xam f xl xpl gr ++ [(ou, .inl (cs 2, 1, .inr (.inl (zAL (zU gu 0 (zW (zLa A (zX xs (xi + 1)) (zX xs (xi + 2)))))))))])) H := zP_perm hP zPe_m
    have hD : va_D (fun z => s.heap.size ≤ z) (zest cs o A T S0 S1 S2 S3 xm f xl g xk xn xd xe ++ (zmod cs q A S V xm 0 xam f xl xpl gr ++ [(ou, .inl (cs 2, 1, .inr (.inl (zAL (zU gu 0 (zW (zLa A (zX xs (xi + 1)) (zX xs (xi + 2)))))))))])) := zD_perm hD zPe_m
    refine lv_istore (lv' := [(6, .int (zI (zLa A (zX xs (xi + 1)) (zX xs (xi + 2))))), (5, .int (zI 0)), (4, .int (zI xi)), (3, .ref ou), (2, .ref (q 0)), (1, .ref (o 0 0)), (0, .ref b)]) hx hb dL_law_1418 hl (by decide) rfl (fun ls hl => ?_)
    refine lv_aload_n hx hb dL_law_1420 rfl (lv_at hl 4 rfl) ?_
    refine zc_ri (va_runV (As := []) (rest := []) ⟨hx, hb, hml, hown, hts⟩ (met_X6_thrown l D cs q A S V xm 0 xam f xl xpl gr) (cwV 0 hts gL_law_X6_thrown rfl rfl rfl (by decide +kernel) ⟨(Nat.le_of_ble_eq_true rfl), (Nat.le_of_ble_eq_true rfl)⟩) ⟨zPre.blind, va_recv hK hP (ci := 6) (q0 := 48) rfl rfl, fun U hU hW => zp_R (hP.sub (ws' := zmod cs q A S V xm 0 xam f xl xpl gr) [48, 49, 50, 51, 52, 53] rfl) hK (hD.sub (ws' := zmod cs q A S V xm 0 xam f xl xpl gr) [48, 49, 50, 51, 52, 53] (by decide) rfl) hN hU hW⟩ rfl rfl hl.1 rfl (lv_room (Nat.le_of_ble_eq_true rfl)) dL_law_1421 ⟨by show cells + 0 + 0 + 0 ≤ 601024; omega, by show slots + 0 + 0 + 0 ≤ 7293034; omega⟩) ?_
    refine lv_iload hx hb dL_law_1424 (lv_at hl 1 rfl) ?_
    refine zr_iceq (tgt := 1431) hx hb dL_law_1426 (by decide) ?_
    refine lv_iload hx hb dL_law_1431 (lv_at hl 1 rfl) ?_
    refine zr_if_ne (tgt := 1448) hx hb dL_law_1433 (by decide) (by decide) (fun h9 => absurd h9 (by decide)) (fun _ => ?_)
    refine lv_aload_n hx hb dL_law_1436 rfl (lv_at hl 3 rfl) ?_
    refine zr_iconst hx hb dL_law_1437 ?_
    refine zr_lald (D := D) (g := zU gu 0 (zW (zLa A (zX xs (xi + 1)) (zX xs (xi + 2))))) hx hb hK hP 54 2 rfl rfl (by decide) (by decide) dL_law_1438 ?_
    rw [show (zU gu 0 (zW (zLa A (zX xs (xi + 1)) (zX xs (xi + 2))))) 0 = zW (zLa A (zX xs (xi + 1)) (zX xs (xi + 2))) from rfl]
    refine lv_iload hx hb dL_law_1439 (lv_at hl 0 rfl) ?_
    refine lv_i2l hx hb dL_law_1441 (zW_l (zLa A (zX xs (xi + 1)) (zX xs (xi + 2)))) ?_
    refine zr_lceq (tgt := 1448) hx hb dL_law_1442 dL_law_1443 (by decide) ?_
    refine lv_goto (tgt := 1683) hx hb dL_law_1448 (by decide) ?_
    refine W.widen (k := cells + 1) (n := slots + 6) (by show cells + 0 + 0 ≤ cells + 1; omega) (by show slots + 0 + 0 ≤ slots + 6; omega) ?_
    exact kk o q n A T S0 S1 S2 S3 S V xm f xl g xk xn xd xe 0 xam xpl gr (zU gu 0 (zW (zLa A (zX xs (xi + 1)) (zX xs (xi + 2))))) (by exact hI9) (by omega) H locs hP hD hS ls (lv_sub hl [2, 3, 4, 5, 6] rfl)
  replace hc9 := hc9
  refine lv_aload_n hx hb dL_law_1383 rfl (lv_at hl 3 rfl) ?_
  refine lv_aload_n hx hb dL_law_1384 rfl (lv_at hl 4 rfl) ?_
  refine lv_iload hx hb dL_law_1385 (lv_at hl 0 rfl) ?_
  refine zr_iconst hx hb dL_law_1387 ?_
  refine zr_iadd hx hb dL_law_1388 ?_
  refine zr_sls hx hb hXs hbl hbA hS hL (by omega) dL_law_1389 ?_
  refine lv_aload_n hx hb dL_law_1390 rfl (lv_at hl 4 rfl) ?_
  refine lv_iload hx hb dL_law_1391 (lv_at hl 0 rfl) ?_
  refine zr_iconst hx hb dL_law_1393 ?_
  refine zr_iadd hx hb dL_law_1394 ?_
  refine zr_sls hx hb hXs hbl hbA hS hL (by omega) dL_law_1395 ?_
  refine lv_aload_n hx hb dL_law_1396 rfl (lv_at hl 1 rfl) ?_
  refine zc_xk (vx_runSX (As := [.ref (o 0 0), .int (zI (zX xs (xi + 1))), .int (zI (zX xs (xi + 2))), .ref ou]) (rest := []) ⟨hx, hb, hml, hown, hts⟩ (met_L_lasts_x l hfl D cs o ou gu A (zX xs (xi + 1)) (zX xs (xi + 2)) (zX_r xs _) (zX_r xs _) hc9) (vx_cwSW 4 hts gL_law_L_lasts rfl rfl rfl (by decide +kernel) ⟨(Nat.le_of_ble_eq_true rfl), (Nat.le_of_ble_eq_true rfl)⟩) ⟨zPreU.blind, fun U hU hW => zp_U (hP.sub (ws' := [((o 0) 0, .inr (5, [.ref ((o 1) 0), .ref ((o 2) 0), .ref ((o 3) 0), .ref ((o 8) 0)]))] ++ (zbat cs (o 1) A ++ [(ou, .inl (cs 2, 1, .inr (.inl (zAL gu))))])) [0, 1, 2, 3, 4, 5, 6, 7, 54] rfl) hK (hD.sub (ws' := [((o 0) 0, .inr (5, [.ref ((o 1) 0), .ref ((o 2) 0), .ref ((o 3) 0), .ref ((o 8) 0)]))] ++ (zbat cs (o 1) A ++ [(ou, .inl (cs 2, 1, .inr (.inl (zAL gu))))])) [0, 1, 2, 3, 4, 5, 6, 7, 54] (by decide) rfl) hN (hG.at hS) hC hU hW⟩ rfl rfl hl.1 rfl (lv_room (Nat.le_of_ble_eq_true rfl)) dL_law_1397 ⟨by show cells + 1 ≤ 601024; omega, by show slots + 6 ≤ 7293034; omega⟩) hS hP (fun H locs hP hS => ?_)
  refine lv_istore (lv' := [(5, .int (zI 1)), (4, .int (zI xi)), (3, .ref ou), (2, .ref (q 0)), (1, .ref (o 0 0)), (0, .ref b)]) hx hb dL_law_1400 hl (by decide) rfl (fun ls hl => ?_)
  refine lv_aload_n hx hb dL_law_1402 rfl (lv_at hl 3 rfl) ?_
  refine lv_aload_n hx hb dL_law_1403 rfl (lv_at hl 5 rfl) ?_
  refine lv_iload hx hb dL_law_1404 (lv_at hl 1 rfl) ?_
  refine zr_iconst hx hb dL_law_1406 ?_
  refine zr_iadd hx hb dL_law_1407 ?_
  refine zr_sls hx hb hXs hbl hbA hS hL (by omega) dL_law_1408 ?_
  refine lv_aload_n hx hb dL_law_1409 rfl (lv_at hl 5 rfl) ?_
  refine lv_iload hx hb dL_law_1410 (lv_at hl 1 rfl) ?_
  refine zr_iconst hx hb dL_law_1412 ?_
  refine zr_iadd hx hb dL_law_1413 ?_
  refine zr_sls hx hb hXs hbl hbA hS hL (by omega) dL_law_1414 ?_
  refine zc_ij (w := zmod cs q A S V xm xth xam f xl xpl gr) (wr := zest cs o A T S0 S1 S2 S3 xm f xl g xk xn xd xe ++ [(ou, .inl (cs 2, 1, .inr (.inl (zAL gu))))]) (va_runV (As := [.int (zI (zX xs (xi + 1))), .int (zI (zX xs (xi + 2)))]) (rest := []) ⟨hx, hb, hml, hown, hts⟩ (met_X6_lasts_no1 l D cs q H.size A S V xm xth xam f xl xpl gr (zX xs (xi + 1)) (zX xs (xi + 2)) (zX_r xs _) (zX_r xs _) hc9) (cwV 2 hts gL_law_X6_lasts rfl rfl rfl (by decide +kernel) ⟨(Nat.le_of_ble_eq_true rfl), (Nat.le_of_ble_eq_true rfl)⟩) ⟨zPreZ.blind, va_recv hK hP (ci := 6) (q0 := 48) rfl rfl, fun U hU hW => zp_Z (hP.sub (ws' := zmod cs q A S V xm xth xam f xl xpl gr) [48, 49, 50, 51, 52, 53] rfl) hK (hD.sub (ws' := zmod cs q A S V xm xth xam f xl xpl gr) [48, 49, 50, 51, 52, 53] (by decide) rfl) hN hU hW⟩ rfl rfl hl.1 rfl (lv_room (Nat.le_of_ble_eq_true rfl)) dL_law_1415 ⟨by show cells + 1 + 0 ≤ 601024; omega, by show slots + 6 + 0 ≤ 7293034; omega⟩) hS hP hD hA [48, 49, 50, 51, 52, 53] [0, 1, 2, 3, 4, 5, 6, 7, 8, 9, 10, 11, 12, 13, 14, 15, 16, 17, 18, 19, 20, 21, 22, 23, 24, 25, 26, 27, 28, 29, 30, 31, 32, 33, 34, 35, 36, 37, 38, 39, 40, 41, 42, 43, 44, 45, 46, 47, 54] rfl rfl (by decide) (by decide) (fun H locs hP hD hS => ?_)
  have hP : va_P D vwCl (zest cs o A T S0 S1 S2 S3 xm f xl g xk xn xd xe ++ (zmod cs q A S V xm 1 xam f xl xpl gr ++ [(ou, .inl (cs 2, 1, .inr (.inl (zAL gu))))])) H := zP_perm hP zPe_m
  have hD : va_D (fun z => s.heap.size ≤ z) (zest cs o A T S0 S1 S2 S3 xm f xl g xk xn xd xe ++ (zmod cs q A S V xm 1 xam f xl xpl gr ++ [(ou, .inl (cs 2, 1, .inr (.inl (zAL gu))))])) := zD_perm hD zPe_m
  refine lv_istore (lv' := [(6, .int (zI 0)), (5, .int (zI 1)), (4, .int (zI xi)), (3, .ref ou), (2, .ref (q 0)), (1, .ref (o 0 0)), (0, .ref b)]) hx hb dL_law_1418 hl (by decide) rfl (fun ls hl => ?_)
  refine lv_aload_n hx hb dL_law_1420 rfl (lv_at hl 4 rfl) ?_
  refine zc_ri (va_runV (As := []) (rest := []) ⟨hx, hb, hml, hown, hts⟩ (met_X6_thrown l D cs q A S V xm 1 xam f xl xpl gr) (cwV 0 hts gL_law_X6_thrown rfl rfl rfl (by decide +kernel) ⟨(Nat.le_of_ble_eq_true rfl), (Nat.le_of_ble_eq_true rfl)⟩) ⟨zPre.blind, va_recv hK hP (ci := 6) (q0 := 48) rfl rfl, fun U hU hW => zp_R (hP.sub (ws' := zmod cs q A S V xm 1 xam f xl xpl gr) [48, 49, 50, 51, 52, 53] rfl) hK (hD.sub (ws' := zmod cs q A S V xm 1 xam f xl xpl gr) [48, 49, 50, 51, 52, 53] (by decide) rfl) hN hU hW⟩ rfl rfl hl.1 rfl (lv_room (Nat.le_of_ble_eq_true rfl)) dL_law_1421 ⟨by show cells + 1 + 0 + 0 ≤ 601024; omega, by show slots + 6 + 0 + 0 ≤ 7293034; omega⟩) ?_
  refine lv_iload hx hb dL_law_1424 (lv_at hl 1 rfl) ?_
  refine zr_iceq (tgt := 1431) hx hb dL_law_1426 (by decide) ?_
  refine lv_iload hx hb dL_law_1431 (lv_at hl 1 rfl) ?_
  refine zr_if_ne (tgt := 1448) hx hb dL_law_1433 (by decide) (by decide) (fun _ => ?_) (fun h9 => absurd h9 (by decide))
  refine lv_goto (tgt := 1683) hx hb dL_law_1448 (by decide) ?_
  refine W.widen (k := cells + 1) (n := slots + 6) (by show cells + 1 + 0 ≤ cells + 1; omega) (by show slots + 6 + 0 ≤ slots + 6; omega) ?_
  exact kk o q n A T S0 S1 S2 S3 S V xm f xl g xk xn xd xe 1 xam xpl gr gu (by exact hI9) (by omega) H locs hP hD hS ls (lv_sub hl [2, 3, 4, 5, 6] rfl)
