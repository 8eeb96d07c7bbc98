/-! curves and log: what they read -/
set_option maxHeartbeats 4000000 in
set_option maxRecDepth 100000 in
theorem met_X2_branchAt_lo (l : Launch) (D : va_G) (cs : Nat → ClassId) (q : Nat → Nat) (n : Int) (A : Int → Int) (xs : Int) (hI : zOK n A) (hn : 0 ≤ n ∧ n ≤ 3100000) (kxs : 0 ≤ xs ∧ xs ≤ 10000) : Met l yX2_branchAt wsX2_branchAt ({ frames := 1, cells := 0, slots := 0, locals := 14 }) (va_Pc [.ref (q 3), .int (zI xs)] (zPre D (zTy cs) (zbat cs q A))) (zRi (zI (zBr A 12 xs))) 0 0 (fun _ => False) := by
  refine Met.ofW (cc := cX2_branchAt) (maxL := 3) (ret := (some .int)) (by decide) rfl ?_
  intro p e s m args below meth c s₁ B hml hv
  obtain ⟨rfl, hP, hK, hD0, hN⟩ := hv
  have hx := B.exec
  have hb := B.bytes
  have hr := B.returns
  have hts := atoms_spec (ws := wsX2_branchAt) B.pre
  have hown : s.vm.findClass RX2 = some m.cls := findClass_of_methodNamed B.named
  have hlocks := B.notSynchronized
  have hD := hD0
  have hl := lv_entry ([.ref (q 3), .int (zI xs)]) (n := 3) (Nat.le_of_ble_eq_true rfl)
  rw [lg_entry_eq]
  generalize (lg_sl ([.ref (q 3), .int (zI xs)]) ++ List.replicate (3 - (lg_sl ([.ref (q 3), .int (zI xs)])).length) Slot.unset).toArray = ls at hl ⊢
  have hl : lv_has ls 3 [(0, .ref (q 3)), (1, .int (zI xs))] := hl
  obtain ⟨hc1, hc2⟩ := zOK_c hI
  have hk := zK_r kxs
  have hk1 := hc1 (zK xs) hk.1.1 (by omega)
  have hk2 := hc1 (zK xs + 1) (by omega) (by omega)
  have hk3 := hc2 (zK xs) hk.1.1 (by omega)
  rw [Int.add_assoc, Int.add_assoc] at hk3
  refine zr_iconst hx hb dX2_branchAt_0 ?_
  refine lv_iload_n hx hb dX2_branchAt_1 rfl (lv_at hl 1 rfl) ?_
  refine zr_sipush hx hb dX2_branchAt_2 (by decide) ?_
  refine zr_idiv hx hb dX2_branchAt_5 (by omega) (by decide) ?_
  refine zr_bipush hx hb dX2_branchAt_6 (by decide) ?_
  refine zm_minI hx hb (hml.trans hl.1.symm) hown (hts (.methodLink RX2 31 Lib.Math.min.name) (List.mem_of_getElem? (i := 1) rfl)) (hts (.static Lib.Math.min.name) (List.mem_of_getElem? (i := 2) rfl)) (hts (.initialized "java/lang/Math") (List.mem_of_getElem? (i := 3) rfl)) (hts (.code Lib.Math.min.name Lib.Math.min.code 2 (some .int)) (List.mem_of_getElem? (i := 4) rfl)) (Nat.le_of_ble_eq_true rfl) (Nat.le_of_ble_eq_true rfl) (Nat.le_of_ble_eq_true rfl) (Nat.le_of_ble_eq_true rfl) dX2_branchAt_8 (by omega) (by decide) ?_
  refine zm_maxI hx hb (hml.trans hl.1.symm) hown (hts (.methodLink RX2 37 Lib.Math.max.name) (List.mem_of_getElem? (i := 5) rfl)) (hts (.static Lib.Math.max.name) (List.mem_of_getElem? (i := 6) rfl)) (hts (.initialized "java/lang/Math") (List.mem_of_getElem? (i := 3) rfl)) (hts (.code Lib.Math.max.name Lib.Math.max.code 2 (some .int)) (List.mem_of_getElem? (i := 7) rfl)) (Nat.le_of_ble_eq_true rfl) (Nat.le_of_ble_eq_true rfl) (Nat.le_of_ble_eq_true rfl) (Nat.le_of_ble_eq_true rfl) dX2_branchAt_11 (by decide) (by omega) ?_
  refine zr_topi (b := zK xs) (by unfold zK; split <;> omega) ?_
  refine lv_istore_n (lv' := [(2, .int (zI (zK xs))), (0, .ref (q 3)), (1, .int (zI xs))]) hx hb dX2_branchAt_14 rfl hl (by decide) rfl (fun ls hl => ?_)
  refine lv_aload_n hx hb dX2_branchAt_15 rfl (lv_at hl 1 rfl) ?_
  refine lv_iload_n hx hb dX2_branchAt_16 rfl (lv_at hl 0 rfl) ?_
  refine zr_iald (D := D) (g := (zO A 12)) hx hb hK hP 3 0 rfl rfl (by decide) (by omega) dX2_branchAt_17 ?_
  rw [show (zO A 12) (zK xs) = A (12 + (zK xs)) from by first | rfl | simp [zO, zU]]
  refine lv_aload_n hx hb dX2_branchAt_18 rfl (lv_at hl 1 rfl) ?_
  refine lv_iload_n hx hb dX2_branchAt_19 rfl (lv_at hl 0 rfl) ?_
  refine zr_iconst hx hb dX2_branchAt_20 ?_
  refine zr_iadd hx hb dX2_branchAt_21 ?_
  refine zr_iald (D := D) (g := (zO A 12)) hx hb hK hP 3 0 rfl rfl (by decide) (by omega) dX2_branchAt_22 ?_
  rw [show (zO A 12) ((zK xs) + 1) = A (12 + ((zK xs) + 1)) from by first | rfl | simp [zO, zU]]
  refine lv_aload_n hx hb dX2_branchAt_23 rfl (lv_at hl 1 rfl) ?_
  refine lv_iload_n hx hb dX2_branchAt_24 rfl (lv_at hl 0 rfl) ?_
  refine zr_iald (D := D) (g := (zO A 12)) hx hb hK hP 3 0 rfl rfl (by decide) (by omega) dX2_branchAt_25 ?_
  rw [show (zO A 12) (zK xs) = A (12 + (zK xs)) from by first | rfl | simp [zO, zU]]
  refine zr_isub hx hb dX2_branchAt_26 ?_
  refine lv_iload_n hx hb dX2_branchAt_27 rfl (lv_at hl 2 rfl) ?_
  refine zr_sipush hx hb dX2_branchAt_28 (by decide) ?_
  refine lv_iload_n hx hb dX2_branchAt_31 rfl (lv_at hl 0 rfl) ?_
  refine zr_imul hx hb dX2_branchAt_32 ?_
  refine zr_isub hx hb dX2_branchAt_33 ?_
  have hm1 := zmul_r (x := (A (12 + ((zK xs) + 1))) - (A (12 + (zK xs)))) (y := xs - (1000 * (zK xs))) (a := 3000) (b := 1000) (by omega) (by omega)
  refine zr_imul hx hb dX2_branchAt_34 ?_
  refine zr_sipush hx hb dX2_branchAt_35 (by decide) ?_
  refine zr_idiv hx hb dX2_branchAt_38 (by omega) (by decide) ?_
  refine zr_iadd hx hb dX2_branchAt_39 ?_
  exact W.iret hx hb hr (fun t ht hW => ⟨_, rfl, (congrArg zI (show (A (12 + (zK xs))) + ((((A (12 + ((zK xs) + 1))) - (A (12 + (zK xs)))) * (xs - (1000 * (zK xs)))) / 1000) = zBr A 12 xs from by unfold zBr; rw [Int.add_assoc 12 (zK xs) 1])), ht⟩) (fun q hq => absurd hq List.not_mem_nil) dX2_branchAt_40
set_option maxHeartbeats 4000000 in
set_option maxRecDepth 100000 in
theorem met_X2_branchAt_up (l : Launch) (D : va_G) (cs : Nat → ClassId) (q : Nat → Nat) (n : Int) (A : Int → Int) (xs : Int) (hI : zOK n A) (hn : 0 ≤ n ∧ n ≤ 3100000) (kxs : 0 ≤ xs ∧ xs ≤ 10000) : Met l yX2_branchAt wsX2_branchAt ({ frames := 1, cells := 0, slots := 0, locals := 14 }) (va_Pc [.ref (q 4), .int (zI xs)] (zPre D (zTy cs) (zbat cs q A))) (zRi (zI (zBr A 23 xs))) 0 0 (fun _ => False) := by
  refine Met.ofW (cc := cX2_branchAt) (maxL := 3) (ret := (some .int)) (by decide) rfl ?_
  intro p e s m args below meth c s₁ B hml hv
  obtain ⟨rfl, hP, hK, hD0, hN⟩ := hv
  have hx := B.exec
  have hb := B.bytes
  have hr := B.returns
  have hts := atoms_spec (ws := wsX2_branchAt) B.pre
  have hown : s.vm.findClass RX2 = some m.cls := findClass_of_methodNamed B.named
  have hlocks := B.notSynchronized
  have hD := hD0
  have hl := lv_entry ([.ref (q 4), .int (zI xs)]) (n := 3) (Nat.le_of_ble_eq_true rfl)
  rw [lg_entry_eq]
  generalize (lg_sl ([.ref (q 4), .int (zI xs)]) ++ List.replicate (3 - (lg_sl ([.ref (q 4), .int (zI xs)])).length) Slot.unset).toArray = ls at hl ⊢
  have hl : lv_has ls 3 [(0, .ref (q 4)), (1, .int (zI xs))] := hl
  obtain ⟨hc1, hc2⟩ := zOK_c hI
  have hk := zK_r kxs
  have hk1 := hc1 (zK xs) hk.1.1 (by omega)
  have hk2 := hc1 (zK xs + 1) (by omega) (by omega)
  have hk3 := hc2 (zK xs) hk.1.1 (by omega)
  rw [Int.add_assoc, Int.add_assoc] at hk3
  refine zr_iconst hx hb dX2_branchAt_0 ?_
  refine lv_iload_n hx hb dX2_branchAt_1 rfl (lv_at hl 1 rfl) ?_
  refine zr_sipush hx hb dX2_branchAt_2 (by decide) ?_
  refine zr_idiv hx hb dX2_branchAt_5 (by omega) (by decide) ?_
  refine zr_bipush hx hb dX2_branchAt_6 (by decide) ?_
  refine zm_minI hx hb (hml.trans hl.1.symm) hown (hts (.methodLink RX2 31 Lib.Math.min.name) (List.mem_of_getElem? (i := 1) rfl)) (hts (.static Lib.Math.min.name) (List.mem_of_getElem? (i := 2) rfl)) (hts (.initialized "java/lang/Math") (List.mem_of_getElem? (i := 3) rfl)) (hts (.code Lib.Math.min.name Lib.Math.min.code 2 (some .int)) (List.mem_of_getElem? (i := 4) rfl)) (Nat.le_of_ble_eq_true rfl) (Nat.le_of_ble_eq_true rfl) (Nat.le_of_ble_eq_true rfl) (Nat.le_of_ble_eq_true rfl) dX2_branchAt_8 (by omega) (by decide) ?_
  refine zm_maxI hx hb (hml.trans hl.1.symm) hown (hts (.methodLink RX2 37 Lib.Math.max.name) (List.mem_of_getElem? (i := 5) rfl)) (hts (.static Lib.Math.max.name) (List.mem_of_getElem? (i := 6) rfl)) (hts (.initialized "java/lang/Math") (List.mem_of_getElem? (i := 3) rfl)) (hts (.code Lib.Math.max.name Lib.Math.max.code 2 (some .int)) (List.mem_of_getElem? (i := 7) rfl)) (Nat.le_of_ble_eq_true rfl) (Nat.le_of_ble_eq_true rfl) (Nat.le_of_ble_eq_true rfl) (Nat.le_of_ble_eq_true rfl) dX2_branchAt_11 (by decide) (by omega) ?_
  refine zr_topi (b := zK xs) (by unfold zK; split <;> omega) ?_
  refine lv_istore_n (lv' := [(2, .int (zI (zK xs))), (0, .ref (q 4)), (1, .int (zI xs))]) hx hb dX2_branchAt_14 rfl hl (by decide) rfl (fun ls hl => ?_)
  refine lv_aload_n hx hb dX2_branchAt_15 rfl (lv_at hl 1 rfl) ?_
  refine lv_iload_n hx hb dX2_branchAt_16 rfl (lv_at hl 0 rfl) ?_
  refine zr_iald (D := D) (g := (zO A 23)) hx hb hK hP 4 0 rfl rfl (by decide) (by omega) dX2_branchAt_17 ?_
  rw [show (zO A 23) (zK xs) = A (23 + (zK xs)) from by first | rfl | simp [zO, zU]]
  refine lv_aload_n hx hb dX2_branchAt_18 rfl (lv_at hl 1 rfl) ?_
  refine lv_iload_n hx hb dX2_branchAt_19 rfl (lv_at hl 0 rfl) ?_
  refine zr_iconst hx hb dX2_branchAt_20 ?_
  refine zr_iadd hx hb dX2_branchAt_21 ?_
  refine zr_iald (D := D) (g := (zO A 23)) hx hb hK hP 4 0 rfl rfl (by decide) (by omega) dX2_branchAt_22 ?_
  rw [show (zO A 23) ((zK xs) + 1) = A (23 + ((zK xs) + 1)) from by first | rfl | simp [zO, zU]]
  refine lv_aload_n hx hb dX2_branchAt_23 rfl (lv_at hl 1 rfl) ?_
  refine lv_iload_n hx hb dX2_branchAt_24 rfl (lv_at hl 0 rfl) ?_
  refine zr_iald (D := D) (g := (zO A 23)) hx hb hK hP 4 0 rfl rfl (by decide) (by omega) dX2_branchAt_25 ?_
  rw [show (zO A 23) (zK xs) = A (23 + (zK xs)) from by first | rfl | simp [zO, zU]]
  refine zr_isub hx hb dX2_branchAt_26 ?_
  refine lv_iload_n hx hb dX2_branchAt_27 rfl (lv_at hl 2 rfl) ?_
  refine zr_sipush hx hb dX2_branchAt_28 (by decide) ?_
  refine lv_iload_n hx hb dX2_branchAt_31 rfl (lv_at hl 0 rfl) ?_
  refine zr_imul hx hb dX2_branchAt_32 ?_
  refine zr_isub hx hb dX2_branchAt_33 ?_
  have hm1 := zmul_r (x := (A (23 + ((zK xs) + 1))) - (A (23 + (zK xs)))) (y := xs - (1000 * (zK xs))) (a := 3000) (b := 1000) (by omega) (by omega)
  refine zr_imul hx hb dX2_branchAt_34 ?_
  refine zr_sipush hx hb dX2_branchAt_35 (by decide) ?_
  refine zr_idiv hx hb dX2_branchAt_38 (by omega) (by decide) ?_
  refine zr_iadd hx hb dX2_branchAt_39 ?_
  exact W.iret hx hb hr (fun t ht hW => ⟨_, rfl, (congrArg zI (show (A (23 + (zK xs))) + ((((A (23 + ((zK xs) + 1))) - (A (23 + (zK xs)))) * (xs - (1000 * (zK xs)))) / 1000) = zBr A 23 xs from by unfold zBr; rw [Int.add_assoc 23 (zK xs) 1])), ht⟩) (fun q hq => absurd hq List.not_mem_nil) dX2_branchAt_40
set_option maxHeartbeats 4000000 in
set_option maxRecDepth 100000 in
theorem met_X2_voltageAt (l : Launch) (D : va_G) (cs : Nat → ClassId) (q : Nat → Nat) (n : Int) (A : Int → Int) (xs xh : Int) (hI : zOK n A) (hn : 0 ≤ n ∧ n ≤ 3100000) (kxs : 0 ≤ xs ∧ xs ≤ 10000) (kxh : 0 ≤ xh ∧ xh ≤ 1000) : Met l yX2_voltageAt wsX2_voltageAt ({ frames := 2, cells := 0, slots := 0, locals := 36 }) (va_Pc [.ref (q 2), .int (zI xs), .int (zI xh)] (zPre D (zTy cs) (zbat cs q A))) (zRi (zI (zV A xs xh))) 0 0 (fun _ => False) := by
  refine Met.ofW (cc := cX2_voltageAt) (maxL := 4) (ret := (some .int)) (by decide) rfl ?_
  intro p e s m args below meth c s₁ B hml hv
  obtain ⟨rfl, hP, hK, hD0, hN⟩ := hv
  have hx := B.exec
  have hb := B.bytes
  have hr := B.returns
  have hts := atoms_spec (ws := wsX2_voltageAt) B.pre
  have hown : s.vm.findClass RX2 = some m.cls := findClass_of_methodNamed B.named
  have hlocks := B.notSynchronized
  have hD := hD0
  have hl := lv_entry ([.ref (q 2), .int (zI xs), .int (zI xh)]) (n := 4) (Nat.le_of_ble_eq_true rfl)
  rw [lg_entry_eq]
  generalize (lg_sl ([.ref (q 2), .int (zI xs), .int (zI xh)]) ++ List.replicate (4 - (lg_sl ([.ref (q 2), .int (zI xs), .int (zI xh)])).length) Slot.unset).toArray = ls at hl ⊢
  have hl : lv_has ls 4 [(0, .ref (q 2)), (1, .int (zI xs)), (2, .int (zI xh))] := hl
  have hiX2 : ∀ w ∈ wsX20, w ∈ wsX2_voltageAt := by decide +kernel
  have hcv : zCv A := zOK_c hI
  have hBr := zBr_r hcv kxs
  refine lv_aload_n hx hb dX2_voltageAt_0 rfl (lv_at hl 0 rfl) ?_
  refine va_get (D := D) (ci := 2) (v := .ref (q 3)) (C := RX2) (T := TX2) (N := 2) hx hb hts hiX2 hown hK hP 2 rfl rfl 0 (by decide) (hts (.fieldLink RX2 11 "ChargeEstimator$Curves" "lower" "[I") (List.mem_of_getElem? (i := 1) rfl)) (fun _ h9 => h9) rfl dX2_voltageAt_1 ?_
  refine lv_iload_n hx hb dX2_voltageAt_4 rfl (lv_at hl 1 rfl) ?_
  refine zc_ri (va_runS (As := [.ref (q 3), .int (zI xs)]) (rest := []) ⟨hx, hb, hml, hown, hts⟩ (met_X2_branchAt_lo l D cs q _ A xs (by assumption) (by assumption) (by first | assumption | omega)) (va_cwS 2 hts gX2_voltageAt_X2_branchAt rfl rfl rfl (by decide +kernel) ⟨Nat.le_of_ble_eq_true rfl, Nat.le_of_ble_eq_true rfl⟩) ⟨zPre.blind, fun U hU hW => zp_R hP hK hD hN hU hW⟩ rfl rfl hl.1 rfl (lv_room (Nat.le_of_ble_eq_true rfl)) dX2_voltageAt_5 ⟨Nat.le_of_ble_eq_true rfl, Nat.le_of_ble_eq_true rfl⟩) ?_
  refine lv_istore_n (lv' := [(3, .int (zI (zBr A 12 xs))), (0, .ref (q 2)), (1, .int (zI xs)), (2, .int (zI xh))]) hx hb dX2_voltageAt_8 rfl hl (by decide) rfl (fun ls hl => ?_)
  refine lv_iload_n hx hb dX2_voltageAt_9 rfl (lv_at hl 0 rfl) ?_
  refine lv_aload_n hx hb dX2_voltageAt_10 rfl (lv_at hl 1 rfl) ?_
  refine va_get (D := D) (ci := 2) (v := .ref (q 4)) (C := RX2) (T := TX2) (N := 2) hx hb hts hiX2 hown hK hP 2 rfl rfl 1 (by decide) (hts (.fieldLink RX2 15 "ChargeEstimator$Curves" "upper" "[I") (List.mem_of_getElem? (i := 2) rfl)) (fun _ h9 => h9) rfl dX2_voltageAt_11 ?_
  refine lv_iload_n hx hb dX2_voltageAt_14 rfl (lv_at hl 2 rfl) ?_
  refine zc_ri (va_runS (As := [.ref (q 4), .int (zI xs)]) (rest := [.int (zI (zBr A 12 xs))]) ⟨hx, hb, hml, hown, hts⟩ (met_X2_branchAt_up l D cs q _ A xs (by assumption) (by assumption) (by first | assumption | omega)) (va_cwS 2 hts gX2_voltageAt_X2_branchAt rfl rfl rfl (by decide +kernel) ⟨Nat.le_of_ble_eq_true rfl, Nat.le_of_ble_eq_true rfl⟩) ⟨zPre.blind, fun U hU hW => zp_R hP hK hD hN hU hW⟩ rfl rfl hl.1 rfl (lv_room (Nat.le_of_ble_eq_true rfl)) dX2_voltageAt_15 ⟨Nat.le_of_ble_eq_true rfl, Nat.le_of_ble_eq_true rfl⟩) ?_
  refine lv_iload_n hx hb dX2_voltageAt_18 rfl (lv_at hl 0 rfl) ?_
  refine zr_isub hx hb dX2_voltageAt_19 ?_
  refine lv_iload_n hx hb dX2_voltageAt_20 rfl (lv_at hl 3 rfl) ?_
  have hm1 := zmul_r (x := (zBr A 23 xs) - (zBr A 12 xs)) (y := xh) (a := 3000) (b := 1000) (by omega) (by omega)
  refine zr_imul hx hb dX2_voltageAt_21 ?_
  refine zr_sipush hx hb dX2_voltageAt_22 (by decide) ?_
  refine zr_idiv hx hb dX2_voltageAt_25 (by omega) (by decide) ?_
  refine zr_iadd hx hb dX2_voltageAt_26 ?_
  exact W.iret hx hb hr (fun t ht hW => ⟨_, rfl, (congrArg zI (show (zBr A 12 xs) + ((((zBr A 23 xs) - (zBr A 12 xs)) * xh) / 1000) = zV A xs xh from by rfl)), ht⟩) (fun q hq => absurd hq List.not_mem_nil) dX2_voltageAt_27
theorem zhalf {x y P M : Int} (h : 2 * x ≤ y) (hP : 1 ≤ P) (hy : y * P ≤ M) : x * (2 * P) ≤ M := by
  have h1 : 2 * x * P ≤ y * P := Int.mul_le_mul_of_nonneg_right h (by omega)
  have h2 : x * (2 * P) = 2 * x * P := by rw [← Int.mul_assoc, Int.mul_comm x 2]
  omega
theorem zpow_s {i : Int} (h : 0 ≤ i) : (2 : Int) ^ (i + 1).toNat = 2 * 2 ^ i.toNat := by
  rw [show (i + 1).toNat = i.toNat + 1 by omega, Int.pow_succ, Int.mul_comm]
theorem zpow_1 (n : Nat) : (1 : Int) ≤ 2 ^ n := by
  induction n with
  | zero => decide
  | succ n ih => rw [Int.pow_succ]; omega
theorem zend {f g P M i N : Int} (hP : P = 2 ^ i.toNat) (hm : (g - f) * P ≤ M) (hi : i = N) (hN : M < 2 ^ N.toNat) (hfg : f ≤ g) : f = g := by
  subst hi
  rw [← hP] at hN
  rcases Int.lt_or_le f g with q | q
  · have h1 : 1 * P ≤ (g - f) * P := Int.mul_le_mul_of_nonneg_right (by omega) (by rw [hP]; have := zpow_1 i.toNat; omega)
    omega
  · omega
theorem zInv_fin {A : Int → Int} {v h f g : Int} (hf : 0 ≤ f ∧ f ≤ g ∧ g ≤ 10000) (e : f = g) (jl : ∀ k : Int, 0 ≤ k → k < f → zV A k h < v) (jh : g < 10000 → v ≤ zV A g h) : f = zInv A v h :=
  (zInv_eq hf.1 (by omega) jl (by rw [e]; exact jh)).symm
set_option maxHeartbeats 4000000 in
set_option maxRecDepth 100000 in
theorem met_X2_socAt (l : Launch) (D : va_G) (cs : Nat → ClassId) (q : Nat → Nat) (n : Int) (A : Int → Int) (xv xh : Int) (hI : zOK n A) (hn : 0 ≤ n ∧ n ≤ 3100000) (kxv : -100 ≤ xv ∧ xv ≤ 6100) (kxh : 0 ≤ xh ∧ xh ≤ 1000) : Met l yX2_socAt wsX2_socAt ({ frames := 3, cells := 0, slots := 0, locals := 59 }) (va_Pc [.ref (q 2), .int (zI xv), .int (zI xh)] (zPre D (zTy cs) (zbat cs q A))) (zRi (zI (zInv A xv xh))) 0 0 (fun _ => False) := by
  refine Met.ofW (cc := cX2_socAt) (maxL := 7) (ret := (some .int)) (by decide) rfl ?_
  intro p e s m args below meth c s₁ B hml hv
  obtain ⟨rfl, hP, hK, hD0, hN⟩ := hv
  have hx := B.exec
  have hb := B.bytes
  have hr := B.returns
  have hts := atoms_spec (ws := wsX2_socAt) B.pre
  have hown : s.vm.findClass RX2 = some m.cls := findClass_of_methodNamed B.named
  have hlocks := B.notSynchronized
  have hD := hD0
  have hl := lv_entry ([.ref (q 2), .int (zI xv), .int (zI xh)]) (n := 7) (Nat.le_of_ble_eq_true rfl)
  rw [lg_entry_eq]
  generalize (lg_sl ([.ref (q 2), .int (zI xv), .int (zI xh)]) ++ List.replicate (7 - (lg_sl ([.ref (q 2), .int (zI xv), .int (zI xh)])).length) Slot.unset).toArray = ls at hl ⊢
  have hl : lv_has ls 7 [(0, .ref (q 2)), (1, .int (zI xv)), (2, .int (zI xh))] := hl
  have hcv : zCv A := zOK_c hI
  refine zr_iconst hx hb dX2_socAt_0 ?_
  refine lv_istore_n (lv' := [(3, .int (zI 0)), (0, .ref (q 2)), (1, .int (zI xv)), (2, .int (zI xh))]) hx hb dX2_socAt_1 rfl hl (by decide) rfl (fun ls hl => ?_)
  refine zr_sipush hx hb dX2_socAt_2 (by decide) ?_
  refine lv_istore (lv' := [(4, .int (zI 10000)), (3, .int (zI 0)), (0, .ref (q 2)), (1, .int (zI xv)), (2, .int (zI xh))]) hx hb dX2_socAt_5 hl (by decide) rfl (fun ls hl => ?_)
  refine zr_iconst hx hb dX2_socAt_7 ?_
  refine lv_istore (lv' := [(5, .int (zI 0)), (4, .int (zI 10000)), (3, .int (zI 0)), (0, .ref (q 2)), (1, .int (zI xv)), (2, .int (zI xh))]) hx hb dX2_socAt_8 hl (by decide) rfl (fun ls hl => ?_)
  suffices J_10 : ∀ (nn : Nat) (xf : Int) (xg : Int) (xi : Int) (xP : Int) (jf : 0 ≤ xf ∧ xf ≤ xg ∧ xg ≤ 10000) (ji : 0 ≤ xi ∧ xi ≤ 16) (jP : xP = 2 ^ xi.toNat) (jm : (xg - xf) * xP ≤ 10000) (jl : ∀ k : Int, 0 ≤ k → k < xf → zV A k xh < xv) (jh : xg < 10000 → xv ≤ zV A xg xh) (hmu : 16 - xi < (nn : Int)) (ls : Array Slot) (hl : lv_has ls 7 [(3, .int (zI xf)), (4, .int (zI xg)), (5, .int (zI xi)), (0, .ref (q 2)), (1, .int (zI xv)), (2, .int (zI xh))]), W p l e (headSpec wsX2_socAt ({ frames := 3, cells := 0, slots := 0, locals := 59 })).room s m ([.ref (q 2), .int (zI xv), .int (zI xh)] : List Value).toArray below meth c s.heap [] 0 0 (MQ below (zRi (zI (zInv A xv xh))) ([.ref (q 2), .int (zI xv), .int (zI xh)] : List Value).toArray s 0 0 (fun _ => False)) (F0 m 10 ls []) by
    exact J_10 (((16 - 0) : Int).toNat + 1) 0 10000 0 1 (by omega) (by omega) (by first | rfl | (rw [zpow_s (by omega)]; omega)) (by first | decide | exact zhalf (y := xg - xf) (by omega) (by rw [jP]; exact zpow_1 _) jm) (by first | (intro k a b; omega) | assumption | (intro k a b; exact Int.lt_of_le_of_lt (zV_le (b := (xf + xg) / 2) hcv kxh a (by omega) (by omega)) (by assumption))) (by first | (intro a; omega) | assumption | (intro _; assumption)) (by have : (0 : Int) ≤ 16 - 0 := (by omega); omega) _ (lv_sub hl [2, 1, 0, 3, 4, 5] rfl)
  intro nn
  induction nn with
  | zero => intro xf xg xi xP jf ji jP jm jl jh hmu; exfalso; have : (0 : Int) ≤ 16 - xi := (by omega); omega
  | succ nn ih =>
    intro xf xg xi xP jf ji jP jm jl jh hmu ls hl
    refine lv_iload hx hb dX2_socAt_10 (lv_at hl 2 rfl) ?_
    refine zr_bipush hx hb dX2_socAt_12 (by decide) ?_
    refine zr_icmp_ge (tgt := 60) hx hb dX2_socAt_14 (by decide) (by omega) (by decide) (fun c1 => ?_) (fun c1 => ?_)
    · refine lv_iload_n hx hb dX2_socAt_60 rfl (lv_at hl 0 rfl) ?_
      exact W.iret hx hb hr (fun t ht hW => ⟨_, rfl, (congrArg zI (show xf = zInv A xv xh from by first | exact zInv_fin jf (by omega) jl jh | exact zInv_fin jf (zend jP jm (show xi = 16 by omega) (by decide) jf.2.1) jl jh)), ht⟩) (fun q hq => absurd hq List.not_mem_nil) dX2_socAt_61
    · refine lv_iload_n hx hb dX2_socAt_17 rfl (lv_at hl 0 rfl) ?_
      refine lv_iload hx hb dX2_socAt_18 (lv_at hl 1 rfl) ?_
      refine zr_icmp_ge (tgt := 60) hx hb dX2_socAt_20 (by decide) (by omega) (by omega) (fun c2 => ?_) (fun c2 => ?_)
      · refine lv_iload_n hx hb dX2_socAt_60 rfl (lv_at hl 0 rfl) ?_
        exact W.iret hx hb hr (fun t ht hW => ⟨_, rfl, (congrArg zI (show xf = zInv A xv xh from by first | exact zInv_fin jf (by omega) jl jh | exact zInv_fin jf (zend jP jm (show xi = 16 by omega) (by decide) jf.2.1) jl jh)), ht⟩) (fun q hq => absurd hq List.not_mem_nil) dX2_socAt_61
      · refine lv_iload_n hx hb dX2_socAt_23 rfl (lv_at hl 0 rfl) ?_
        refine lv_iload hx hb dX2_socAt_24 (lv_at hl 1 rfl) ?_
        refine zr_iadd hx hb dX2_socAt_26 ?_
        refine zr_iconst hx hb dX2_socAt_27 ?_
        refine zr_idiv hx hb dX2_socAt_28 (by omega) (by decide) ?_
        refine lv_istore (lv' := [(6, .int (zI ((xf + xg) / 2))), (3, .int (zI xf)), (4, .int (zI xg)), (5, .int (zI xi)), (0, .ref (q 2)), (1, .int (zI xv)), (2, .int (zI xh))]) hx hb dX2_socAt_29 hl (by decide) rfl (fun ls hl => ?_)
        refine lv_aload_n hx hb dX2_socAt_31 rfl (lv_at hl 4 rfl) ?_
        refine lv_iload hx hb dX2_socAt_32 (lv_at hl 0 rfl) ?_
        refine lv_iload_n hx hb dX2_socAt_34 rfl (lv_at hl 6 rfl) ?_
        refine zc_ri (va_runV (As := [.int (zI ((xf + xg) / 2)), .int (zI xh)]) (rest := []) ⟨hx, hb, hml, hown, hts⟩ (met_X2_voltageAt l D cs q _ A ((xf + xg) / 2) xh (by assumption) (by assumption) (by first | assumption | omega) (by first | assumption | omega)) (cwV 2 hts gX2_socAt_X2_voltageAt rfl rfl rfl (by decide +kernel) ⟨Nat.le_of_ble_eq_true rfl, Nat.le_of_ble_eq_true rfl⟩) ⟨zPre.blind, va_recv hK hP (ci := 2) (q0 := 2) rfl rfl, fun U hU hW => zp_R hP hK hD hN hU hW⟩ rfl rfl hl.1 rfl (lv_room (Nat.le_of_ble_eq_true rfl)) dX2_socAt_35 ⟨Nat.le_of_ble_eq_true rfl, Nat.le_of_ble_eq_true rfl⟩) ?_
        have hvr := zV_r (s := (xf + xg) / 2) hcv (by omega) kxh
        refine lv_iload_n hx hb dX2_socAt_38 rfl (lv_at hl 5 rfl) ?_
        refine zr_icmp_lt (tgt := 49) hx hb dX2_socAt_39 (by decide) (by omega) (by omega) (fun c3 => ?_) (fun c3 => ?_)
        · refine lv_iload hx hb dX2_socAt_49 (lv_at hl 0 rfl) ?_
          refine zr_iconst hx hb dX2_socAt_51 ?_
          refine zr_iadd hx hb dX2_socAt_52 ?_
          refine lv_istore_n (lv' := [(3, .int (zI (((xf + xg) / 2) + 1))), (6, .int (zI ((xf + xg) / 2))), (4, .int (zI xg)), (5, .int (zI xi)), (0, .ref (q 2)), (1, .int (zI xv)), (2, .int (zI xh))]) hx hb dX2_socAt_53 rfl hl (by decide) rfl (fun ls hl => ?_)
          refine zr_iinc (kk := 3) (lv' := [(5, .int (zI (xi + 1))), (3, .int (zI (((xf + xg) / 2) + 1))), (6, .int (zI ((xf + xg) / 2))), (4, .int (zI xg)), (0, .ref (q 2)), (1, .int (zI xv)), (2, .int (zI xh))]) hx hb dX2_socAt_54 hl rfl (by decide) rfl (fun ls hl => ?_)
          refine lv_goto (tgt := 10) hx hb dX2_socAt_57 (by decide) ?_
          exact ih (((xf + xg) / 2) + 1) xg (xi + 1) (2 * xP) (by omega) (by omega) (by first | rfl | (rw [zpow_s (by omega)]; omega)) (by first | decide | exact zhalf (y := xg - xf) (by omega) (by rw [jP]; exact zpow_1 _) jm) (by first | (intro k a b; omega) | assumption | (intro k a b; exact Int.lt_of_le_of_lt (zV_le (b := (xf + xg) / 2) hcv kxh a (by omega) (by omega)) (by assumption))) (by first | (intro a; omega) | assumption | (intro _; assumption)) (by omega) _ (lv_sub hl [1, 3, 0, 4, 5, 6] rfl)
        · refine lv_iload hx hb dX2_socAt_42 (lv_at hl 0 rfl) ?_
          refine lv_istore (lv' := [(4, .int (zI ((xf + xg) / 2))), (6, .int (zI ((xf + xg) / 2))), (3, .int (zI xf)), (5, .int (zI xi)), (0, .ref (q 2)), (1, .int (zI xv)), (2, .int (zI xh))]) hx hb dX2_socAt_44 hl (by decide) rfl (fun ls hl => ?_)
          refine lv_goto (tgt := 54) hx hb dX2_socAt_46 (by decide) ?_
          refine zr_iinc (kk := 3) (lv' := [(5, .int (zI (xi + 1))), (4, .int (zI ((xf + xg) / 2))), (6, .int (zI ((xf + xg) / 2))), (3, .int (zI xf)), (0, .ref (q 2)), (1, .int (zI xv)), (2, .int (zI xh))]) hx hb dX2_socAt_54 hl rfl (by decide) rfl (fun ls hl => ?_)
          refine lv_goto (tgt := 10) hx hb dX2_socAt_57 (by decide) ?_
          exact ih xf ((xf + xg) / 2) (xi + 1) (2 * xP) (by omega) (by omega) (by first | rfl | (rw [zpow_s (by omega)]; omega)) (by first | decide | exact zhalf (y := xg - xf) (by omega) (by rw [jP]; exact zpow_1 _) jm) (by first | (intro k a b; omega) | assumption | (intro k a b; exact Int.lt_of_le_of_lt (zV_le (b := (xf + xg) / 2) hcv kxh a (by omega) (by omega)) (by assumption))) (by first | (intro a; omega) | assumption | (intro _; assumption)) (by omega) _ (lv_sub hl [3, 1, 0, 4, 5, 6] rfl)
set_option maxHeartbeats 4000000 in
set_option maxRecDepth 100000 in
theorem met_X0_size (l : Launch) (D : va_G) (cs : Nat → ClassId) (q : Nat → Nat) (n : Int) (A : Int → Int)  : Met l yX0_size wsX0_size ({ frames := 0, cells := 0, slots := 0, locals := 0 }) (va_Pc [.ref (q 5)] (zPre D (zTy cs) (zbat cs q A))) (zRi (zI (A 52))) 0 0 (fun _ => False) := by
  refine Met.ofW (cc := cX0_size) (maxL := 1) (ret := (some .int)) (by decide) rfl ?_
  intro p e s m args below meth c s₁ B hml hv
  obtain ⟨rfl, hP, hK, hD0, hN⟩ := hv
  have hx := B.exec
  have hb := B.bytes
  have hr := B.returns
  have hts := atoms_spec (ws := wsX0_size) B.pre
  have hown : s.vm.findClass RX0 = some m.cls := findClass_of_methodNamed B.named
  have hlocks := B.notSynchronized
  have hD := hD0
  have hl := lv_entry ([.ref (q 5)]) (n := 1) (Nat.le_of_ble_eq_true rfl)
  rw [lg_entry_eq]
  generalize (lg_sl ([.ref (q 5)]) ++ List.replicate (1 - (lg_sl ([.ref (q 5)])).length) Slot.unset).toArray = ls at hl ⊢
  have hl : lv_has ls 1 [(0, .ref (q 5))] := hl
  have hiX0 : ∀ w ∈ wsX00, w ∈ wsX0_size := by decide +kernel
  refine lv_aload_n hx hb dX0_size_0 rfl (lv_at hl 0 rfl) ?_
  refine va_get (D := D) (ci := 0) (v := .int (zI (A 52))) (C := RX0) (T := TX0) (N := 2) hx hb hts hiX0 hown hK hP 5 rfl rfl 1 (by decide) (hts (.fieldLink RX0 15 "ChargeEstimator$AnchorLog" "size" "I") (List.mem_of_getElem? (i := 1) rfl)) (fun _ h9 => h9) rfl dX0_size_1 ?_
  exact W.iret hx hb hr (fun t ht hW => ⟨_, rfl, (congrArg zI (show A 52 = A 52 from by rfl)), ht⟩) (fun q hq => absurd hq List.not_mem_nil) dX0_size_4
set_option maxHeartbeats 4000000 in
set_option maxRecDepth 100000 in
theorem met_X0_part (l : Launch) (D : va_G) (cs : Nat → ClassId) (q : Nat → Nat) (n : Int) (A : Int → Int) (xa xw : Int) (kxa : 0 ≤ xa ∧ xa < 40) (kxw : 0 ≤ xw ∧ xw < 4) : Met l yX0_part wsX0_part ({ frames := 0, cells := 0, slots := 0, locals := 0 }) (va_Pc [.ref (q 5), .int (zI xa), .int (zI xw)] (zPre D (zTy cs) (zbat cs q A))) (zRi (zI (A (53 + (4 * xa + xw))))) 0 0 (fun _ => False) := by
  refine Met.ofW (cc := cX0_part) (maxL := 4) (ret := (some .int)) (by decide) rfl ?_
  intro p e s m args below meth c s₁ B hml hv
  obtain ⟨rfl, hP, hK, hD0, hN⟩ := hv
  have hx := B.exec
  have hb := B.bytes
  have hr := B.returns
  have hts := atoms_spec (ws := wsX0_part) B.pre
  have hown : s.vm.findClass RX0 = some m.cls := findClass_of_methodNamed B.named
  have hlocks := B.notSynchronized
  have hD := hD0
  have hl := lv_entry ([.ref (q 5), .int (zI xa), .int (zI xw)]) (n := 4) (Nat.le_of_ble_eq_true rfl)
  rw [lg_entry_eq]
  generalize (lg_sl ([.ref (q 5), .int (zI xa), .int (zI xw)]) ++ List.replicate (4 - (lg_sl ([.ref (q 5), .int (zI xa), .int (zI xw)])).length) Slot.unset).toArray = ls at hl ⊢
  have hl : lv_has ls 4 [(0, .ref (q 5)), (1, .int (zI xa)), (2, .int (zI xw))] := hl
  have hiX0 : ∀ w ∈ wsX00, w ∈ wsX0_part := by decide +kernel
  refine lv_iload_n hx hb dX0_part_0 rfl (lv_at hl 1 rfl) ?_
  refine zr_iconst hx hb dX0_part_1 ?_
  refine zr_imul hx hb dX0_part_2 ?_
  refine lv_iload_n hx hb dX0_part_3 rfl (lv_at hl 2 rfl) ?_
  refine zr_iadd hx hb dX0_part_4 ?_
  refine zr_topi (b := 4 * xa + xw) (by omega) ?_
  refine lv_istore_n (lv' := [(3, .int (zI (4 * xa + xw))), (0, .ref (q 5)), (1, .int (zI xa)), (2, .int (zI xw))]) hx hb dX0_part_5 rfl hl (by decide) rfl (fun ls hl => ?_)
  refine lv_iload_n hx hb dX0_part_6 rfl (lv_at hl 0 rfl) ?_
  refine zr_if_lt (tgt := 28) hx hb dX0_part_7 (by decide) (by omega) (fun c1 => ?_) (fun c1 => ?_)
  · refine zr_iconst hx hb dX0_part_28 ?_
    exact W.iret hx hb hr (fun t ht hW => ⟨_, rfl, (congrArg zI (show (-1) = A (53 + (4 * xa + xw)) from by first | rfl | omega)), ht⟩) (fun q hq => absurd hq List.not_mem_nil) dX0_part_29
  · refine lv_iload_n hx hb dX0_part_10 rfl (lv_at hl 0 rfl) ?_
    refine lv_aload_n hx hb dX0_part_11 rfl (lv_at hl 1 rfl) ?_
    refine va_get (D := D) (ci := 0) (v := .ref (q 6)) (C := RX0) (T := TX0) (N := 2) hx hb hts hiX0 hown hK hP 5 rfl rfl 0 (by decide) (hts (.fieldLink RX0 11 "ChargeEstimator$AnchorLog" "rows" "[I") (List.mem_of_getElem? (i := 1) rfl)) (fun _ h9 => h9) rfl dX0_part_12 ?_
    refine va_alen (v := zI 160) hx hb hK hP 6 rfl (t0 := 0) rfl rfl dX0_part_15 ?_
    refine zr_icmp_ge (tgt := 28) hx hb dX0_part_16 (by decide) (by omega) (by decide) (fun c2 => ?_) (fun c2 => ?_)
    · refine zr_iconst hx hb dX0_part_28 ?_
      exact W.iret hx hb hr (fun t ht hW => ⟨_, rfl, (congrArg zI (show (-1) = A (53 + (4 * xa + xw)) from by first | rfl | omega)), ht⟩) (fun q hq => absurd hq List.not_mem_nil) dX0_part_29
    · refine lv_aload_n hx hb dX0_part_19 rfl (lv_at hl 1 rfl) ?_
      refine va_get (D := D) (ci := 0) (v := .ref (q 6)) (C := RX0) (T := TX0) (N := 2) hx hb hts hiX0 hown hK hP 5 rfl rfl 0 (by decide) (hts (.fieldLink RX0 11 "ChargeEstimator$AnchorLog" "rows" "[I") (List.mem_of_getElem? (i := 1) rfl)) (fun _ h9 => h9) rfl dX0_part_20 ?_
      refine lv_iload_n hx hb dX0_part_23 rfl (lv_at hl 0 rfl) ?_
      refine zr_iald (D := D) (g := (zO A 53)) hx hb hK hP 6 0 rfl rfl (by decide) (by omega) dX0_part_24 ?_
      rw [show (zO A 53) (4 * xa + xw) = A (53 + (4 * xa + xw)) from by first | rfl | simp [zO, zU]]
      refine lv_goto (tgt := 29) hx hb dX0_part_25 (by decide) ?_
      exact W.iret hx hb hr (fun t ht hW => ⟨_, rfl, (congrArg zI (show A (53 + (4 * xa + xw)) = A (53 + (4 * xa + xw)) from by first | rfl | omega)), ht⟩) (fun q hq => absurd hq List.not_mem_nil) dX0_part_29
set_option maxHeartbeats 4000000 in
set_option maxRecDepth 100000 in
theorem met_X0_latestSoc (l : Launch) (D : va_G) (cs : Nat → ClassId) (q : Nat → Nat) (n : Int) (A : Int → Int) (hI : zOK n A) (hn : 0 ≤ n ∧ n ≤ 3100000) (kmany : 0 < A 52) : Met l yX0_latestSoc wsX0_latestSoc ({ frames := 1, cells := 0, slots := 0, locals := 23 }) (va_Pc [.ref (q 5)] (zPre D (zTy cs) (zbat cs q A))) (zRi (zI (A 49))) 0 0 (fun _ => False) := by
  refine Met.ofW (cc := cX0_latestSoc) (maxL := 1) (ret := (some .int)) (by decide) rfl ?_
  intro p e s m args below meth c s₁ B hml hv
  obtain ⟨rfl, hP, hK, hD0, hN⟩ := hv
  have hx := B.exec
  have hb := B.bytes
  have hr := B.returns
  have hts := atoms_spec (ws := wsX0_latestSoc) B.pre
  have hown : s.vm.findClass RX0 = some m.cls := findClass_of_methodNamed B.named
  have hlocks := B.notSynchronized
  have hD := hD0
  have hl := lv_entry ([.ref (q 5)]) (n := 1) (Nat.le_of_ble_eq_true rfl)
  rw [lg_entry_eq]
  generalize (lg_sl ([.ref (q 5)]) ++ List.replicate (1 - (lg_sl ([.ref (q 5)])).length) Slot.unset).toArray = ls at hl ⊢
  have hl : lv_has ls 1 [(0, .ref (q 5))] := hl
  have hiX0 : ∀ w ∈ wsX00, w ∈ wsX0_latestSoc := by decide +kernel
  obtain ⟨qN, qC, qQ, qL, qH, q40, q41, q42, q43, q44, q45, q46, q47, q48, q49, q50, q51, q52, qhad, qlast, qrow⟩ := zOK_q hI
  refine lv_aload_n hx hb dX0_latestSoc_0 rfl (lv_at hl 0 rfl) ?_
  refine lv_aload_n hx hb dX0_latestSoc_1 rfl (lv_at hl 0 rfl) ?_
  refine va_get (D := D) (ci := 0) (v := .int (zI (A 52))) (C := RX0) (T := TX0) (N := 2) hx hb hts hiX0 hown hK hP 5 rfl rfl 1 (by decide) (hts (.fieldLink RX0 15 "ChargeEstimator$AnchorLog" "size" "I") (List.mem_of_getElem? (i := 1) rfl)) (fun _ h9 => h9) rfl dX0_latestSoc_2 ?_
  refine zr_iconst hx hb dX0_latestSoc_5 ?_
  refine zr_isub hx hb dX0_latestSoc_6 ?_
  refine zr_iconst hx hb dX0_latestSoc_7 ?_
  refine zc_ri (va_runV (As := [.int (zI ((A 52) - 1)), .int (zI 1)]) (rest := []) ⟨hx, hb, hml, hown, hts⟩ (met_X0_part l D cs q n A ((A 52) - 1) 1 (by first | assumption | omega) (by first | assumption | omega)) (cwV 2 hts gX0_latestSoc_X0_part rfl rfl rfl (by decide +kernel) ⟨Nat.le_of_ble_eq_true rfl, Nat.le_of_ble_eq_true rfl⟩) ⟨zPre.blind, va_recv hK hP (ci := 0) (q0 := 5) rfl rfl, fun U hU hW => zp_R hP hK hD hN hU hW⟩ rfl rfl hl.1 rfl (lv_room (Nat.le_of_ble_eq_true rfl)) dX0_latestSoc_8 ⟨Nat.le_of_ble_eq_true rfl, Nat.le_of_ble_eq_true rfl⟩) ?_
  exact W.iret hx hb hr (fun t ht hW => ⟨_, rfl, (congrArg zI (show A (53 + (4 * ((A 52) - 1) + 1)) = A 49 from by rw [← qlast kmany]; congr 1; omega)), ht⟩) (fun q hq => absurd hq List.not_mem_nil) dX0_latestSoc_11
