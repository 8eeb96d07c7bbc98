/-! the battery: what it reads -/
theorem zmul_r {x y a b : Int} (hx : 0 ≤ x ∧ x ≤ a) (hy : 0 ≤ y ∧ y ≤ b) : 0 ≤ x * y ∧ x * y ≤ a * b :=
  ⟨Int.mul_nonneg hx.1 hy.1, Int.mul_le_mul hx.2 hy.2 hy.1 (by omega)⟩
theorem zmul_s {x y a b : Int} (hx : -a ≤ x ∧ x ≤ a) (hy : 0 ≤ y ∧ y ≤ b) : -(a * b) ≤ x * y ∧ x * y ≤ a * b := by
  have h1 : x * y ≤ a * y := Int.mul_le_mul_of_nonneg_right hx.2 hy.1
  have h2 : (-a) * y ≤ x * y := Int.mul_le_mul_of_nonneg_right hx.1 hy.1
  have h3 : a * y ≤ a * b := Int.mul_le_mul_of_nonneg_left hy.2 (by omega)
  rw [Int.neg_mul] at h2
  omega
theorem zOK_C {n : Int} {A : Int → Int} (h : zOK n A) : 180000 ≤ A 37 ∧ A 37 ≤ 108000000 := by
  have h1 := (zOK_q h).1
  have h2 := (zOK_q h).2.1
  omega
/-- what a counting needs -/
def zWk (A : Int → Int) : Prop := zSt A ∧ (180000 ≤ A 37 ∧ A 37 ≤ 108000000) ∧ (0 ≤ A 35 ∧ A 35 ≤ A 37) ∧ (0 ≤ A 36 ∧ A 36 ≤ A 37)
theorem zOK_w {n : Int} {A : Int → Int} (h : zOK n A) : zWk A := ⟨h.1, zOK_C h, by have := (zOK_q h).2.2.2.1; omega, by have := (zOK_q h).2.2.2.1; omega⟩
theorem zRng_w {A : Int → Int} (h : zWk A) : 180000 ≤ A 37 * A 3 ∧ A 37 * A 3 ≤ 5400000000 := by
  have h1 := h.2.1
  have h2 := h.1.2.2.2.1
  have h3 := zmul_r (x := A 37) (y := A 3) (a := 108000000) (b := 50) (by omega) (by omega)
  have h4 : A 37 * 1 ≤ A 37 * A 3 := Int.mul_le_mul_of_nonneg_left h2.1 (by omega)
  omega
theorem zRng_p {n : Int} {A : Int → Int} (h : zOK n A) : 180000 ≤ A 37 * A 3 ∧ A 37 * A 3 ≤ 5400000000 := zRng_w (zOK_w h)
theorem zRng_r {n : Int} {A : Int → Int} (h : zOK n A) : 1800 ≤ zRng A ∧ zRng A ≤ 54000000 := by
  have h1 := zRng_p h
  unfold zRng
  omega
theorem zHys_r {n : Int} {A : Int → Int} (h : zOK n A) : 0 ≤ zHys A ∧ zHys A ≤ 1000 := by
  have h1 := zRng_r h
  have h2 := (zOK_q h).2.2.2.2.1
  unfold zHys
  constructor
  · exact Int.ediv_nonneg (by omega) (by omega)
  · have : A 39 * 1000 / zRng A ≤ zRng A * 1000 / zRng A := Int.ediv_le_ediv (by omega) (by omega)
    rw [Int.mul_ediv_cancel_left _ (by omega)] at this
    exact this
theorem zMov_w {A : Int → Int} (h : zWk A) {i t T : Int} (hi : -50000 ≤ i ∧ i ≤ 50000) (ht : 0 ≤ t ∧ t ≤ T) : -(50000 * T) ≤ zMov A i t ∧ zMov A i t ≤ 50000 * T := by
  have h1 := zmul_s (x := i) (y := t) (a := 50000) (b := T) hi ht
  have h2 := h.1.1
  unfold zMov
  split
  · rename_i hp
    have h3 : 0 ≤ i * t := Int.mul_nonneg (by omega) ht.1
    have h4 : i * t * A 0 ≤ i * t * 1000 := Int.mul_le_mul_of_nonneg_left h2.2 h3
    have h5 : 0 ≤ i * t * A 0 := Int.mul_nonneg h3 (by omega)
    omega
  · exact h1
theorem zDrf_w {A : Int → Int} (h : zWk A) {c t : Int} (hc : -50000050000 ≤ c ∧ c ≤ 50000050000) (ht : 0 ≤ t ∧ t ≤ 1000001) : 0 ≤ A 1 * t ∧ A 1 * t ≤ 10000 * 1000001 ∧ 0 ≤ max c (-c) * A 2 ∧ max c (-c) * A 2 ≤ 50000050000 * 20000 ∧ 0 ≤ zDrf A c t ∧ zDrf A c t ≤ 1010001010 := by
  have h1 := zmul_r (x := A 1) (y := t) (a := 10000) (b := 1000001) h.1.2.1 ht
  have h2 := zmul_r (x := max c (-c)) (y := A 2) (a := 50000050000) (b := 20000) (by omega) h.1.2.2.1
  unfold zDrf
  omega
theorem zMov_r {n : Int} {A : Int → Int} (h : zOK n A) {i t T : Int} (hi : -50000 ≤ i ∧ i ≤ 50000) (ht : 0 ≤ t ∧ t ≤ T) : -(50000 * T) ≤ zMov A i t ∧ zMov A i t ≤ 50000 * T := zMov_w (zOK_w h) hi ht
theorem zDrf_r {n : Int} {A : Int → Int} (h : zOK n A) {c t : Int} (hc : -50000050000 ≤ c ∧ c ≤ 50000050000) (ht : 0 ≤ t ∧ t ≤ 1000001) : 0 ≤ A 1 * t ∧ A 1 * t ≤ 10000 * 1000001 ∧ 0 ≤ max c (-c) * A 2 ∧ max c (-c) * A 2 ≤ 50000050000 * 20000 ∧ 0 ≤ zDrf A c t ∧ zDrf A c t ≤ 1010001010 := zDrf_w (zOK_w h) hc ht
theorem zLow_e {n : Int} {A : Int → Int} (h : zOK n A) (i t : Int) : 0 ≤ zLow A i t ∧ zLow A i t ≤ A 37 := zclamp_r (by have := zOK_C h; omega)
theorem zHigh_e {n : Int} {A : Int → Int} (h : zOK n A) (i t : Int) : 0 ≤ zHigh A i t ∧ zHigh A i t ≤ A 37 := zclamp_r (by have := zOK_C h; omega)
set_option maxHeartbeats 4000000 in
set_option maxRecDepth 100000 in
theorem met_X1_hysteresisRange (l : Launch) (D : va_G) (cs : Nat → ClassId) (q : Nat → Nat) (A : Int → Int) (hw : zWk A) : Met l yX1_hysteresisRange wsX1_hysteresisRange ({ frames := 0, cells := 0, slots := 0, locals := 0 }) (va_Pc [.ref (q 0)] (zPre D (zTy cs) (zbat cs q A))) (zRl (zL (zRng A))) 0 0 (fun _ => False) := by
  refine Met.ofW (cc := cX1_hysteresisRange) (maxL := 1) (ret := (some .long)) (by decide) rfl ?_
  intro p e s m args below meth c s₁ B hml hv
  obtain ⟨rfl, hP, hK, hD0, hN⟩ := hv
  have hx := B.exec
  have hb := B.bytes
  have hr := B.returns
  have hts := atoms_spec (ws := wsX1_hysteresisRange) B.pre
  have hown : s.vm.findClass RX1 = some m.cls := findClass_of_methodNamed B.named
  have hlocks := B.notSynchronized
  have hD := hD0
  have hl := lv_entry ([.ref (q 0)]) (n := 1) (Nat.le_of_ble_eq_true rfl)
  rw [lg_entry_eq]
  generalize (lg_sl ([.ref (q 0)]) ++ List.replicate (1 - (lg_sl ([.ref (q 0)])).length) Slot.unset).toArray = ls at hl ⊢
  have hl : lv_has ls 1 [(0, .ref (q 0))] := hl
  have hiX1 : ∀ w ∈ wsX10, w ∈ wsX1_hysteresisRange := by decide +kernel
  obtain ⟨s0, s1, s2, s3, s4, s5, s6, s7, s8, s9, s10, s11⟩ := id hw.1
  have hC := hw.2.1
  have hR := zRng_w hw
  refine lv_aload_n hx hb dX1_hysteresisRange_0 rfl (lv_at hl 0 rfl) ?_
  refine va_get (D := D) (ci := 1) (v := .long (zL (A 37))) (C := RX1) (T := TX1) (N := 18) hx hb hts hiX1 hown hK hP 0 rfl rfl 4 (by decide) (hts (.fieldLink RX1 48 "ChargeEstimator$Battery" "capacity" "J") (List.mem_of_getElem? (i := 1) rfl)) (fun _ h9 => h9) rfl dX1_hysteresisRange_1 ?_
  refine lv_aload_n hx hb dX1_hysteresisRange_4 rfl (lv_at hl 0 rfl) ?_
  refine va_get (D := D) (ci := 1) (v := .ref (q 1)) (C := RX1) (T := TX1) (N := 18) hx hb hts hiX1 hown hK hP 0 rfl rfl 0 (by decide) (hts (.fieldLink RX1 9 "ChargeEstimator$Battery" "settings" "[I") (List.mem_of_getElem? (i := 2) rfl)) (fun _ h9 => h9) rfl dX1_hysteresisRange_5 ?_
  refine zr_iconst hx hb dX1_hysteresisRange_8 ?_
  refine zr_iald (D := D) (g := A) hx hb hK hP 1 0 rfl rfl (by decide) (by decide) dX1_hysteresisRange_9 ?_
  refine zr_i2l hx hb dX1_hysteresisRange_10 (by omega) ?_
  refine zr_lmul hx hb dX1_hysteresisRange_11 ?_
  refine zr_ldc2 (n := 100) hx hb hown (hts (.constantLong RX1 124 (100)) (List.mem_of_getElem? (i := 3) rfl)) rfl dX1_hysteresisRange_12 ?_
  refine zr_ldiv hx hb dX1_hysteresisRange_15 (by omega) (by decide) ?_
  exact W.lret hx hb hr (fun t ht hW => ⟨_, rfl, (congrArg zL (show ((A 37) * (A 3)) / 100 = zRng A from by rfl)), ht⟩) (fun q hq => absurd hq List.not_mem_nil) dX1_hysteresisRange_16
set_option maxHeartbeats 4000000 in
set_option maxRecDepth 100000 in
theorem met_X1_hysteresisState (l : Launch) (D : va_G) (cs : Nat → ClassId) (q : Nat → Nat) (n : Int) (A : Int → Int) (hI : zOK n A) (hn : 0 ≤ n ∧ n ≤ 3100000) : Met l yX1_hysteresisState wsX1_hysteresisState ({ frames := 1, cells := 0, slots := 0, locals := 20 }) (va_Pc [.ref (q 0)] (zPre D (zTy cs) (zbat cs q A))) (zRi (zI (zHys A))) 0 0 (fun _ => False) := by
  refine Met.ofW (cc := cX1_hysteresisState) (maxL := 3) (ret := (some .int)) (by decide) rfl ?_
  intro p e s m args below meth c s₁ B hml hv
  obtain ⟨rfl, hP, hK, hD0, hN⟩ := hv
  have hx := B.exec
  have hb := B.bytes
  have hr := B.returns
  have hts := atoms_spec (ws := wsX1_hysteresisState) B.pre
  have hown : s.vm.findClass RX1 = some m.cls := findClass_of_methodNamed B.named
  have hlocks := B.notSynchronized
  have hD := hD0
  have hl := lv_entry ([.ref (q 0)]) (n := 3) (Nat.le_of_ble_eq_true rfl)
  rw [lg_entry_eq]
  generalize (lg_sl ([.ref (q 0)]) ++ List.replicate (3 - (lg_sl ([.ref (q 0)])).length) Slot.unset).toArray = ls at hl ⊢
  have hl : lv_has ls 3 [(0, .ref (q 0))] := hl
  have hiX1 : ∀ w ∈ wsX10, w ∈ wsX1_hysteresisState := by decide +kernel
  obtain ⟨qN, qC, qQ, qL, qH, q40, q41, q42, q43, q44, q45, q46, q47, q48, q49, q50, q51, q52, qhad, qlast, qrow⟩ := zOK_q hI
  have hR := zRng_r hI
  refine lv_aload_n hx hb dX1_hysteresisState_0 rfl (lv_at hl 0 rfl) ?_
  refine zc_rl (va_runV (As := []) (rest := []) ⟨hx, hb, hml, hown, hts⟩ (met_X1_hysteresisRange l D cs q A (by first | assumption | exact zOK_w (by assumption))) (cwV 0 hts gX1_hysteresisState_X1_hysteresisRange rfl rfl rfl (by decide +kernel) ⟨Nat.le_of_ble_eq_true rfl, Nat.le_of_ble_eq_true rfl⟩) ⟨zPre.blind, va_recv hK hP (ci := 1) (q0 := 0) rfl rfl, fun U hU hW => zp_R hP hK hD hN hU hW⟩ rfl rfl hl.1 rfl (lv_room (Nat.le_of_ble_eq_true rfl)) dX1_hysteresisState_1 ⟨Nat.le_of_ble_eq_true rfl, Nat.le_of_ble_eq_true rfl⟩) ?_
  refine lv_lstore_n (lv' := [(1, .long (zL (zRng A))), (0, .ref (q 0))]) hx hb dX1_hysteresisState_4 rfl hl (by decide) rfl (fun ls hl => ?_)
  refine lv_lload_n hx hb dX1_hysteresisState_5 rfl (lv_at hl 0 rfl) ?_
  refine zr_lconst0 hx hb dX1_hysteresisState_6 ?_
  refine zr_lcmp_le (tgt := 25) hx hb dX1_hysteresisState_7 dX1_hysteresisState_8 (by decide) (by subst_vars; omega) (by decide) (fun c1 => ?_) (fun c1 => ?_)
  · refine zr_iconst hx hb dX1_hysteresisState_25 ?_
    exact W.iret hx hb hr (fun t ht hW => ⟨_, rfl, (congrArg zI (show 0 = zHys A from by subst_vars; first | rfl | omega)), ht⟩) (fun q hq => absurd hq List.not_mem_nil) dX1_hysteresisState_26
  · refine lv_aload_n hx hb dX1_hysteresisState_11 rfl (lv_at hl 1 rfl) ?_
    refine va_get (D := D) (ci := 1) (v := .long (zL (A 39))) (C := RX1) (T := TX1) (N := 18) hx hb hts hiX1 hown hK hP 0 rfl rfl 8 (by decide) (hts (.fieldLink RX1 62 "ChargeEstimator$Battery" "hysteresis" "J") (List.mem_of_getElem? (i := 1) rfl)) (fun _ h9 => h9) rfl dX1_hysteresisState_12 ?_
    refine zr_ldc2 (n := 1000) hx hb hown (hts (.constantLong RX1 126 (1000)) (List.mem_of_getElem? (i := 2) rfl)) rfl dX1_hysteresisState_15 ?_
    refine zr_lmul hx hb dX1_hysteresisState_18 ?_
    refine lv_lload_n hx hb dX1_hysteresisState_19 rfl (lv_at hl 0 rfl) ?_
    refine zr_ldiv hx hb dX1_hysteresisState_20 (by subst_vars; omega) (by subst_vars; omega) ?_
    refine zr_l2i hx hb dX1_hysteresisState_21 ?_
    refine lv_goto (tgt := 26) hx hb dX1_hysteresisState_22 (by decide) ?_
    exact W.iret hx hb hr (fun t ht hW => ⟨_, rfl, (congrArg zI (show ((A 39) * 1000) / (zRng A) = zHys A from by subst_vars; first | rfl | omega)), ht⟩) (fun q hq => absurd hq List.not_mem_nil) dX1_hysteresisState_26
set_option maxHeartbeats 4000000 in
set_option maxRecDepth 100000 in
theorem met_X1_movedCharge (l : Launch) (D : va_G) (cs : Nat → ClassId) (q : Nat → Nat) (A : Int → Int) (xi xt : Int) (hw : zWk A) (kxi : -50000 ≤ xi ∧ xi ≤ 50000) (kxt : 0 ≤ xt ∧ xt ≤ 1000001) : Met l yX1_movedCharge wsX1_movedCharge ({ frames := 0, cells := 0, slots := 0, locals := 0 }) (va_Pc [.ref (q 0), .int (zI xi), .int (zI xt)] (zPre D (zTy cs) (zbat cs q A))) (zRl (zL (zMov A xi xt))) 0 0 (fun _ => False) := by
  refine Met.ofW (cc := cX1_movedCharge) (maxL := 5) (ret := (some .long)) (by decide) rfl ?_
  intro p e s m args below meth c s₁ B hml hv
  obtain ⟨rfl, hP, hK, hD0, hN⟩ := hv
  have hx := B.exec
  have hb := B.bytes
  have hr := B.returns
  have hts := atoms_spec (ws := wsX1_movedCharge) B.pre
  have hown : s.vm.findClass RX1 = some m.cls := findClass_of_methodNamed B.named
  have hlocks := B.notSynchronized
  have hD := hD0
  have hl := lv_entry ([.ref (q 0), .int (zI xi), .int (zI xt)]) (n := 5) (Nat.le_of_ble_eq_true rfl)
  rw [lg_entry_eq]
  generalize (lg_sl ([.ref (q 0), .int (zI xi), .int (zI xt)]) ++ List.replicate (5 - (lg_sl ([.ref (q 0), .int (zI xi), .int (zI xt)])).length) Slot.unset).toArray = ls at hl ⊢
  have hl : lv_has ls 5 [(0, .ref (q 0)), (1, .int (zI xi)), (2, .int (zI xt))] := hl
  have hiX1 : ∀ w ∈ wsX10, w ∈ wsX1_movedCharge := by decide +kernel
  obtain ⟨s0, s1, s2, s3, s4, s5, s6, s7, s8, s9, s10, s11⟩ := id hw.1
  refine lv_iload_n hx hb dX1_movedCharge_0 rfl (lv_at hl 1 rfl) ?_
  refine zr_i2l hx hb dX1_movedCharge_1 (by omega) ?_
  refine lv_iload_n hx hb dX1_movedCharge_2 rfl (lv_at hl 2 rfl) ?_
  refine zr_i2l hx hb dX1_movedCharge_3 (by omega) ?_
  have hm1 := zmul_s (x := xi) (y := xt) (a := 50000) (b := 1000001) (by omega) (by omega)
  refine zr_lmul hx hb dX1_movedCharge_4 ?_
  refine lv_lstore_n (lv' := [(3, .long (zL (xi * xt))), (0, .ref (q 0)), (1, .int (zI xi)), (2, .int (zI xt))]) hx hb dX1_movedCharge_5 rfl hl (by decide) rfl (fun ls hl => ?_)
  refine lv_iload_n hx hb dX1_movedCharge_6 rfl (lv_at hl 2 rfl) ?_
  refine zr_if_le (tgt := 26) hx hb dX1_movedCharge_7 (by decide) (by omega) (fun c2 => ?_) (fun c2 => ?_)
  · refine lv_lload_n hx hb dX1_movedCharge_26 rfl (lv_at hl 0 rfl) ?_
    exact W.lret hx hb hr (fun t ht hW => ⟨_, rfl, (congrArg zL (show xi * xt = zMov A xi xt from by unfold zMov; subst_vars; split <;> first | rfl | omega)), ht⟩) (fun q hq => absurd hq List.not_mem_nil) dX1_movedCharge_27
  · refine lv_lload_n hx hb dX1_movedCharge_10 rfl (lv_at hl 0 rfl) ?_
    refine lv_aload_n hx hb dX1_movedCharge_11 rfl (lv_at hl 1 rfl) ?_
    refine va_get (D := D) (ci := 1) (v := .ref (q 1)) (C := RX1) (T := TX1) (N := 18) hx hb hts hiX1 hown hK hP 0 rfl rfl 0 (by decide) (hts (.fieldLink RX1 9 "ChargeEstimator$Battery" "settings" "[I") (List.mem_of_getElem? (i := 1) rfl)) (fun _ h9 => h9) rfl dX1_movedCharge_12 ?_
    refine zr_iconst hx hb dX1_movedCharge_15 ?_
    refine zr_iald (D := D) (g := A) hx hb hK hP 1 0 rfl rfl (by decide) (by decide) dX1_movedCharge_16 ?_
    refine zr_i2l hx hb dX1_movedCharge_17 (by omega) ?_
    have hm8 : 0 ≤ xi * xt := Int.mul_nonneg (by omega) (by omega)
    have hm9 := zmul_r (x := xi * xt) (y := A 0) (a := 50000050000) (b := 1000) (by omega) (by omega)
    refine zr_lmul hx hb dX1_movedCharge_18 ?_
    refine zr_ldc2 (n := 1000) hx hb hown (hts (.constantLong RX1 126 (1000)) (List.mem_of_getElem? (i := 2) rfl)) rfl dX1_movedCharge_19 ?_
    refine zr_ldiv hx hb dX1_movedCharge_22 (by omega) (by decide) ?_
    refine lv_goto (tgt := 27) hx hb dX1_movedCharge_23 (by decide) ?_
    exact W.lret hx hb hr (fun t ht hW => ⟨_, rfl, (congrArg zL (show ((xi * xt) * (A 0)) / 1000 = zMov A xi xt from by unfold zMov; subst_vars; split <;> first | rfl | omega)), ht⟩) (fun q hq => absurd hq List.not_mem_nil) dX1_movedCharge_27
set_option maxHeartbeats 4000000 in
set_option maxRecDepth 100000 in
theorem met_X1_driftOf (l : Launch) (D : va_G) (cs : Nat → ClassId) (q : Nat → Nat) (A : Int → Int) (xc xt : Int) (hw : zWk A) (kxc : -50000050000 ≤ xc ∧ xc ≤ 50000050000) (kxt : 0 ≤ xt ∧ xt ≤ 1000001) : Met l yX1_driftOf wsX1_driftOf ({ frames := 1, cells := 0, slots := 0, locals := 15 }) (va_Pc [.ref (q 0), .long (zL xc), .int (zI xt)] (zPre D (zTy cs) (zbat cs q A))) (zRl (zL (zDrf A xc xt))) 0 0 (fun _ => False) := by
  refine Met.ofW (cc := cX1_driftOf) (maxL := 4) (ret := (some .long)) (by decide) rfl ?_
  intro p e s m args below meth c s₁ B hml hv
  obtain ⟨rfl, hP, hK, hD0, hN⟩ := hv
  have hx := B.exec
  have hb := B.bytes
  have hr := B.returns
  have hts := atoms_spec (ws := wsX1_driftOf) B.pre
  have hown : s.vm.findClass RX1 = some m.cls := findClass_of_methodNamed B.named
  have hlocks := B.notSynchronized
  have hD := hD0
  have hl := lv_entry ([.ref (q 0), .long (zL xc), .int (zI xt)]) (n := 4) (Nat.le_of_ble_eq_true rfl)
  rw [lg_entry_eq]
  generalize (lg_sl ([.ref (q 0), .long (zL xc), .int (zI xt)]) ++ List.replicate (4 - (lg_sl ([.ref (q 0), .long (zL xc), .int (zI xt)])).length) Slot.unset).toArray = ls at hl ⊢
  have hl : lv_has ls 4 [(0, .ref (q 0)), (1, .long (zL xc)), (3, .int (zI xt))] := hl
  have hiX1 : ∀ w ∈ wsX10, w ∈ wsX1_driftOf := by decide +kernel
  obtain ⟨s0, s1, s2, s3, s4, s5, s6, s7, s8, s9, s10, s11⟩ := id hw.1
  have hDr := zDrf_w hw kxc kxt
  refine lv_aload_n hx hb dX1_driftOf_0 rfl (lv_at hl 0 rfl) ?_
  refine va_get (D := D) (ci := 1) (v := .ref (q 1)) (C := RX1) (T := TX1) (N := 18) hx hb hts hiX1 hown hK hP 0 rfl rfl 0 (by decide) (hts (.fieldLink RX1 9 "ChargeEstimator$Battery" "settings" "[I") (List.mem_of_getElem? (i := 1) rfl)) (fun _ h9 => h9) rfl dX1_driftOf_1 ?_
  refine zr_iconst hx hb dX1_driftOf_4 ?_
  refine zr_iald (D := D) (g := A) hx hb hK hP 1 0 rfl rfl (by decide) (by decide) dX1_driftOf_5 ?_
  refine zr_i2l hx hb dX1_driftOf_6 (by omega) ?_
  refine lv_iload_n hx hb dX1_driftOf_7 rfl (lv_at hl 2 rfl) ?_
  refine zr_i2l hx hb dX1_driftOf_8 (by omega) ?_
  refine zr_lmul hx hb dX1_driftOf_9 ?_
  refine zr_ldc2 (n := 1000) hx hb hown (hts (.constantLong RX1 126 (1000)) (List.mem_of_getElem? (i := 2) rfl)) rfl dX1_driftOf_10 ?_
  refine zr_ldiv hx hb dX1_driftOf_13 (by omega) (by decide) ?_
  refine lv_lload_n hx hb dX1_driftOf_14 rfl (lv_at hl 1 rfl) ?_
  refine zm_absL hx hb (hml.trans hl.1.symm) hown (hts (.methodLink RX1 181 Lib.MathLoose.abs_long.x) (List.mem_of_getElem? (i := 3) rfl)) (hts (.static Lib.MathLoose.abs_long.x) (List.mem_of_getElem? (i := 4) rfl)) (hts (.initialized "java/lang/Math") (List.mem_of_getElem? (i := 5) rfl)) (hts (.code Lib.MathLoose.abs_long.x Lib.MathLoose.abs_long.code 2 (some .long)) (List.mem_of_getElem? (i := 6) rfl)) (Nat.le_of_ble_eq_true rfl) (Nat.le_of_ble_eq_true rfl) (Nat.le_of_ble_eq_true rfl) (Nat.le_of_ble_eq_true rfl) dX1_driftOf_15 (by omega) ?_
  refine lv_aload_n hx hb dX1_driftOf_18 rfl (lv_at hl 0 rfl) ?_
  refine va_get (D := D) (ci := 1) (v := .ref (q 1)) (C := RX1) (T := TX1) (N := 18) hx hb hts hiX1 hown hK hP 0 rfl rfl 0 (by decide) (hts (.fieldLink RX1 9 "ChargeEstimator$Battery" "settings" "[I") (List.mem_of_getElem? (i := 1) rfl)) (fun _ h9 => h9) rfl dX1_driftOf_19 ?_
  refine zr_iconst hx hb dX1_driftOf_22 ?_
  refine zr_iald (D := D) (g := A) hx hb hK hP 1 0 rfl rfl (by decide) (by decide) dX1_driftOf_23 ?_
  refine zr_i2l hx hb dX1_driftOf_24 (by omega) ?_
  refine zr_lmul hx hb dX1_driftOf_25 ?_
  refine zr_ldc2 (n := 1000000) hx hb hown (hts (.constantLong RX1 184 (1000000)) (List.mem_of_getElem? (i := 7) rfl)) rfl dX1_driftOf_26 ?_
  refine zr_ldiv hx hb dX1_driftOf_29 (by omega) (by decide) ?_
  refine zr_ladd hx hb dX1_driftOf_30 ?_
  exact W.lret hx hb hr (fun t ht hW => ⟨_, rfl, (congrArg zL (show (((A 1) * xt) / 1000) + (((max xc (-xc)) * (A 2)) / 1000000) = zDrf A xc xt from by rfl)), ht⟩) (fun q hq => absurd hq List.not_mem_nil) dX1_driftOf_31
set_option maxHeartbeats 4000000 in
set_option maxRecDepth 100000 in
theorem met_X1_lowAfter (l : Launch) (D : va_G) (cs : Nat → ClassId) (q : Nat → Nat) (A : Int → Int) (xi xt : Int) (hw : zWk A) (kxi : -50000 ≤ xi ∧ xi ≤ 50000) (kxt : 0 ≤ xt ∧ xt ≤ 1000001) : Met l yX1_lowAfter wsX1_lowAfter ({ frames := 2, cells := 0, slots := 0, locals := 40 }) (va_Pc [.ref (q 0), .int (zI xi), .int (zI xt)] (zPre D (zTy cs) (zbat cs q A))) (zRl (zL (zLow A xi xt))) 0 0 (fun _ => False) := by
  refine Met.ofW (cc := cX1_lowAfter) (maxL := 5) (ret := (some .long)) (by decide) rfl ?_
  intro p e s m args below meth c s₁ B hml hv
  obtain ⟨rfl, hP, hK, hD0, hN⟩ := hv
  have hx := B.exec
  have hb := B.bytes
  have hr := B.returns
  have hts := atoms_spec (ws := wsX1_lowAfter) B.pre
  have hown : s.vm.findClass RX1 = some m.cls := findClass_of_methodNamed B.named
  have hlocks := B.notSynchronized
  have hD := hD0
  have hl := lv_entry ([.ref (q 0), .int (zI xi), .int (zI xt)]) (n := 5) (Nat.le_of_ble_eq_true rfl)
  rw [lg_entry_eq]
  generalize (lg_sl ([.ref (q 0), .int (zI xi), .int (zI xt)]) ++ List.replicate (5 - (lg_sl ([.ref (q 0), .int (zI xi), .int (zI xt)])).length) Slot.unset).toArray = ls at hl ⊢
  have hl : lv_has ls 5 [(0, .ref (q 0)), (1, .int (zI xi)), (2, .int (zI xt))] := hl
  have hiX1 : ∀ w ∈ wsX10, w ∈ wsX1_lowAfter := by decide +kernel
  obtain ⟨hst, hC, q35, q36⟩ := id hw
  have hMv := zMov_w hw kxi kxt
  have hDr := zDrf_w hw (c := zMov A xi xt) (t := xt) (by omega) kxt
  refine lv_aload_n hx hb dX1_lowAfter_0 rfl (lv_at hl 0 rfl) ?_
  refine lv_iload_n hx hb dX1_lowAfter_1 rfl (lv_at hl 1 rfl) ?_
  refine lv_iload_n hx hb dX1_lowAfter_2 rfl (lv_at hl 2 rfl) ?_
  refine zc_rl (va_runV (As := [.int (zI xi), .int (zI xt)]) (rest := []) ⟨hx, hb, hml, hown, hts⟩ (met_X1_movedCharge l D cs q A xi xt (by first | assumption | exact zOK_w (by assumption)) (by first | assumption | omega) (by first | assumption | omega)) (cwV 2 hts gX1_lowAfter_X1_movedCharge rfl rfl rfl (by decide +kernel) ⟨Nat.le_of_ble_eq_true rfl, Nat.le_of_ble_eq_true rfl⟩) ⟨zPre.blind, va_recv hK hP (ci := 1) (q0 := 0) rfl rfl, fun U hU hW => zp_R hP hK hD hN hU hW⟩ rfl rfl hl.1 rfl (lv_room (Nat.le_of_ble_eq_true rfl)) dX1_lowAfter_3 ⟨Nat.le_of_ble_eq_true rfl, Nat.le_of_ble_eq_true rfl⟩) ?_
  refine lv_lstore_n (lv' := [(3, .long (zL (zMov A xi xt))), (0, .ref (q 0)), (1, .int (zI xi)), (2, .int (zI xt))]) hx hb dX1_lowAfter_6 rfl hl (by decide) rfl (fun ls hl => ?_)
  refine lv_aload_n hx hb dX1_lowAfter_7 rfl (lv_at hl 1 rfl) ?_
  refine va_get (D := D) (ci := 1) (v := .long (zL (A 35))) (C := RX1) (T := TX1) (N := 18) hx hb hts hiX1 hown hK hP 0 rfl rfl 6 (by decide) (hts (.fieldLink RX1 56 "ChargeEstimator$Battery" "low" "J") (List.mem_of_getElem? (i := 1) rfl)) (fun _ h9 => h9) rfl dX1_lowAfter_8 ?_
  refine lv_lload_n hx hb dX1_lowAfter_11 rfl (lv_at hl 0 rfl) ?_
  refine zr_ladd hx hb dX1_lowAfter_12 ?_
  refine lv_aload_n hx hb dX1_lowAfter_13 rfl (lv_at hl 1 rfl) ?_
  refine lv_lload_n hx hb dX1_lowAfter_14 rfl (lv_at hl 0 rfl) ?_
  refine lv_iload_n hx hb dX1_lowAfter_15 rfl (lv_at hl 3 rfl) ?_
  refine zc_rl (va_runV (As := [.long (zL (zMov A xi xt)), .int (zI xt)]) (rest := [.long (zL ((A 35) + (zMov A xi xt)))]) ⟨hx, hb, hml, hown, hts⟩ (met_X1_driftOf l D cs q A (zMov A xi xt) xt (by first | assumption | exact zOK_w (by assumption)) (by first | assumption | omega) (by first | assumption | omega)) (cwV 2 hts gX1_lowAfter_X1_driftOf rfl rfl rfl (by decide +kernel) ⟨Nat.le_of_ble_eq_true rfl, Nat.le_of_ble_eq_true rfl⟩) ⟨zPre.blind, va_recv hK hP (ci := 1) (q0 := 0) rfl rfl, fun U hU hW => zp_R hP hK hD hN hU hW⟩ rfl rfl hl.1 rfl (lv_room (Nat.le_of_ble_eq_true rfl)) dX1_lowAfter_16 ⟨Nat.le_of_ble_eq_true rfl, Nat.le_of_ble_eq_true rfl⟩) ?_
  refine zr_lsub hx hb dX1_lowAfter_19 ?_
  refine zr_lconst0 hx hb dX1_lowAfter_20 ?_
  refine lv_aload_n hx hb dX1_lowAfter_21 rfl (lv_at hl 1 rfl) ?_
  refine va_get (D := D) (ci := 1) (v := .long (zL (A 37))) (C := RX1) (T := TX1) (N := 18) hx hb hts hiX1 hown hK hP 0 rfl rfl 4 (by decide) (hts (.fieldLink RX1 48 "ChargeEstimator$Battery" "capacity" "J") (List.mem_of_getElem? (i := 2) rfl)) (fun _ h9 => h9) rfl dX1_lowAfter_22 ?_
  refine zc_rl (va_runSN (As := [.long (zL (((A 35) + (zMov A xi xt)) - (zDrf A (zMov A xi xt) xt))), .long (zL 0), .long (zL (A 37))]) (rest := []) ⟨hx, hb, hml, hown, hts⟩ (met_X5_clamp l (((A 35) + (zMov A xi xt)) - (zDrf A (zMov A xi xt) xt)) 0 (A 37) (by first | assumption | omega) (by first | assumption | omega) (by first | assumption | omega) (by first | assumption | omega)) ⟨va_cnB 3 hts gX1_lowAfter_X5_clamp_n141 rfl rfl rfl (zn_RX1_141 hN) (hts (.initialized RX5) (List.mem_of_getElem? (i := 20) rfl)) (by decide +kernel) ⟨Nat.le_of_ble_eq_true rfl, Nat.le_of_ble_eq_true rfl⟩, (hts (.static yX5_clamp) (List.mem_of_getElem? (i := 19) rfl)), trivial⟩ ⟨zTrue.blind, fun U hU hW => ⟨rfl, trivial⟩⟩ rfl rfl hl.1 rfl (lv_room (Nat.le_of_ble_eq_true rfl)) dX1_lowAfter_25 ⟨Nat.le_of_ble_eq_true rfl, Nat.le_of_ble_eq_true rfl⟩) ?_
  exact W.lret hx hb hr (fun t ht hW => ⟨_, rfl, (congrArg zL (show zclamp (((A 35) + (zMov A xi xt)) - (zDrf A (zMov A xi xt) xt)) 0 (A 37) = zLow A xi xt from by subst_vars; rfl)), ht⟩) (fun q hq => absurd hq List.not_mem_nil) dX1_lowAfter_28
set_option maxHeartbeats 4000000 in
set_option maxRecDepth 100000 in
theorem met_X1_highAfter (l : Launch) (D : va_G) (cs : Nat → ClassId) (q : Nat → Nat) (A : Int → Int) (xi xt : Int) (hw : zWk A) (kxi : -50000 ≤ xi ∧ xi ≤ 50000) (kxt : 0 ≤ xt ∧ xt ≤ 1000001) : Met l yX1_highAfter wsX1_highAfter ({ frames := 2, cells := 0, slots := 0, locals := 40 }) (va_Pc [.ref (q 0), .int (zI xi), .int (zI xt)] (zPre D (zTy cs) (zbat cs q A))) (zRl (zL (zHigh A xi xt))) 0 0 (fun _ => False) := by
  refine Met.ofW (cc := cX1_highAfter) (maxL := 5) (ret := (some .long)) (by decide) rfl ?_
  intro p e s m args below meth c s₁ B hml hv
  obtain ⟨rfl, hP, hK, hD0, hN⟩ := hv
  have hx := B.exec
  have hb := B.bytes
  have hr := B.returns
  have hts := atoms_spec (ws := wsX1_highAfter) B.pre
  have hown : s.vm.findClass RX1 = some m.cls := findClass_of_methodNamed B.named
  have hlocks := B.notSynchronized
  have hD := hD0
  have hl := lv_entry ([.ref (q 0), .int (zI xi), .int (zI xt)]) (n := 5) (Nat.le_of_ble_eq_true rfl)
  rw [lg_entry_eq]
  generalize (lg_sl ([.ref (q 0), .int (zI xi), .int (zI xt)]) ++ List.replicate (5 - (lg_sl ([.ref (q 0), .int (zI xi), .int (zI xt)])).length) Slot.unset).toArray = ls at hl ⊢
  have hl : lv_has ls 5 [(0, .ref (q 0)), (1, .int (zI xi)), (2, .int (zI xt))] := hl
  have hiX1 : ∀ w ∈ wsX10, w ∈ wsX1_highAfter := by decide +kernel
  obtain ⟨hst, hC, q35, q36⟩ := id hw
  have hMv := zMov_w hw kxi kxt
  have hDr := zDrf_w hw (c := zMov A xi xt) (t := xt) (by omega) kxt
  refine lv_aload_n hx hb dX1_highAfter_0 rfl (lv_at hl 0 rfl) ?_
  refine lv_iload_n hx hb dX1_highAfter_1 rfl (lv_at hl 1 rfl) ?_
  refine lv_iload_n hx hb dX1_highAfter_2 rfl (lv_at hl 2 rfl) ?_
  refine zc_rl (va_runV (As := [.int (zI xi), .int (zI xt)]) (rest := []) ⟨hx, hb, hml, hown, hts⟩ (met_X1_movedCharge l D cs q A xi xt (by first | assumption | exact zOK_w (by assumption)) (by first | assumption | omega) (by first | assumption | omega)) (cwV 2 hts gX1_highAfter_X1_movedCharge rfl rfl rfl (by decide +kernel) ⟨Nat.le_of_ble_eq_true rfl, Nat.le_of_ble_eq_true rfl⟩) ⟨zPre.blind, va_recv hK hP (ci := 1) (q0 := 0) rfl rfl, fun U hU hW => zp_R hP hK hD hN hU hW⟩ rfl rfl hl.1 rfl (lv_room (Nat.le_of_ble_eq_true rfl)) dX1_highAfter_3 ⟨Nat.le_of_ble_eq_true rfl, Nat.le_of_ble_eq_true rfl⟩) ?_
  refine lv_lstore_n (lv' := [(3, .long (zL (zMov A xi xt))), (0, .ref (q 0)), (1, .int (zI xi)), (2, .int (zI xt))]) hx hb dX1_highAfter_6 rfl hl (by decide) rfl (fun ls hl => ?_)
  refine lv_aload_n hx hb dX1_highAfter_7 rfl (lv_at hl 1 rfl) ?_
  refine va_get (D := D) (ci := 1) (v := .long (zL (A 36))) (C := RX1) (T := TX1) (N := 18) hx hb hts hiX1 hown hK hP 0 rfl rfl 7 (by decide) (hts (.fieldLink RX1 59 "ChargeEstimator$Battery" "high" "J") (List.mem_of_getElem? (i := 1) rfl)) (fun _ h9 => h9) rfl dX1_highAfter_8 ?_
  refine lv_lload_n hx hb dX1_highAfter_11 rfl (lv_at hl 0 rfl) ?_
  refine zr_ladd hx hb dX1_highAfter_12 ?_
  refine lv_aload_n hx hb dX1_highAfter_13 rfl (lv_at hl 1 rfl) ?_
  refine lv_lload_n hx hb dX1_highAfter_14 rfl (lv_at hl 0 rfl) ?_
  refine lv_iload_n hx hb dX1_highAfter_15 rfl (lv_at hl 3 rfl) ?_
  refine zc_rl (va_runV (As := [.long (zL (zMov A xi xt)), .int (zI xt)]) (rest := [.long (zL ((A 36) + (zMov A xi xt)))]) ⟨hx, hb, hml, hown, hts⟩ (met_X1_driftOf l D cs q A (zMov A xi xt) xt (by first | assumption | exact zOK_w (by assumption)) (by first | assumption | omega) (by first | assumption | omega)) (cwV 2 hts gX1_highAfter_X1_driftOf rfl rfl rfl (by decide +kernel) ⟨Nat.le_of_ble_eq_true rfl, Nat.le_of_ble_eq_true rfl⟩) ⟨zPre.blind, va_recv hK hP (ci := 1) (q0 := 0) rfl rfl, fun U hU hW => zp_R hP hK hD hN hU hW⟩ rfl rfl hl.1 rfl (lv_room (Nat.le_of_ble_eq_true rfl)) dX1_highAfter_16 ⟨Nat.le_of_ble_eq_true rfl, Nat.le_of_ble_eq_true rfl⟩) ?_
  refine zr_ladd hx hb dX1_highAfter_19 ?_
  refine zr_lconst0 hx hb dX1_highAfter_20 ?_
  refine lv_aload_n hx hb dX1_highAfter_21 rfl (lv_at hl 1 rfl) ?_
  refine va_get (D := D) (ci := 1) (v := .long (zL (A 37))) (C := RX1) (T := TX1) (N := 18) hx hb hts hiX1 hown hK hP 0 rfl rfl 4 (by decide) (hts (.fieldLink RX1 48 "ChargeEstimator$Battery" "capacity" "J") (List.mem_of_getElem? (i := 2) rfl)) (fun _ h9 => h9) rfl dX1_highAfter_22 ?_
  refine zc_rl (va_runSN (As := [.long (zL (((A 36) + (zMov A xi xt)) + (zDrf A (zMov A xi xt) xt))), .long (zL 0), .long (zL (A 37))]) (rest := []) ⟨hx, hb, hml, hown, hts⟩ (met_X5_clamp l (((A 36) + (zMov A xi xt)) + (zDrf A (zMov A xi xt) xt)) 0 (A 37) (by first | assumption | omega) (by first | assumption | omega) (by first | assumption | omega) (by first | assumption | omega)) ⟨va_cnB 3 hts gX1_highAfter_X5_clamp_n141 rfl rfl rfl (zn_RX1_141 hN) (hts (.initialized RX5) (List.mem_of_getElem? (i := 20) rfl)) (by decide +kernel) ⟨Nat.le_of_ble_eq_true rfl, Nat.le_of_ble_eq_true rfl⟩, (hts (.static yX5_clamp) (List.mem_of_getElem? (i := 19) rfl)), trivial⟩ ⟨zTrue.blind, fun U hU hW => ⟨rfl, trivial⟩⟩ rfl rfl hl.1 rfl (lv_room (Nat.le_of_ble_eq_true rfl)) dX1_highAfter_25 ⟨Nat.le_of_ble_eq_true rfl, Nat.le_of_ble_eq_true rfl⟩) ?_
  exact W.lret hx hb hr (fun t ht hW => ⟨_, rfl, (congrArg zL (show zclamp (((A 36) + (zMov A xi xt)) + (zDrf A (zMov A xi xt) xt)) 0 (A 37) = zHigh A xi xt from by subst_vars; rfl)), ht⟩) (fun q hq => absurd hq List.not_mem_nil) dX1_highAfter_28
set_option maxHeartbeats 4000000 in
set_option maxRecDepth 100000 in
theorem met_X1_chargeAt (l : Launch) (D : va_G) (cs : Nat → ClassId) (q : Nat → Nat) (n : Int) (A : Int → Int) (xs : Int) (hI : zOK n A) (hn : 0 ≤ n ∧ n ≤ 3100000) (kxs : 0 ≤ xs ∧ xs ≤ 10000) : Met l yX1_chargeAt wsX1_chargeAt ({ frames := 0, cells := 0, slots := 0, locals := 0 }) (va_Pc [.ref (q 0), .int (zI xs)] (zPre D (zTy cs) (zbat cs q A))) (zRl (zL (A 37 * xs / 10000))) 0 0 (fun _ => False) := by
  refine Met.ofW (cc := cX1_chargeAt) (maxL := 2) (ret := (some .long)) (by decide) rfl ?_
  intro p e s m args below meth c s₁ B hml hv
  obtain ⟨rfl, hP, hK, hD0, hN⟩ := hv
  have hx := B.exec
  have hb := B.bytes
  have hr := B.returns
  have hts := atoms_spec (ws := wsX1_chargeAt) B.pre
  have hown : s.vm.findClass RX1 = some m.cls := findClass_of_methodNamed B.named
  have hlocks := B.notSynchronized
  have hD := hD0
  have hl := lv_entry ([.ref (q 0), .int (zI xs)]) (n := 2) (Nat.le_of_ble_eq_true rfl)
  rw [lg_entry_eq]
  generalize (lg_sl ([.ref (q 0), .int (zI xs)]) ++ List.replicate (2 - (lg_sl ([.ref (q 0), .int (zI xs)])).length) Slot.unset).toArray = ls at hl ⊢
  have hl : lv_has ls 2 [(0, .ref (q 0)), (1, .int (zI xs))] := hl
  have hiX1 : ∀ w ∈ wsX10, w ∈ wsX1_chargeAt := by decide +kernel
  have hC := zOK_C hI
  refine lv_aload_n hx hb dX1_chargeAt_0 rfl (lv_at hl 0 rfl) ?_
  refine va_get (D := D) (ci := 1) (v := .long (zL (A 37))) (C := RX1) (T := TX1) (N := 18) hx hb hts hiX1 hown hK hP 0 rfl rfl 4 (by decide) (hts (.fieldLink RX1 48 "ChargeEstimator$Battery" "capacity" "J") (List.mem_of_getElem? (i := 1) rfl)) (fun _ h9 => h9) rfl dX1_chargeAt_1 ?_
  refine lv_iload_n hx hb dX1_chargeAt_4 rfl (lv_at hl 1 rfl) ?_
  refine zr_i2l hx hb dX1_chargeAt_5 (by omega) ?_
  have hm1 := zmul_r (x := A 37) (y := xs) (a := 108000000) (b := 10000) (by omega) (by omega)
  refine zr_lmul hx hb dX1_chargeAt_6 ?_
  refine zr_ldc2 (n := 10000) hx hb hown (hts (.constantLong RX1 122 (10000)) (List.mem_of_getElem? (i := 2) rfl)) rfl dX1_chargeAt_7 ?_
  refine zr_ldiv hx hb dX1_chargeAt_10 (by omega) (by decide) ?_
  exact W.lret hx hb hr (fun t ht hW => ⟨_, rfl, (congrArg zL (show ((A 37) * xs) / 10000 = A 37 * xs / 10000 from by rfl)), ht⟩) (fun q hq => absurd hq List.not_mem_nil) dX1_chargeAt_11
set_option maxHeartbeats 4000000 in
set_option maxRecDepth 100000 in
theorem met_X1_socOf (l : Launch) (D : va_G) (cs : Nat → ClassId) (q : Nat → Nat) (n : Int) (A : Int → Int) (xa : Int) (hI : zOK n A) (hn : 0 ≤ n ∧ n ≤ 3100000) (kxa : 0 ≤ xa ∧ xa ≤ 1000000000) : Met l yX1_socOf wsX1_socOf ({ frames := 0, cells := 0, slots := 0, locals := 0 }) (va_Pc [.ref (q 0), .long (zL xa)] (zPre D (zTy cs) (zbat cs q A))) (zRi (zI (xa * 10000 / A 37))) 0 0 (fun _ => False) := by
  refine Met.ofW (cc := cX1_socOf) (maxL := 3) (ret := (some .int)) (by decide) rfl ?_
  intro p e s m args below meth c s₁ B hml hv
  obtain ⟨rfl, hP, hK, hD0, hN⟩ := hv
  have hx := B.exec
  have hb := B.bytes
  have hr := B.returns
  have hts := atoms_spec (ws := wsX1_socOf) B.pre
  have hown : s.vm.findClass RX1 = some m.cls := findClass_of_methodNamed B.named
  have hlocks := B.notSynchronized
  have hD := hD0
  have hl := lv_entry ([.ref (q 0), .long (zL xa)]) (n := 3) (Nat.le_of_ble_eq_true rfl)
  rw [lg_entry_eq]
  generalize (lg_sl ([.ref (q 0), .long (zL xa)]) ++ List.replicate (3 - (lg_sl ([.ref (q 0), .long (zL xa)])).length) Slot.unset).toArray = ls at hl ⊢
  have hl : lv_has ls 3 [(0, .ref (q 0)), (1, .long (zL xa))] := hl
  have hiX1 : ∀ w ∈ wsX10, w ∈ wsX1_socOf := by decide +kernel
  have hC := zOK_C hI
  refine lv_aload_n hx hb dX1_socOf_0 rfl (lv_at hl 0 rfl) ?_
  refine va_get (D := D) (ci := 1) (v := .long (zL (A 37))) (C := RX1) (T := TX1) (N := 18) hx hb hts hiX1 hown hK hP 0 rfl rfl 4 (by decide) (hts (.fieldLink RX1 48 "ChargeEstimator$Battery" "capacity" "J") (List.mem_of_getElem? (i := 1) rfl)) (fun _ h9 => h9) rfl dX1_socOf_1 ?_
  refine zr_lconst0 hx hb dX1_socOf_4 ?_
  refine zr_lcmp_le (tgt := 23) hx hb dX1_socOf_5 dX1_socOf_6 (by decide) (by omega) (by decide) (fun c1 => ?_) (fun c1 => ?_)
  · refine zr_iconst hx hb dX1_socOf_23 ?_
    exact W.iret hx hb hr (fun t ht hW => ⟨_, rfl, (congrArg zI (show 0 = xa * 10000 / A 37 from by first | rfl | omega)), ht⟩) (fun q hq => absurd hq List.not_mem_nil) dX1_socOf_24
  · refine lv_lload_n hx hb dX1_socOf_9 rfl (lv_at hl 1 rfl) ?_
    refine zr_ldc2 (n := 10000) hx hb hown (hts (.constantLong RX1 122 (10000)) (List.mem_of_getElem? (i := 2) rfl)) rfl dX1_socOf_10 ?_
    refine zr_lmul hx hb dX1_socOf_13 ?_
    refine lv_aload_n hx hb dX1_socOf_14 rfl (lv_at hl 0 rfl) ?_
    refine va_get (D := D) (ci := 1) (v := .long (zL (A 37))) (C := RX1) (T := TX1) (N := 18) hx hb hts hiX1 hown hK hP 0 rfl rfl 4 (by decide) (hts (.fieldLink RX1 48 "ChargeEstimator$Battery" "capacity" "J") (List.mem_of_getElem? (i := 1) rfl)) (fun _ h9 => h9) rfl dX1_socOf_15 ?_
    refine zr_ldiv hx hb dX1_socOf_18 (by omega) (by omega) ?_
    refine zr_l2i hx hb dX1_socOf_19 ?_
    refine lv_goto (tgt := 24) hx hb dX1_socOf_20 (by decide) ?_
    exact W.iret hx hb hr (fun t ht hW => ⟨_, rfl, (congrArg zI (show (xa * 10000) / (A 37) = xa * 10000 / A 37 from by first | rfl | omega)), ht⟩) (fun q hq => absurd hq List.not_mem_nil) dX1_socOf_24
