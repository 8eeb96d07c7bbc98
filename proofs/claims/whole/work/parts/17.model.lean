/-! the reference: its steps -/
abbrev zmod (cs : Nat → ClassId) (o : Nat → Nat) (A S T : Int → Int) (xsm xth xam : Int) (f : Int → Int) (xtl xpl : Int) (g : Int → Int) : va_W := [(o 0, .inr (6, [.ref (o 1), .ref (o 2), .ref (o 3), .int (zI xsm), .int (zI xth), .int (zI xam), .ref (o 4), .int (zI xtl), .int (zI xpl), .ref (o 5)])), (o 1, .inl (cs 2, 213, .inr (.inl (zAL A)))), (o 2, .inl (cs 2, 852, .inr (.inl (zAL S)))), (o 3, .inl (cs 2, 213, .inr (.inl (zAL T)))), (o 4, .inl (cs 0, 120, .inl (zA f))), (o 5, .inl (cs 0, 63, .inl (zA g)))]
set_option maxHeartbeats 4000000 in
set_option maxRecDepth 100000 in
theorem met_X6_range (l : Launch) (D : va_G) (cs : Nat → ClassId) (o : Nat → Nat) (A S T : Int → Int) (xsm xth xam : Int) (f : Int → Int) (xtl xpl : Int) (g : Int → Int) (hw : zWk A) : Met l yX6_range wsX6_range ({ frames := 0, cells := 0, slots := 0, locals := 0 }) (va_Pc [.ref (o 0)] (zPre D (zTy cs) (zmod cs o A S T xsm xth xam f xtl xpl g))) (zRl (zL (zRng A))) 0 0 (fun _ => False) := by
  refine Met.ofW (cc := cX6_range) (maxL := 1) (ret := (some .long)) (by decide) rfl ?_
  intro p e s m args below meth c s₁ B hml hv
  obtain ⟨rfl, hP, hK, hD0, hN⟩ := hv
  have hx := B.exec
  have hb := B.bytes
  have hr := B.returns
  have hts := atoms_spec (ws := wsX6_range) B.pre
  have hown : s.vm.findClass RX6 = some m.cls := findClass_of_methodNamed B.named
  have hlocks := B.notSynchronized
  have hD := hD0
  have hl := lv_entry ([.ref (o 0)]) (n := 1) (Nat.le_of_ble_eq_true rfl)
  rw [lg_entry_eq]
  generalize (lg_sl ([.ref (o 0)]) ++ List.replicate (1 - (lg_sl ([.ref (o 0)])).length) Slot.unset).toArray = ls at hl ⊢
  have hl : lv_has ls 1 [(0, .ref (o 0))] := hl
  have hiX6 : ∀ w ∈ wsX60, w ∈ wsX6_range := by decide +kernel
  obtain ⟨s0, s1, s2, s3, s4, s5, s6, s7, s8, s9, s10, s11⟩ := id hw.1
  have hC := hw.2.1
  have hR := zRng_w hw
  refine lv_aload_n hx hb dX6_range_0 rfl (lv_at hl 0 rfl) ?_
  refine va_get (D := D) (ci := 6) (v := .ref (o 1)) (C := RX6) (T := TX6) (N := 10) hx hb hts hiX6 hown hK hP 0 rfl rfl 0 (by decide) (hts (.fieldLink RX6 7 "ChargeEstimatorModel" "all" "[J") (List.mem_of_getElem? (i := 1) rfl)) (fun _ h9 => h9) rfl dX6_range_1 ?_
  refine zr_bipush hx hb dX6_range_4 (by decide) ?_
  refine zr_lald (D := D) (g := A) hx hb hK hP 1 2 rfl rfl (by decide) (by decide) dX6_range_6 ?_
  refine lv_aload_n hx hb dX6_range_7 rfl (lv_at hl 0 rfl) ?_
  refine va_get (D := D) (ci := 6) (v := .ref (o 1)) (C := RX6) (T := TX6) (N := 10) hx hb hts hiX6 hown hK hP 0 rfl rfl 0 (by decide) (hts (.fieldLink RX6 7 "ChargeEstimatorModel" "all" "[J") (List.mem_of_getElem? (i := 1) rfl)) (fun _ h9 => h9) rfl dX6_range_8 ?_
  refine zr_iconst hx hb dX6_range_11 ?_
  refine zr_lald (D := D) (g := A) hx hb hK hP 1 2 rfl rfl (by decide) (by decide) dX6_range_12 ?_
  refine zr_lmul hx hb dX6_range_13 ?_
  refine zr_ldc2 (n := 100) hx hb hown (hts (.constantLong RX6 44 (100)) (List.mem_of_getElem? (i := 2) rfl)) rfl dX6_range_14 ?_
  refine zr_ldiv hx hb dX6_range_17 (by omega) (by decide) ?_
  exact W.lret hx hb hr (fun t ht hW => ⟨_, rfl, (congrArg zL (show ((A 37) * (A 3)) / 100 = zRng A from by rfl)), ht⟩) (fun q hq => absurd hq List.not_mem_nil) dX6_range_18
set_option maxHeartbeats 4000000 in
set_option maxRecDepth 100000 in
theorem met_X6_hysteresis (l : Launch) (D : va_G) (cs : Nat → ClassId) (o : Nat → Nat) (A S T : Int → Int) (xsm xth xam : Int) (f : Int → Int) (xtl xpl : Int) (g : Int → Int) (n : Int) (hI : zOK n A) (hn : 0 ≤ n ∧ n ≤ 3100000) : Met l yX6_hysteresis wsX6_hysteresis ({ frames := 1, cells := 0, slots := 0, locals := 20 }) (va_Pc [.ref (o 0)] (zPre D (zTy cs) (zmod cs o A S T xsm xth xam f xtl xpl g))) (zRl (zL (zHys A))) 0 0 (fun _ => False) := by
  refine Met.ofW (cc := cX6_hysteresis) (maxL := 1) (ret := (some .long)) (by decide) rfl ?_
  intro p e s m args below meth c s₁ B hml hv
  obtain ⟨rfl, hP, hK, hD0, hN⟩ := hv
  have hx := B.exec
  have hb := B.bytes
  have hr := B.returns
  have hts := atoms_spec (ws := wsX6_hysteresis) B.pre
  have hown : s.vm.findClass RX6 = some m.cls := findClass_of_methodNamed B.named
  have hlocks := B.notSynchronized
  have hD := hD0
  have hl := lv_entry ([.ref (o 0)]) (n := 1) (Nat.le_of_ble_eq_true rfl)
  rw [lg_entry_eq]
  generalize (lg_sl ([.ref (o 0)]) ++ List.replicate (1 - (lg_sl ([.ref (o 0)])).length) Slot.unset).toArray = ls at hl ⊢
  have hl : lv_has ls 1 [(0, .ref (o 0))] := hl
  have hiX6 : ∀ w ∈ wsX60, w ∈ wsX6_hysteresis := by decide +kernel
  obtain ⟨qN, qC, qQ, qL, qH, q40, q41, q42, q43, q44, q45, q46, q47, q48, q49, q50, q51, q52, qhad, qlast, qrow⟩ := zOK_q hI
  have hR := zRng_r hI
  refine lv_aload_n hx hb dX6_hysteresis_0 rfl (lv_at hl 0 rfl) ?_
  refine va_get (D := D) (ci := 6) (v := .ref (o 1)) (C := RX6) (T := TX6) (N := 10) hx hb hts hiX6 hown hK hP 0 rfl rfl 0 (by decide) (hts (.fieldLink RX6 7 "ChargeEstimatorModel" "all" "[J") (List.mem_of_getElem? (i := 1) rfl)) (fun _ h9 => h9) rfl dX6_hysteresis_1 ?_
  refine zr_bipush hx hb dX6_hysteresis_4 (by decide) ?_
  refine zr_lald (D := D) (g := A) hx hb hK hP 1 2 rfl rfl (by decide) (by decide) dX6_hysteresis_6 ?_
  refine zr_ldc2 (n := 1000) hx hb hown (hts (.constantLong RX6 114 (1000)) (List.mem_of_getElem? (i := 2) rfl)) rfl dX6_hysteresis_7 ?_
  refine zr_lmul hx hb dX6_hysteresis_10 ?_
  refine lv_aload_n hx hb dX6_hysteresis_11 rfl (lv_at hl 0 rfl) ?_
  refine zc_rl (va_runV (As := []) (rest := [.long (zL ((A 39) * 1000))]) ⟨hx, hb, hml, hown, hts⟩ (met_X6_range l D cs o A S T xsm xth xam f xtl xpl g (by first | assumption | exact zOK_w (by assumption))) (cwV 0 hts gX6_hysteresis_X6_range rfl rfl rfl (by decide +kernel) ⟨Nat.le_of_ble_eq_true rfl, Nat.le_of_ble_eq_true rfl⟩) ⟨zPre.blind, va_recv hK hP (ci := 6) (q0 := 0) rfl rfl, fun U hU hW => zp_R hP hK hD hN hU hW⟩ rfl rfl hl.1 rfl (lv_room (Nat.le_of_ble_eq_true rfl)) dX6_hysteresis_12 ⟨Nat.le_of_ble_eq_true rfl, Nat.le_of_ble_eq_true rfl⟩) ?_
  refine zr_ldiv hx hb dX6_hysteresis_15 (by omega) (by omega) ?_
  exact W.lret hx hb hr (fun t ht hW => ⟨_, rfl, (congrArg zL (show ((A 39) * 1000) / (zRng A) = zHys A from by rfl)), ht⟩) (fun q hq => absurd hq List.not_mem_nil) dX6_hysteresis_16
set_option maxHeartbeats 4000000 in
set_option maxRecDepth 100000 in
theorem met_X6_lowersHysteresis (l : Launch) (D : va_G) (cs : Nat → ClassId) (o : Nat → Nat) (sz : Nat) (A S T : Int → Int) (xsm xth xam : Int) (f : Int → Int) (xtl xpl : Int) (g : Int → Int) (hw : zWk A) (h39 : -1000000000 ≤ A 39 ∧ A 39 ≤ 1000000000) : Met l yX6_lowersHysteresis wsX6_lowersHysteresis ({ frames := 1, cells := 0, slots := 0, locals := 20 }) (va_Pc [.ref (o 0)] (zPreZ D (zTy cs) (zmod cs o A S T xsm xth xam f xtl xpl g) sz)) (zQv D (zmod cs o A S T xsm xth xam f xtl xpl g) sz (zmod cs o (zU A 39 (min (A 39) (zRng A))) S T xsm xth xam f xtl xpl g)) 0 0 (va_A (zmod cs o A S T xsm xth xam f xtl xpl g) sz) := by
  refine Met.ofW (cc := cX6_lowersHysteresis) (maxL := 1) (ret := none) (by decide) rfl ?_
  intro p e s m args below meth c s₁ B hml hv
  obtain ⟨rfl, hsz, hP, hK, hD0, hN⟩ := hv
  have hx := B.exec
  have hb := B.bytes
  have hr := B.returns
  have hts := atoms_spec (ws := wsX6_lowersHysteresis) B.pre
  have hown : s.vm.findClass RX6 = some m.cls := findClass_of_methodNamed B.named
  have hlocks := B.notSynchronized
  subst hsz
  obtain ⟨A0, hAe⟩ : ∃ A0, A0 = va_A (zmod cs o A S T xsm xth xam f xtl xpl g) s.heap.size := ⟨_, rfl⟩
  have hD := hD0.self (sz := s.heap.size)
  rw [← hAe] at hD
  have hA : ∀ q : Nat, s.heap.size ≤ q → A0 q := fun q h => by rw [hAe]; exact Or.inr h
  have hS : va_S A0 s.heap s.heap [] := va_S.rf
  have hP : va_P D vwCl (zmod cs o A S T xsm xth xam f xtl xpl g) s.heap := hP
  have hl := lv_entry ([.ref (o 0)]) (n := 1) (Nat.le_of_ble_eq_true rfl)
  rw [lg_entry_eq]
  generalize (lg_sl ([.ref (o 0)]) ++ List.replicate (1 - (lg_sl ([.ref (o 0)])).length) Slot.unset).toArray = ls at hl ⊢
  have hl : lv_has ls 1 [(0, .ref (o 0))] := hl
  have hiX6 : ∀ w ∈ wsX60, w ∈ wsX6_lowersHysteresis := by decide +kernel
  have hR := zRng_w hw
  have hR0 : zRng A = A 37 * A 3 / 100 := rfl
  refine lv_aload_n hx hb dX6_lowersHysteresis_0 rfl (lv_at hl 0 rfl) ?_
  refine va_get (D := D) (ci := 6) (v := .ref (o 1)) (C := RX6) (T := TX6) (N := 10) hx hb hts hiX6 hown hK hP 0 rfl rfl 0 (by decide) (hts (.fieldLink RX6 7 "ChargeEstimatorModel" "all" "[J") (List.mem_of_getElem? (i := 1) rfl)) (fun _ h9 => h9) rfl dX6_lowersHysteresis_1 ?_
  refine zr_bipush hx hb dX6_lowersHysteresis_4 (by decide) ?_
  refine lv_aload_n hx hb dX6_lowersHysteresis_6 rfl (lv_at hl 0 rfl) ?_
  refine va_get (D := D) (ci := 6) (v := .ref (o 1)) (C := RX6) (T := TX6) (N := 10) hx hb hts hiX6 hown hK hP 0 rfl rfl 0 (by decide) (hts (.fieldLink RX6 7 "ChargeEstimatorModel" "all" "[J") (List.mem_of_getElem? (i := 1) rfl)) (fun _ h9 => h9) rfl dX6_lowersHysteresis_7 ?_
  refine zr_bipush hx hb dX6_lowersHysteresis_10 (by decide) ?_
  refine zr_lald (D := D) (g := A) hx hb hK hP 1 2 rfl rfl (by decide) (by decide) dX6_lowersHysteresis_12 ?_
  refine lv_aload_n hx hb dX6_lowersHysteresis_13 rfl (lv_at hl 0 rfl) ?_
  refine zc_rl (va_runV (As := []) (rest := [.long (zL (A 39)), .int (zI 39), .ref (o 1)]) ⟨hx, hb, hml, hown, hts⟩ (met_X6_range l D cs o A S T xsm xth xam f xtl xpl g (by first | assumption | exact zOK_w (by assumption))) (cwV 0 hts gX6_lowersHysteresis_X6_range rfl rfl rfl (by decide +kernel) ⟨Nat.le_of_ble_eq_true rfl, Nat.le_of_ble_eq_true rfl⟩) ⟨zPre.blind, va_recv hK hP (ci := 6) (q0 := 0) rfl rfl, fun U hU hW => zp_R hP hK hD hN hU hW⟩ rfl rfl hl.1 rfl (lv_room (Nat.le_of_ble_eq_true rfl)) dX6_lowersHysteresis_14 ⟨Nat.le_of_ble_eq_true rfl, Nat.le_of_ble_eq_true rfl⟩) ?_
  refine zr_lcmp_le (tgt := 28) hx hb dX6_lowersHysteresis_17 dX6_lowersHysteresis_18 (by decide) (by omega) (by omega) (fun c1 => ?_) (fun c1 => ?_)
  · refine lv_aload_n hx hb dX6_lowersHysteresis_28 rfl (lv_at hl 0 rfl) ?_
    refine va_get (D := D) (ci := 6) (v := .ref (o 1)) (C := RX6) (T := TX6) (N := 10) hx hb hts hiX6 hown hK hP 0 rfl rfl 0 (by decide) (hts (.fieldLink RX6 7 "ChargeEstimatorModel" "all" "[J") (List.mem_of_getElem? (i := 1) rfl)) (fun _ h9 => h9) rfl dX6_lowersHysteresis_29 ?_
    refine zr_bipush hx hb dX6_lowersHysteresis_32 (by decide) ?_
    refine zr_lald (D := D) (g := A) hx hb hK hP 1 2 rfl rfl (by decide) (by decide) dX6_lowersHysteresis_34 ?_
    refine zr_topl (b := min (A 39) (zRng A)) (by omega) ?_
    refine zr_last (D := D) (g := A) hx hb hK hP hD hS 1 2 rfl rfl (by decide) (by decide) dX6_lowersHysteresis_35 (fun H locs hP hD hS => ?_)
    have hP : va_P D vwCl (zmod cs o (zU A 39 (min (A 39) (zRng A))) S T xsm xth xam f xtl xpl g) H := hP
    have hD : va_D A0 (zmod cs o (zU A 39 (min (A 39) (zRng A))) S T xsm xth xam f xtl xpl g) := zD_addr hD rfl
    have hP9 : va_P D vwCl (zmod cs o (zU A 39 (min (A 39) (zRng A))) S T xsm xth xam f xtl xpl g) H := hP
    have hD9 : va_D A0 (zmod cs o (zU A 39 (min (A 39) (zRng A))) S T xsm xth xam f xtl xpl g) := zD_addr hD rfl
    subst hAe
    exact W.vret hx hb hr (fun t ht hW => ⟨⟨(), rfl, trivial, by rw [ht]; exact hP9, hD9⟩, hS.F ht⟩) hS.2.2 dX6_lowersHysteresis_36
  · refine lv_aload_n hx hb dX6_lowersHysteresis_21 rfl (lv_at hl 0 rfl) ?_
    refine zc_rl (va_runV (As := []) (rest := [.int (zI 39), .ref (o 1)]) ⟨hx, hb, hml, hown, hts⟩ (met_X6_range l D cs o A S T xsm xth xam f xtl xpl g (by first | assumption | exact zOK_w (by assumption))) (cwV 0 hts gX6_lowersHysteresis_X6_range rfl rfl rfl (by decide +kernel) ⟨Nat.le_of_ble_eq_true rfl, Nat.le_of_ble_eq_true rfl⟩) ⟨zPre.blind, va_recv hK hP (ci := 6) (q0 := 0) rfl rfl, fun U hU hW => zp_R hP hK hD hN hU hW⟩ rfl rfl hl.1 rfl (lv_room (Nat.le_of_ble_eq_true rfl)) dX6_lowersHysteresis_22 ⟨Nat.le_of_ble_eq_true rfl, Nat.le_of_ble_eq_true rfl⟩) ?_
    refine lv_goto (tgt := 35) hx hb dX6_lowersHysteresis_25 (by decide) ?_
    refine zr_topl (b := min (A 39) (zRng A)) (by omega) ?_
    refine zr_last (D := D) (g := A) hx hb hK hP hD hS 1 2 rfl rfl (by decide) (by decide) dX6_lowersHysteresis_35 (fun H locs hP hD hS => ?_)
    have hP : va_P D vwCl (zmod cs o (zU A 39 (min (A 39) (zRng A))) S T xsm xth xam f xtl xpl g) H := hP
    have hD : va_D A0 (zmod cs o (zU A 39 (min (A 39) (zRng A))) S T xsm xth xam f xtl xpl g) := zD_addr hD rfl
    have hP9 : va_P D vwCl (zmod cs o (zU A 39 (min (A 39) (zRng A))) S T xsm xth xam f xtl xpl g) H := hP
    have hD9 : va_D A0 (zmod cs o (zU A 39 (min (A 39) (zRng A))) S T xsm xth xam f xtl xpl g) := zD_addr hD rfl
    subst hAe
    exact W.vret hx hb hr (fun t ht hW => ⟨⟨(), rfl, trivial, by rw [ht]; exact hP9, hD9⟩, hS.F ht⟩) hS.2.2 dX6_lowersHysteresis_36
set_option maxHeartbeats 4000000 in
set_option maxRecDepth 100000 in
theorem met_X6_branch (l : Launch) (D : va_G) (cs : Nat → ClassId) (o : Nat → Nat) (A S T : Int → Int) (xsm xth xam : Int) (f : Int → Int) (xtl xpl : Int) (g : Int → Int) (n : Int) (xw xs : Int) (hI : zOK n A) (hn : 0 ≤ n ∧ n ≤ 3100000) (kxw : xw = 12 ∨ xw = 23) (kxs : 0 ≤ xs ∧ xs ≤ 10000) : Met l yX6_branch wsX6_branch ({ frames := 0, cells := 0, slots := 0, locals := 0 }) (va_Pc [.ref (o 0), .int (zI xw), .int (zI xs)] (zPre D (zTy cs) (zmod cs o A S T xsm xth xam f xtl xpl g))) (zRl (zL (zBr A xw xs))) 0 0 (fun _ => False) := by
  refine Met.ofW (cc := cX6_branch) (maxL := 6) (ret := (some .long)) (by decide) rfl ?_
  intro p e s m args below meth c s₁ B hml hv
  obtain ⟨rfl, hP, hK, hD0, hN⟩ := hv
  have hx := B.exec
  have hb := B.bytes
  have hr := B.returns
  have hts := atoms_spec (ws := wsX6_branch) B.pre
  have hown : s.vm.findClass RX6 = some m.cls := findClass_of_methodNamed B.named
  have hlocks := B.notSynchronized
  have hD := hD0
  have hl := lv_entry ([.ref (o 0), .int (zI xw), .int (zI xs)]) (n := 6) (Nat.le_of_ble_eq_true rfl)
  rw [lg_entry_eq]
  generalize (lg_sl ([.ref (o 0), .int (zI xw), .int (zI xs)]) ++ List.replicate (6 - (lg_sl ([.ref (o 0), .int (zI xw), .int (zI xs)])).length) Slot.unset).toArray = ls at hl ⊢
  have hl : lv_has ls 6 [(0, .ref (o 0)), (1, .int (zI xw)), (2, .int (zI xs))] := hl
  have hiX6 : ∀ w ∈ wsX60, w ∈ wsX6_branch := by decide +kernel
  obtain ⟨hc1, hc2⟩ := zOK_c hI
  have hk := zK_r kxs
  have hk1 := hc1 (zK xs) hk.1.1 (by omega)
  have hk2 := hc1 (zK xs + 1) (by omega) (by omega)
  have hk3 := hc2 (zK xs) hk.1.1 (by omega)
  rw [← Int.add_assoc, ← Int.add_assoc] at hk2
  have hv : (2000 ≤ A (xw + zK xs) ∧ A (xw + zK xs) ≤ 5000) ∧ (2000 ≤ A (xw + zK xs + 1) ∧ A (xw + zK xs + 1) ≤ 5000) ∧ A (xw + zK xs) < A (xw + zK xs + 1) := by
    rcases kxw with rfl | rfl <;> omega
  refine lv_iload_n hx hb dX6_branch_0 rfl (lv_at hl 2 rfl) ?_
  refine zr_sipush hx hb dX6_branch_1 (by decide) ?_
  refine zr_idiv hx hb dX6_branch_4 (by omega) (by decide) ?_
  refine zr_bipush hx hb dX6_branch_5 (by decide) ?_
  refine zr_icmp_ge (tgt := 18) hx hb dX6_branch_7 (by decide) (by omega) (by decide) (fun c1 => ?_) (fun c1 => ?_)
  · refine zr_bipush hx hb dX6_branch_18 (by decide) ?_
    refine zr_topi (b := zK xs) (by unfold zK; split <;> omega) ?_
    refine lv_istore_n (lv' := [(3, .int (zI (zK xs))), (0, .ref (o 0)), (1, .int (zI xw)), (2, .int (zI xs))]) hx hb dX6_branch_20 rfl hl (by decide) rfl (fun ls hl => ?_)
    refine lv_aload_n hx hb dX6_branch_21 rfl (lv_at hl 1 rfl) ?_
    refine va_get (D := D) (ci := 6) (v := .ref (o 1)) (C := RX6) (T := TX6) (N := 10) hx hb hts hiX6 hown hK hP 0 rfl rfl 0 (by decide) (hts (.fieldLink RX6 7 "ChargeEstimatorModel" "all" "[J") (List.mem_of_getElem? (i := 1) rfl)) (fun _ h9 => h9) rfl dX6_branch_22 ?_
    refine lv_iload_n hx hb dX6_branch_25 rfl (lv_at hl 2 rfl) ?_
    refine lv_iload_n hx hb dX6_branch_26 rfl (lv_at hl 0 rfl) ?_
    refine zr_iadd hx hb dX6_branch_27 ?_
    refine zr_lald (D := D) (g := A) hx hb hK hP 1 2 rfl rfl (by decide) (by omega) dX6_branch_28 ?_
    refine lv_lstore (lv' := [(4, .long (zL (A (xw + (zK xs))))), (3, .int (zI (zK xs))), (0, .ref (o 0)), (1, .int (zI xw)), (2, .int (zI xs))]) hx hb dX6_branch_29 hl (by decide) rfl (fun ls hl => ?_)
    refine lv_lload hx hb dX6_branch_31 (lv_at hl 0 rfl) ?_
    refine lv_aload_n hx hb dX6_branch_33 rfl (lv_at hl 2 rfl) ?_
    refine va_get (D := D) (ci := 6) (v := .ref (o 1)) (C := RX6) (T := TX6) (N := 10) hx hb hts hiX6 hown hK hP 0 rfl rfl 0 (by decide) (hts (.fieldLink RX6 7 "ChargeEstimatorModel" "all" "[J") (List.mem_of_getElem? (i := 1) rfl)) (fun _ h9 => h9) rfl dX6_branch_34 ?_
    refine lv_iload_n hx hb dX6_branch_37 rfl (lv_at hl 3 rfl) ?_
    refine lv_iload_n hx hb dX6_branch_38 rfl (lv_at hl 1 rfl) ?_
    refine zr_iadd hx hb dX6_branch_39 ?_
    refine zr_iconst hx hb dX6_branch_40 ?_
    refine zr_iadd hx hb dX6_branch_41 ?_
    refine zr_lald (D := D) (g := A) hx hb hK hP 1 2 rfl rfl (by decide) (by omega) dX6_branch_42 ?_
    refine lv_lload hx hb dX6_branch_43 (lv_at hl 0 rfl) ?_
    refine zr_lsub hx hb dX6_branch_45 ?_
    refine lv_iload_n hx hb dX6_branch_46 rfl (lv_at hl 4 rfl) ?_
    refine zr_i2l hx hb dX6_branch_47 (by omega) ?_
    refine zr_ldc2 (n := 1000) hx hb hown (hts (.constantLong RX6 114 (1000)) (List.mem_of_getElem? (i := 2) rfl)) rfl dX6_branch_48 ?_
    refine lv_iload_n hx hb dX6_branch_51 rfl (lv_at hl 1 rfl) ?_
    refine zr_i2l hx hb dX6_branch_52 (by omega) ?_
    refine zr_lmul hx hb dX6_branch_53 ?_
    refine zr_lsub hx hb dX6_branch_54 ?_
    have hm2 := zmul_r (x := (A ((xw + (zK xs)) + 1)) - (A (xw + (zK xs)))) (y := xs - (1000 * (zK xs))) (a := 3000) (b := 1000) (by omega) (by omega)
    refine zr_lmul hx hb dX6_branch_55 ?_
    refine zr_ldc2 (n := 1000) hx hb hown (hts (.constantLong RX6 114 (1000)) (List.mem_of_getElem? (i := 2) rfl)) rfl dX6_branch_56 ?_
    refine zr_ldiv hx hb dX6_branch_59 (by omega) (by decide) ?_
    refine zr_ladd hx hb dX6_branch_60 ?_
    exact W.lret hx hb hr (fun t ht hW => ⟨_, rfl, (congrArg zL (show (A (xw + (zK xs))) + ((((A ((xw + (zK xs)) + 1)) - (A (xw + (zK xs)))) * (xs - (1000 * (zK xs)))) / 1000) = zBr A xw xs from by rfl)), ht⟩) (fun q hq => absurd hq List.not_mem_nil) dX6_branch_61
  · refine lv_iload_n hx hb dX6_branch_10 rfl (lv_at hl 2 rfl) ?_
    refine zr_sipush hx hb dX6_branch_11 (by decide) ?_
    refine zr_idiv hx hb dX6_branch_14 (by omega) (by decide) ?_
    refine lv_goto (tgt := 20) hx hb dX6_branch_15 (by decide) ?_
    refine zr_topi (b := zK xs) (by unfold zK; split <;> omega) ?_
    refine lv_istore_n (lv' := [(3, .int (zI (zK xs))), (0, .ref (o 0)), (1, .int (zI xw)), (2, .int (zI xs))]) hx hb dX6_branch_20 rfl hl (by decide) rfl (fun ls hl => ?_)
    refine lv_aload_n hx hb dX6_branch_21 rfl (lv_at hl 1 rfl) ?_
    refine va_get (D := D) (ci := 6) (v := .ref (o 1)) (C := RX6) (T := TX6) (N := 10) hx hb hts hiX6 hown hK hP 0 rfl rfl 0 (by decide) (hts (.fieldLink RX6 7 "ChargeEstimatorModel" "all" "[J") (List.mem_of_getElem? (i := 1) rfl)) (fun _ h9 => h9) rfl dX6_branch_22 ?_
    refine lv_iload_n hx hb dX6_branch_25 rfl (lv_at hl 2 rfl) ?_
    refine lv_iload_n hx hb dX6_branch_26 rfl (lv_at hl 0 rfl) ?_
    refine zr_iadd hx hb dX6_branch_27 ?_
    refine zr_lald (D := D) (g := A) hx hb hK hP 1 2 rfl rfl (by decide) (by omega) dX6_branch_28 ?_
    refine lv_lstore (lv' := [(4, .long (zL (A (xw + (zK xs))))), (3, .int (zI (zK xs))), (0, .ref (o 0)), (1, .int (zI xw)), (2, .int (zI xs))]) hx hb dX6_branch_29 hl (by decide) rfl (fun ls hl => ?_)
    refine lv_lload hx hb dX6_branch_31 (lv_at hl 0 rfl) ?_
    refine lv_aload_n hx hb dX6_branch_33 rfl (lv_at hl 2 rfl) ?_
    refine va_get (D := D) (ci := 6) (v := .ref (o 1)) (C := RX6) (T := TX6) (N := 10) hx hb hts hiX6 hown hK hP 0 rfl rfl 0 (by decide) (hts (.fieldLink RX6 7 "ChargeEstimatorModel" "all" "[J") (List.mem_of_getElem? (i := 1) rfl)) (fun _ h9 => h9) rfl dX6_branch_34 ?_
    refine lv_iload_n hx hb dX6_branch_37 rfl (lv_at hl 3 rfl) ?_
    refine lv_iload_n hx hb dX6_branch_38 rfl (lv_at hl 1 rfl) ?_
    refine zr_iadd hx hb dX6_branch_39 ?_
    refine zr_iconst hx hb dX6_branch_40 ?_
    refine zr_iadd hx hb dX6_branch_41 ?_
    refine zr_lald (D := D) (g := A) hx hb hK hP 1 2 rfl rfl (by decide) (by omega) dX6_branch_42 ?_
    refine lv_lload hx hb dX6_branch_43 (lv_at hl 0 rfl) ?_
    refine zr_lsub hx hb dX6_branch_45 ?_
    refine lv_iload_n hx hb dX6_branch_46 rfl (lv_at hl 4 rfl) ?_
    refine zr_i2l hx hb dX6_branch_47 (by omega) ?_
    refine zr_ldc2 (n := 1000) hx hb hown (hts (.constantLong RX6 114 (1000)) (List.mem_of_getElem? (i := 2) rfl)) rfl dX6_branch_48 ?_
    refine lv_iload_n hx hb dX6_branch_51 rfl (lv_at hl 1 rfl) ?_
    refine zr_i2l hx hb dX6_branch_52 (by omega) ?_
    refine zr_lmul hx hb dX6_branch_53 ?_
    refine zr_lsub hx hb dX6_branch_54 ?_
    have hm3 := zmul_r (x := (A ((xw + (zK xs)) + 1)) - (A (xw + (zK xs)))) (y := xs - (1000 * (zK xs))) (a := 3000) (b := 1000) (by omega) (by omega)
    refine zr_lmul hx hb dX6_branch_55 ?_
    refine zr_ldc2 (n := 1000) hx hb hown (hts (.constantLong RX6 114 (1000)) (List.mem_of_getElem? (i := 2) rfl)) rfl dX6_branch_56 ?_
    refine zr_ldiv hx hb dX6_branch_59 (by omega) (by decide) ?_
    refine zr_ladd hx hb dX6_branch_60 ?_
    exact W.lret hx hb hr (fun t ht hW => ⟨_, rfl, (congrArg zL (show (A (xw + (zK xs))) + ((((A ((xw + (zK xs)) + 1)) - (A (xw + (zK xs)))) * (xs - (1000 * (zK xs)))) / 1000) = zBr A xw xs from by rfl)), ht⟩) (fun q hq => absurd hq List.not_mem_nil) dX6_branch_61
set_option maxHeartbeats 4000000 in
set_option maxRecDepth 100000 in
theorem met_X6_voltage (l : Launch) (D : va_G) (cs : Nat → ClassId) (o : Nat → Nat) (A S T : Int → Int) (xsm xth xam : Int) (f : Int → Int) (xtl xpl : Int) (g : Int → Int) (n : Int) (xs xh : Int) (hI : zOK n A) (hn : 0 ≤ n ∧ n ≤ 3100000) (kxs : 0 ≤ xs ∧ xs ≤ 10000) (kxh : 0 ≤ xh ∧ xh ≤ 1000) : Met l yX6_voltage wsX6_voltage ({ frames := 1, cells := 0, slots := 0, locals := 25 }) (va_Pc [.ref (o 0), .int (zI xs), .long (zL xh)] (zPre D (zTy cs) (zmod cs o A S T xsm xth xam f xtl xpl g))) (zRl (zL (zV A xs xh))) 0 0 (fun _ => False) := by
  refine Met.ofW (cc := cX6_voltage) (maxL := 6) (ret := (some .long)) (by decide) rfl ?_
  intro p e s m args below meth c s₁ B hml hv
  obtain ⟨rfl, hP, hK, hD0, hN⟩ := hv
  have hx := B.exec
  have hb := B.bytes
  have hr := B.returns
  have hts := atoms_spec (ws := wsX6_voltage) B.pre
  have hown : s.vm.findClass RX6 = some m.cls := findClass_of_methodNamed B.named
  have hlocks := B.notSynchronized
  have hD := hD0
  have hl := lv_entry ([.ref (o 0), .int (zI xs), .long (zL xh)]) (n := 6) (Nat.le_of_ble_eq_true rfl)
  rw [lg_entry_eq]
  generalize (lg_sl ([.ref (o 0), .int (zI xs), .long (zL xh)]) ++ List.replicate (6 - (lg_sl ([.ref (o 0), .int (zI xs), .long (zL xh)])).length) Slot.unset).toArray = ls at hl ⊢
  have hl : lv_has ls 6 [(0, .ref (o 0)), (1, .int (zI xs)), (2, .long (zL xh))] := hl
  have hcv : zCv A := zOK_c hI
  have hBr := zBr_r hcv kxs
  refine lv_aload_n hx hb dX6_voltage_0 rfl (lv_at hl 0 rfl) ?_
  refine zr_bipush hx hb dX6_voltage_1 (by decide) ?_
  refine lv_iload_n hx hb dX6_voltage_3 rfl (lv_at hl 1 rfl) ?_
  refine zc_rl (va_runV (As := [.int (zI 12), .int (zI xs)]) (rest := []) ⟨hx, hb, hml, hown, hts⟩ (met_X6_branch l D cs o A S T xsm xth xam f xtl xpl g _ 12 xs (by assumption) (by assumption) (by first | decide | omega) (by first | assumption | omega)) (cwV 2 hts gX6_voltage_X6_branch rfl rfl rfl (by decide +kernel) ⟨Nat.le_of_ble_eq_true rfl, Nat.le_of_ble_eq_true rfl⟩) ⟨zPre.blind, va_recv hK hP (ci := 6) (q0 := 0) rfl rfl, fun U hU hW => zp_R hP hK hD hN hU hW⟩ rfl rfl hl.1 rfl (lv_room (Nat.le_of_ble_eq_true rfl)) dX6_voltage_4 ⟨Nat.le_of_ble_eq_true rfl, Nat.le_of_ble_eq_true rfl⟩) ?_
  refine lv_lstore (lv' := [(4, .long (zL (zBr A 12 xs))), (0, .ref (o 0)), (1, .int (zI xs)), (2, .long (zL xh))]) hx hb dX6_voltage_7 hl (by decide) rfl (fun ls hl => ?_)
  refine lv_lload hx hb dX6_voltage_9 (lv_at hl 0 rfl) ?_
  refine lv_aload_n hx hb dX6_voltage_11 rfl (lv_at hl 1 rfl) ?_
  refine zr_bipush hx hb dX6_voltage_12 (by decide) ?_
  refine lv_iload_n hx hb dX6_voltage_14 rfl (lv_at hl 2 rfl) ?_
  refine zc_rl (va_runV (As := [.int (zI 23), .int (zI xs)]) (rest := [.long (zL (zBr A 12 xs))]) ⟨hx, hb, hml, hown, hts⟩ (met_X6_branch l D cs o A S T xsm xth xam f xtl xpl g _ 23 xs (by assumption) (by assumption) (by first | decide | omega) (by first | assumption | omega)) (cwV 2 hts gX6_voltage_X6_branch rfl rfl rfl (by decide +kernel) ⟨Nat.le_of_ble_eq_true rfl, Nat.le_of_ble_eq_true rfl⟩) ⟨zPre.blind, va_recv hK hP (ci := 6) (q0 := 0) rfl rfl, fun U hU hW => zp_R hP hK hD hN hU hW⟩ rfl rfl hl.1 rfl (lv_room (Nat.le_of_ble_eq_true rfl)) dX6_voltage_15 ⟨Nat.le_of_ble_eq_true rfl, Nat.le_of_ble_eq_true rfl⟩) ?_
  refine lv_lload hx hb dX6_voltage_18 (lv_at hl 0 rfl) ?_
  refine zr_lsub hx hb dX6_voltage_20 ?_
  refine lv_lload_n hx hb dX6_voltage_21 rfl (lv_at hl 3 rfl) ?_
  have hm1 := zmul_r (x := (zBr A 23 xs) - (zBr A 12 xs)) (y := xh) (a := 3000) (b := 1000) (by omega) (by omega)
  refine zr_lmul hx hb dX6_voltage_22 ?_
  refine zr_ldc2 (n := 1000) hx hb hown (hts (.constantLong RX6 114 (1000)) (List.mem_of_getElem? (i := 1) rfl)) rfl dX6_voltage_23 ?_
  refine zr_ldiv hx hb dX6_voltage_26 (by omega) (by decide) ?_
  refine zr_ladd hx hb dX6_voltage_27 ?_
  exact W.lret hx hb hr (fun t ht hW => ⟨_, rfl, (congrArg zL (show (zBr A 12 xs) + ((((zBr A 23 xs) - (zBr A 12 xs)) * xh) / 1000) = zV A xs xh from by rfl)), ht⟩) (fun q hq => absurd hq List.not_mem_nil) dX6_voltage_28
set_option maxHeartbeats 4000000 in
set_option maxRecDepth 100000 in
theorem met_X6_inverted (l : Launch) (D : va_G) (cs : Nat → ClassId) (o : Nat → Nat) (A S T : Int → Int) (xsm xth xam : Int) (f : Int → Int) (xtl xpl : Int) (g : Int → Int) (n : Int) (xv xh : Int) (hI : zOK n A) (hn : 0 ≤ n ∧ n ≤ 3100000) (kxv : -100 ≤ xv ∧ xv ≤ 6100) (kxh : 0 ≤ xh ∧ xh ≤ 1000) : Met l yX6_inverted wsX6_inverted ({ frames := 2, cells := 0, slots := 0, locals := 50 }) (va_Pc [.ref (o 0), .long (zL xv), .long (zL xh)] (zPre D (zTy cs) (zmod cs o A S T xsm xth xam f xtl xpl g))) (zRi (zI (zInv A xv xh))) 0 0 (fun _ => False) := by
  refine Met.ofW (cc := cX6_inverted) (maxL := 6) (ret := (some .int)) (by decide) rfl ?_
  intro p e s m args below meth c s₁ B hml hv
  obtain ⟨rfl, hP, hK, hD0, hN⟩ := hv
  have hx := B.exec
  have hb := B.bytes
  have hr := B.returns
  have hts := atoms_spec (ws := wsX6_inverted) B.pre
  have hown : s.vm.findClass RX6 = some m.cls := findClass_of_methodNamed B.named
  have hlocks := B.notSynchronized
  have hD := hD0
  have hl := lv_entry ([.ref (o 0), .long (zL xv), .long (zL xh)]) (n := 6) (Nat.le_of_ble_eq_true rfl)
  rw [lg_entry_eq]
  generalize (lg_sl ([.ref (o 0), .long (zL xv), .long (zL xh)]) ++ List.replicate (6 - (lg_sl ([.ref (o 0), .long (zL xv), .long (zL xh)])).length) Slot.unset).toArray = ls at hl ⊢
  have hl : lv_has ls 6 [(0, .ref (o 0)), (1, .long (zL xv)), (3, .long (zL xh))] := hl
  have hcv : zCv A := zOK_c hI
  refine zr_iconst hx hb dX6_inverted_0 ?_
  refine lv_istore (lv' := [(5, .int (zI 0)), (0, .ref (o 0)), (1, .long (zL xv)), (3, .long (zL xh))]) hx hb dX6_inverted_1 hl (by decide) rfl (fun ls hl => ?_)
  suffices J_3 : ∀ (nn : Nat) (xs : Int) (js : 0 ≤ xs ∧ xs ≤ 10000) (jl : ∀ k : Int, 0 ≤ k → k < xs → zV A k xh < xv) (hmu : 10000 - xs < (nn : Int)) (ls : Array Slot) (hl : lv_has ls 6 [(5, .int (zI xs)), (0, .ref (o 0)), (1, .long (zL xv)), (3, .long (zL xh))]), W p l e (headSpec wsX6_inverted ({ frames := 2, cells := 0, slots := 0, locals := 50 })).room s m ([.ref (o 0), .long (zL xv), .long (zL xh)] : List Value).toArray below meth c s.heap [] 0 0 (MQ below (zRi (zI (zInv A xv xh))) ([.ref (o 0), .long (zL xv), .long (zL xh)] : List Value).toArray s 0 0 (fun _ => False)) (F0 m 3 ls []) by
    exact J_3 (((10000 - 0) : Int).toNat + 1) 0 (by omega) (by first | (intro k a b; omega) | (intro k a b; rcases Int.lt_or_le k xs with q9 | q9; (exact jl k a q9); (rw [show k = xs by omega]; assumption))) (by have : (0 : Int) ≤ 10000 - 0 := (by omega); omega) _ (lv_sub hl [0, 1, 2, 3] rfl)
  intro nn
  induction nn with
  | zero => intro xs js jl hmu; exfalso; have : (0 : Int) ≤ 10000 - xs := (by omega); omega
  | succ nn ih =>
    intro xs js jl hmu ls hl
    refine lv_iload hx hb dX6_inverted_3 (lv_at hl 0 rfl) ?_
    refine zr_sipush hx hb dX6_inverted_5 (by decide) ?_
    refine zr_icmp_ge (tgt := 32) hx hb dX6_inverted_8 (by decide) (by omega) (by decide) (fun c1 => ?_) (fun c1 => ?_)
    · refine zr_sipush hx hb dX6_inverted_32 (by decide) ?_
      exact W.iret hx hb hr (fun t ht hW => ⟨_, rfl, (congrArg zI (show 10000 = zInv A xv xh from by exact (zInv_eq (by decide) (by decide) (fun k a b => jl k a (by omega)) (fun h => absurd h (by decide))).symm)), ht⟩) (fun q hq => absurd hq List.not_mem_nil) dX6_inverted_35
    · refine lv_aload_n hx hb dX6_inverted_11 rfl (lv_at hl 1 rfl) ?_
      refine lv_iload hx hb dX6_inverted_12 (lv_at hl 0 rfl) ?_
      refine lv_lload_n hx hb dX6_inverted_14 rfl (lv_at hl 3 rfl) ?_
      refine zc_rl (va_runV (As := [.int (zI xs), .long (zL xh)]) (rest := []) ⟨hx, hb, hml, hown, hts⟩ (met_X6_voltage l D cs o A S T xsm xth xam f xtl xpl g _ xs xh (by assumption) (by assumption) (by first | assumption | omega) (by first | assumption | omega)) (cwV 2 hts gX6_inverted_X6_voltage rfl rfl rfl (by decide +kernel) ⟨Nat.le_of_ble_eq_true rfl, Nat.le_of_ble_eq_true rfl⟩) ⟨zPre.blind, va_recv hK hP (ci := 6) (q0 := 0) rfl rfl, fun U hU hW => zp_R hP hK hD hN hU hW⟩ rfl rfl hl.1 rfl (lv_room (Nat.le_of_ble_eq_true rfl)) dX6_inverted_15 ⟨Nat.le_of_ble_eq_true rfl, Nat.le_of_ble_eq_true rfl⟩) ?_
      have hvr := zV_r (s := xs) hcv (by omega) kxh
      refine lv_lload_n hx hb dX6_inverted_18 rfl (lv_at hl 2 rfl) ?_
      refine zr_lcmp_lt (tgt := 26) hx hb dX6_inverted_19 dX6_inverted_20 (by decide) (by omega) (by omega) (fun c2 => ?_) (fun c2 => ?_)
      · refine zr_iinc (kk := 0) (lv' := [(5, .int (zI (xs + 1))), (0, .ref (o 0)), (1, .long (zL xv)), (3, .long (zL xh))]) hx hb dX6_inverted_26 hl rfl (by decide) rfl (fun ls hl => ?_)
        refine lv_goto (tgt := 3) hx hb dX6_inverted_29 (by decide) ?_
        exact ih (xs + 1) (by omega) (by first | (intro k a b; omega) | (intro k a b; rcases Int.lt_or_le k xs with q9 | q9; (exact jl k a q9); (rw [show k = xs by omega]; assumption))) (by omega) _ (lv_sub hl [0, 1, 2, 3] rfl)
      · refine lv_iload hx hb dX6_inverted_23 (lv_at hl 0 rfl) ?_
        exact W.iret hx hb hr (fun t ht hW => ⟨_, rfl, (congrArg zI (show xs = zInv A xv xh from by exact (zInv_eq (by omega) (by omega) jl (fun _ => by assumption)).symm)), ht⟩) (fun q hq => absurd hq List.not_mem_nil) dX6_inverted_25
set_option maxHeartbeats 4000000 in
set_option maxRecDepth 100000 in
theorem met_X6_counts (l : Launch) (D : va_G) (cs : Nat → ClassId) (o : Nat → Nat) (A S T : Int → Int) (xsm xth xam : Int) (f : Int → Int) (xtl xpl : Int) (g : Int → Int) (xi xt : Int) (hw : zWk A) (kxi : -50000 ≤ xi ∧ xi ≤ 50000) (kxt : 0 ≤ xt ∧ xt ≤ 1000001) : Met l yX6_counts wsX6_counts ({ frames := 0, cells := 0, slots := 0, locals := 0 }) (va_Pc [.ref (o 0), .long (zL xi), .long (zL xt)] (zPre D (zTy cs) (zmod cs o A S T xsm xth xam f xtl xpl g))) (zRl (zL (zMov A xi xt))) 0 0 (fun _ => False) := by
  refine Met.ofW (cc := cX6_counts) (maxL := 5) (ret := (some .long)) (by decide) rfl ?_
  intro p e s m args below meth c s₁ B hml hv
  obtain ⟨rfl, hP, hK, hD0, hN⟩ := hv
  have hx := B.exec
  have hb := B.bytes
  have hr := B.returns
  have hts := atoms_spec (ws := wsX6_counts) B.pre
  have hown : s.vm.findClass RX6 = some m.cls := findClass_of_methodNamed B.named
  have hlocks := B.notSynchronized
  have hD := hD0
  have hl := lv_entry ([.ref (o 0), .long (zL xi), .long (zL xt)]) (n := 5) (Nat.le_of_ble_eq_true rfl)
  rw [lg_entry_eq]
  generalize (lg_sl ([.ref (o 0), .long (zL xi), .long (zL xt)]) ++ List.replicate (5 - (lg_sl ([.ref (o 0), .long (zL xi), .long (zL xt)])).length) Slot.unset).toArray = ls at hl ⊢
  have hl : lv_has ls 5 [(0, .ref (o 0)), (1, .long (zL xi)), (3, .long (zL xt))] := hl
  have hiX6 : ∀ w ∈ wsX60, w ∈ wsX6_counts := by decide +kernel
  obtain ⟨s0, s1, s2, s3, s4, s5, s6, s7, s8, s9, s10, s11⟩ := id hw.1
  refine lv_lload_n hx hb dX6_counts_0 rfl (lv_at hl 1 rfl) ?_
  refine zr_lconst0 hx hb dX6_counts_1 ?_
  refine zr_lcmp_le (tgt := 23) hx hb dX6_counts_2 dX6_counts_3 (by decide) (by omega) (by decide) (fun c1 => ?_) (fun c1 => ?_)
  · refine lv_lload_n hx hb dX6_counts_23 rfl (lv_at hl 1 rfl) ?_
    refine lv_lload_n hx hb dX6_counts_24 rfl (lv_at hl 2 rfl) ?_
    have hm2 := zmul_s (x := xi) (y := xt) (a := 50000) (b := 1000001) (by omega) (by omega)
    refine zr_lmul hx hb dX6_counts_25 ?_
    exact W.lret hx hb hr (fun t ht hW => ⟨_, rfl, (congrArg zL (show xi * xt = zMov A xi xt from by unfold zMov; split <;> first | rfl | omega)), ht⟩) (fun q hq => absurd hq List.not_mem_nil) dX6_counts_26
  · refine lv_lload_n hx hb dX6_counts_6 rfl (lv_at hl 1 rfl) ?_
    refine lv_lload_n hx hb dX6_counts_7 rfl (lv_at hl 2 rfl) ?_
    have hm3 := zmul_s (x := xi) (y := xt) (a := 50000) (b := 1000001) (by omega) (by omega)
    refine zr_lmul hx hb dX6_counts_8 ?_
    refine lv_aload_n hx hb dX6_counts_9 rfl (lv_at hl 0 rfl) ?_
    refine va_get (D := D) (ci := 6) (v := .ref (o 1)) (C := RX6) (T := TX6) (N := 10) hx hb hts hiX6 hown hK hP 0 rfl rfl 0 (by decide) (hts (.fieldLink RX6 7 "ChargeEstimatorModel" "all" "[J") (List.mem_of_getElem? (i := 1) rfl)) (fun _ h9 => h9) rfl dX6_counts_10 ?_
    refine zr_iconst hx hb dX6_counts_13 ?_
    refine zr_lald (D := D) (g := A) hx hb hK hP 1 2 rfl rfl (by decide) (by decide) dX6_counts_14 ?_
    have hm8 : 0 ≤ xi * xt := Int.mul_nonneg (by omega) (by omega)
    have hm9 := zmul_r (x := xi * xt) (y := A 0) (a := 50000050000) (b := 1000) (by omega) (by omega)
    refine zr_lmul hx hb dX6_counts_15 ?_
    refine zr_ldc2 (n := 1000) hx hb hown (hts (.constantLong RX6 114 (1000)) (List.mem_of_getElem? (i := 2) rfl)) rfl dX6_counts_16 ?_
    refine zr_ldiv hx hb dX6_counts_19 (by omega) (by decide) ?_
    refine lv_goto (tgt := 26) hx hb dX6_counts_20 (by decide) ?_
    exact W.lret hx hb hr (fun t ht hW => ⟨_, rfl, (congrArg zL (show ((xi * xt) * (A 0)) / 1000 = zMov A xi xt from by unfold zMov; split <;> first | rfl | omega)), ht⟩) (fun q hq => absurd hq List.not_mem_nil) dX6_counts_26
set_option maxHeartbeats 4000000 in
set_option maxRecDepth 100000 in
theorem met_X6_drift (l : Launch) (D : va_G) (cs : Nat → ClassId) (o : Nat → Nat) (A S T : Int → Int) (xsm xth xam : Int) (f : Int → Int) (xtl xpl : Int) (g : Int → Int) (xc xt : Int) (hw : zWk A) (kxc : -50000050000 ≤ xc ∧ xc ≤ 50000050000) (kxt : 0 ≤ xt ∧ xt ≤ 1000001) : Met l yX6_drift wsX6_drift ({ frames := 1, cells := 0, slots := 0, locals := 21 }) (va_Pc [.ref (o 0), .long (zL xc), .long (zL xt)] (zPre D (zTy cs) (zmod cs o A S T xsm xth xam f xtl xpl g))) (zRl (zL (zDrf A xc xt))) 0 0 (fun _ => False) := by
  refine Met.ofW (cc := cX6_drift) (maxL := 5) (ret := (some .long)) (by decide) rfl ?_
  intro p e s m args below meth c s₁ B hml hv
  obtain ⟨rfl, hP, hK, hD0, hN⟩ := hv
  have hx := B.exec
  have hb := B.bytes
  have hr := B.returns
  have hts := atoms_spec (ws := wsX6_drift) B.pre
  have hown : s.vm.findClass RX6 = some m.cls := findClass_of_methodNamed B.named
  have hlocks := B.notSynchronized
  have hD := hD0
  have hl := lv_entry ([.ref (o 0), .long (zL xc), .long (zL xt)]) (n := 5) (Nat.le_of_ble_eq_true rfl)
  rw [lg_entry_eq]
  generalize (lg_sl ([.ref (o 0), .long (zL xc), .long (zL xt)]) ++ List.replicate (5 - (lg_sl ([.ref (o 0), .long (zL xc), .long (zL xt)])).length) Slot.unset).toArray = ls at hl ⊢
  have hl : lv_has ls 5 [(0, .ref (o 0)), (1, .long (zL xc)), (3, .long (zL xt))] := hl
  have hiX6 : ∀ w ∈ wsX60, w ∈ wsX6_drift := by decide +kernel
  obtain ⟨s0, s1, s2, s3, s4, s5, s6, s7, s8, s9, s10, s11⟩ := id hw.1
  have hDr := zDrf_w hw kxc kxt
  refine lv_aload_n hx hb dX6_drift_0 rfl (lv_at hl 0 rfl) ?_
  refine va_get (D := D) (ci := 6) (v := .ref (o 1)) (C := RX6) (T := TX6) (N := 10) hx hb hts hiX6 hown hK hP 0 rfl rfl 0 (by decide) (hts (.fieldLink RX6 7 "ChargeEstimatorModel" "all" "[J") (List.mem_of_getElem? (i := 1) rfl)) (fun _ h9 => h9) rfl dX6_drift_1 ?_
  refine zr_iconst hx hb dX6_drift_4 ?_
  refine zr_lald (D := D) (g := A) hx hb hK hP 1 2 rfl rfl (by decide) (by decide) dX6_drift_5 ?_
  refine lv_lload_n hx hb dX6_drift_6 rfl (lv_at hl 2 rfl) ?_
  refine zr_lmul hx hb dX6_drift_7 ?_
  refine zr_ldc2 (n := 1000) hx hb hown (hts (.constantLong RX6 114 (1000)) (List.mem_of_getElem? (i := 2) rfl)) rfl dX6_drift_8 ?_
  refine zr_ldiv hx hb dX6_drift_11 (by omega) (by decide) ?_
  refine lv_lload_n hx hb dX6_drift_12 rfl (lv_at hl 1 rfl) ?_
  refine zc_rl (va_runS (As := [.long (zL xc)]) (rest := [.long (zL (((A 1) * xt) / 1000))]) ⟨hx, hb, hml, hown, hts⟩ (met_X6_size l xc (by first | assumption | omega)) (va_cwS 1 hts gX6_drift_X6_size rfl rfl rfl (by decide +kernel) ⟨Nat.le_of_ble_eq_true rfl, Nat.le_of_ble_eq_true rfl⟩) ⟨zTrue.blind, fun U hU hW => ⟨rfl, trivial⟩⟩ rfl rfl hl.1 rfl (lv_room (Nat.le_of_ble_eq_true rfl)) dX6_drift_13 ⟨Nat.le_of_ble_eq_true rfl, Nat.le_of_ble_eq_true rfl⟩) ?_
  refine lv_aload_n hx hb dX6_drift_16 rfl (lv_at hl 0 rfl) ?_
  refine va_get (D := D) (ci := 6) (v := .ref (o 1)) (C := RX6) (T := TX6) (N := 10) hx hb hts hiX6 hown hK hP 0 rfl rfl 0 (by decide) (hts (.fieldLink RX6 7 "ChargeEstimatorModel" "all" "[J") (List.mem_of_getElem? (i := 1) rfl)) (fun _ h9 => h9) rfl dX6_drift_17 ?_
  refine zr_iconst hx hb dX6_drift_20 ?_
  refine zr_lald (D := D) (g := A) hx hb hK hP 1 2 rfl rfl (by decide) (by decide) dX6_drift_21 ?_
  refine zr_lmul hx hb dX6_drift_22 ?_
  refine zr_ldc2 (n := 1000000) hx hb hown (hts (.constantLong RX6 153 (1000000)) (List.mem_of_getElem? (i := 3) rfl)) rfl dX6_drift_23 ?_
  refine zr_ldiv hx hb dX6_drift_26 (by omega) (by decide) ?_
  refine zr_ladd hx hb dX6_drift_27 ?_
  exact W.lret hx hb hr (fun t ht hW => ⟨_, rfl, (congrArg zL (show (((A 1) * xt) / 1000) + (((max xc (-xc)) * (A 2)) / 1000000) = zDrf A xc xt from by rfl)), ht⟩) (fun q hq => absurd hq List.not_mem_nil) dX6_drift_28
set_option maxHeartbeats 4000000 in
set_option maxRecDepth 100000 in
theorem met_X6_learns (l : Launch) (D : va_G) (cs : Nat → ClassId) (o : Nat → Nat) (sz : Nat) (A S T : Int → Int) (xsm xth xam : Int) (f : Int → Int) (xtl xpl : Int) (g : Int → Int) (n : Int) (xs : Int) (hI : zOK n A) (hn : 0 ≤ n ∧ n ≤ 3100000) (kxs : 0 ≤ xs ∧ xs ≤ 10000) : Met l yX6_learns wsX6_learns ({ frames := 2, cells := 0, slots := 0, locals := 40 }) (va_Pc [.ref (o 0), .long (zL xs)] (zPreZ D (zTy cs) (zmod cs o A S T xsm xth xam f xtl xpl g) sz)) (zQv D (zmod cs o A S T xsm xth xam f xtl xpl g) sz (zmod cs o (zLrn A xs) S T xsm xth xam f xtl xpl g)) 0 0 (va_A (zmod cs o A S T xsm xth xam f xtl xpl g) sz) := by
  refine Met.ofW (cc := cX6_learns) (maxL := 10) (ret := none) (by decide) rfl ?_
  intro p e s m args below meth c s₁ B hml hv
  obtain ⟨rfl, hsz, hP, hK, hD0, hN⟩ := hv
  have hx := B.exec
  have hb := B.bytes
  have hr := B.returns
  have hts := atoms_spec (ws := wsX6_learns) B.pre
  have hown : s.vm.findClass RX6 = some m.cls := findClass_of_methodNamed B.named
  have hlocks := B.notSynchronized
  subst hsz
  obtain ⟨A0, hAe⟩ : ∃ A0, A0 = va_A (zmod cs o A S T xsm xth xam f xtl xpl g) s.heap.size := ⟨_, rfl⟩
  have hD := hD0.self (sz := s.heap.size)
  rw [← hAe] at hD
  have hA : ∀ q : Nat, s.heap.size ≤ q → A0 q := fun q h => by rw [hAe]; exact Or.inr h
  have hS : va_S A0 s.heap s.heap [] := va_S.rf
  have hP : va_P D vwCl (zmod cs o A S T xsm xth xam f xtl xpl g) s.heap := hP
  have hl := lv_entry ([.ref (o 0), .long (zL xs)]) (n := 10) (Nat.le_of_ble_eq_true rfl)
  rw [lg_entry_eq]
  generalize (lg_sl ([.ref (o 0), .long (zL xs)]) ++ List.replicate (10 - (lg_sl ([.ref (o 0), .long (zL xs)])).length) Slot.unset).toArray = ls at hl ⊢
  have hl : lv_has ls 10 [(0, .ref (o 0)), (1, .long (zL xs))] := hl
  have hiX6 : ∀ w ∈ wsX60, w ∈ wsX6_learns := by decide +kernel
  have hR := zRng_r hI
  have hA9 := zOK_w hI
  obtain ⟨hst, hC, q35, q36⟩ := id hA9
  obtain ⟨s0, s1, s2, s3, s4, s5, s6, s7, s8, s9, s10, s11⟩ := zOK_s hI
  obtain ⟨qN, qC, qQ, qL, qH, q40, q41, q42, q43, q44, q45, q46, q47, q48, q49, q50, q51, q52, qhad, qlast, qrow⟩ := zOK_q hI
  have hsp : zSpan A xs = max (xs - A 49) (-(xs - A 49)) := rfl
  have h39 : -1000000000 ≤ A 39 ∧ A 39 ≤ 1000000000 := by omega
  refine lv_lload_n hx hb dX6_learns_0 rfl (lv_at hl 1 rfl) ?_
  refine lv_aload_n hx hb dX6_learns_1 rfl (lv_at hl 0 rfl) ?_
  refine va_get (D := D) (ci := 6) (v := .ref (o 1)) (C := RX6) (T := TX6) (N := 10) hx hb hts hiX6 hown hK hP 0 rfl rfl 0 (by decide) (hts (.fieldLink RX6 7 "ChargeEstimatorModel" "all" "[J") (List.mem_of_getElem? (i := 1) rfl)) (fun _ h9 => h9) rfl dX6_learns_2 ?_
  refine zr_bipush hx hb dX6_learns_5 (by decide) ?_
  refine zr_lald (D := D) (g := A) hx hb hK hP 1 2 rfl rfl (by decide) (by decide) dX6_learns_7 ?_
  refine zr_lsub hx hb dX6_learns_8 ?_
  refine zc_rl (va_runS (As := [.long (zL (xs - (A 49)))]) (rest := []) ⟨hx, hb, hml, hown, hts⟩ (met_X6_size l (xs - (A 49)) (by first | assumption | omega)) (va_cwS 1 hts gX6_learns_X6_size rfl rfl rfl (by decide +kernel) ⟨Nat.le_of_ble_eq_true rfl, Nat.le_of_ble_eq_true rfl⟩) ⟨zTrue.blind, fun U hU hW => ⟨rfl, trivial⟩⟩ rfl rfl hl.1 rfl (lv_room (Nat.le_of_ble_eq_true rfl)) dX6_learns_9 ⟨Nat.le_of_ble_eq_true rfl, Nat.le_of_ble_eq_true rfl⟩) ?_
  refine zr_topl (b := zSpan A xs) (by rfl) ?_
  refine lv_lstore_n (lv' := [(3, .long (zL (zSpan A xs))), (0, .ref (o 0)), (1, .long (zL xs))]) hx hb dX6_learns_12 rfl hl (by decide) rfl (fun ls hl => ?_)
  refine lv_aload_n hx hb dX6_learns_13 rfl (lv_at hl 1 rfl) ?_
  refine va_get (D := D) (ci := 6) (v := .ref (o 1)) (C := RX6) (T := TX6) (N := 10) hx hb hts hiX6 hown hK hP 0 rfl rfl 0 (by decide) (hts (.fieldLink RX6 7 "ChargeEstimatorModel" "all" "[J") (List.mem_of_getElem? (i := 1) rfl)) (fun _ h9 => h9) rfl dX6_learns_14 ?_
  refine zr_bipush hx hb dX6_learns_17 (by decide) ?_
  refine zr_lald (D := D) (g := A) hx hb hK hP 1 2 rfl rfl (by decide) (by decide) dX6_learns_19 ?_
  refine lv_lstore (lv' := [(5, .long (zL (A 40))), (3, .long (zL (zSpan A xs))), (0, .ref (o 0)), (1, .long (zL xs))]) hx hb dX6_learns_20 hl (by decide) rfl (fun ls hl => ?_)
  refine lv_aload_n hx hb dX6_learns_22 rfl (lv_at hl 2 rfl) ?_
  refine va_get (D := D) (ci := 6) (v := .ref (o 1)) (C := RX6) (T := TX6) (N := 10) hx hb hts hiX6 hown hK hP 0 rfl rfl 0 (by decide) (hts (.fieldLink RX6 7 "ChargeEstimatorModel" "all" "[J") (List.mem_of_getElem? (i := 1) rfl)) (fun _ h9 => h9) rfl dX6_learns_23 ?_
  refine zr_bipush hx hb dX6_learns_26 (by decide) ?_
  refine zr_lald (D := D) (g := A) hx hb hK hP 1 2 rfl rfl (by decide) (by decide) dX6_learns_28 ?_
  refine zr_lconst0 hx hb dX6_learns_29 ?_
  refine zr_lcmp_eq (tgt := 85) hx hb dX6_learns_30 dX6_learns_31 (by decide) (by omega) (by decide) (fun c1 => ?_) (fun c1 => ?_)
  · have hP8 : va_P D vwCl (zmod cs o (zLrn A xs) S T xsm xth xam f xtl xpl g) s.heap := by first | (rw [zLrn_t (by refine ⟨?_, ?_, ?_, ?_, ?_, ?_⟩ <;> omega)]; exact hP) | (rw [zLrn_f (by rintro ⟨l1, l2, l3, l4, l5, l6⟩; omega)]; exact hP)
    have hP9 : va_P D vwCl (zmod cs o (zLrn A xs) S T xsm xth xam f xtl xpl g) s.heap := hP8
    have hD9 : va_D A0 (zmod cs o (zLrn A xs) S T xsm xth xam f xtl xpl g) := zD_addr hD rfl
    subst hAe
    exact W.vret hx hb hr (fun t ht hW => ⟨⟨(), rfl, trivial, by rw [ht]; exact hP9, hD9⟩, hS.F ht⟩) hS.2.2 dX6_learns_85
  · refine lv_lload_n hx hb dX6_learns_34 rfl (lv_at hl 1 rfl) ?_
    refine lv_aload_n hx hb dX6_learns_35 rfl (lv_at hl 2 rfl) ?_
    refine va_get (D := D) (ci := 6) (v := .ref (o 1)) (C := RX6) (T := TX6) (N := 10) hx hb hts hiX6 hown hK hP 0 rfl rfl 0 (by decide) (hts (.fieldLink RX6 7 "ChargeEstimatorModel" "all" "[J") (List.mem_of_getElem? (i := 1) rfl)) (fun _ h9 => h9) rfl dX6_learns_36 ?_
    refine zr_bipush hx hb dX6_learns_39 (by decide) ?_
    refine zr_lald (D := D) (g := A) hx hb hK hP 1 2 rfl rfl (by decide) (by decide) dX6_learns_41 ?_
    refine zr_lcmp_lt (tgt := 85) hx hb dX6_learns_42 dX6_learns_43 (by decide) (by omega) (by omega) (fun c2 => ?_) (fun c2 => ?_)
    · have hP8 : va_P D vwCl (zmod cs o (zLrn A xs) S T xsm xth xam f xtl xpl g) s.heap := by first | (rw [zLrn_t (by refine ⟨?_, ?_, ?_, ?_, ?_, ?_⟩ <;> omega)]; exact hP) | (rw [zLrn_f (by rintro ⟨l1, l2, l3, l4, l5, l6⟩; omega)]; exact hP)
      have hP9 : va_P D vwCl (zmod cs o (zLrn A xs) S T xsm xth xam f xtl xpl g) s.heap := hP8
      have hD9 : va_D A0 (zmod cs o (zLrn A xs) S T xsm xth xam f xtl xpl g) := zD_addr hD rfl
      subst hAe
      exact W.vret hx hb hr (fun t ht hW => ⟨⟨(), rfl, trivial, by rw [ht]; exact hP9, hD9⟩, hS.F ht⟩) hS.2.2 dX6_learns_85
    · refine lv_lload hx hb dX6_learns_46 (lv_at hl 0 rfl) ?_
      refine zr_lconst0 hx hb dX6_learns_48 ?_
      refine zr_lcmp_eq (tgt := 85) hx hb dX6_learns_49 dX6_learns_50 (by decide) (by omega) (by decide) (fun c3 => ?_) (fun c3 => ?_)
      · have hP8 : va_P D vwCl (zmod cs o (zLrn A xs) S T xsm xth xam f xtl xpl g) s.heap := by first | (rw [zLrn_t (by refine ⟨?_, ?_, ?_, ?_, ?_, ?_⟩ <;> omega)]; exact hP) | (rw [zLrn_f (by rintro ⟨l1, l2, l3, l4, l5, l6⟩; omega)]; exact hP)
        have hP9 : va_P D vwCl (zmod cs o (zLrn A xs) S T xsm xth xam f xtl xpl g) s.heap := hP8
        have hD9 : va_D A0 (zmod cs o (zLrn A xs) S T xsm xth xam f xtl xpl g) := zD_addr hD rfl
        subst hAe
        exact W.vret hx hb hr (fun t ht hW => ⟨⟨(), rfl, trivial, by rw [ht]; exact hP9, hD9⟩, hS.F ht⟩) hS.2.2 dX6_learns_85
      · refine lv_lload hx hb dX6_learns_53 (lv_at hl 0 rfl) ?_
        refine zr_lconst0 hx hb dX6_learns_55 ?_
        refine zr_lcmp_le (tgt := 64) hx hb dX6_learns_56 dX6_learns_57 (by decide) (by omega) (by decide) (fun c4 => ?_) (fun c4 => ?_)
        · refine zr_iconst hx hb dX6_learns_64 ?_
          refine lv_lload_n hx hb dX6_learns_65 rfl (lv_at hl 3 rfl) ?_
          refine lv_aload_n hx hb dX6_learns_66 rfl (lv_at hl 2 rfl) ?_
          refine va_get (D := D) (ci := 6) (v := .ref (o 1)) (C := RX6) (T := TX6) (N := 10) hx hb hts hiX6 hown hK hP 0 rfl rfl 0 (by decide) (hts (.fieldLink RX6 7 "ChargeEstimatorModel" "all" "[J") (List.mem_of_getElem? (i := 1) rfl)) (fun _ h9 => h9) rfl dX6_learns_67 ?_
          refine zr_bipush hx hb dX6_learns_70 (by decide) ?_
          refine zr_lald (D := D) (g := A) hx hb hK hP 1 2 rfl rfl (by decide) (by decide) dX6_learns_72 ?_
          refine zr_lcmp_le (tgt := 81) hx hb dX6_learns_73 dX6_learns_74 (by decide) (by omega) (by omega) (fun c5 => ?_) (fun c5 => ?_)
          · refine zr_iconst hx hb dX6_learns_81 ?_
            refine zr_icmp_eq (tgt := 86) hx hb dX6_learns_82 (by decide) (by decide) (by decide) (fun c6 => ?_) (fun c6 => ?_)
            · refine lv_lload hx hb dX6_learns_86 (lv_at hl 0 rfl) ?_
              refine zc_rl (va_runS (As := [.long (zL (A 40))]) (rest := []) ⟨hx, hb, hml, hown, hts⟩ (met_X6_size l (A 40) (by first | assumption | omega)) (va_cwS 1 hts gX6_learns_X6_size rfl rfl rfl (by decide +kernel) ⟨Nat.le_of_ble_eq_true rfl, Nat.le_of_ble_eq_true rfl⟩) ⟨zTrue.blind, fun U hU hW => ⟨rfl, trivial⟩⟩ rfl rfl hl.1 rfl (lv_room (Nat.le_of_ble_eq_true rfl)) dX6_learns_88 ⟨Nat.le_of_ble_eq_true rfl, Nat.le_of_ble_eq_true rfl⟩) ?_
              refine zr_ldc2 (n := 10000) hx hb hown (hts (.constantLong RX6 93 (10000)) (List.mem_of_getElem? (i := 2) rfl)) rfl dX6_learns_91 ?_
              refine zr_lmul hx hb dX6_learns_94 ?_
              refine lv_lload_n hx hb dX6_learns_95 rfl (lv_at hl 1 rfl) ?_
              refine zr_ldiv hx hb dX6_learns_96 (by omega) (by omega) ?_
              refine zr_topl (b := zSeen A xs) (by rfl) ?_
              refine lv_lstore (lv' := [(7, .long (zL (zSeen A xs))), (5, .long (zL (A 40))), (3, .long (zL (zSpan A xs))), (0, .ref (o 0)), (1, .long (zL xs))]) hx hb dX6_learns_97 hl (by decide) rfl (fun ls hl => ?_)
              have hse : 0 ≤ zSeen A xs ∧ zSeen A xs ≤ max (A 40) (-A 40) * 10000 := ⟨Int.ediv_nonneg (by omega) (by omega), Int.ediv_le_self _ (by omega)⟩
              refine lv_lload hx hb dX6_learns_99 (lv_at hl 0 rfl) ?_
              refine lv_aload_n hx hb dX6_learns_101 rfl (lv_at hl 3 rfl) ?_
              refine va_get (D := D) (ci := 6) (v := .ref (o 1)) (C := RX6) (T := TX6) (N := 10) hx hb hts hiX6 hown hK hP 0 rfl rfl 0 (by decide) (hts (.fieldLink RX6 7 "ChargeEstimatorModel" "all" "[J") (List.mem_of_getElem? (i := 1) rfl)) (fun _ h9 => h9) rfl dX6_learns_102 ?_
              refine zr_bipush hx hb dX6_learns_105 (by decide) ?_
              refine zr_lald (D := D) (g := A) hx hb hK hP 1 2 rfl rfl (by decide) (by decide) dX6_learns_107 ?_
              refine zr_ldc2 (n := 2) hx hb hown (hts (.constantLong RX6 36 (2)) (List.mem_of_getElem? (i := 3) rfl)) rfl dX6_learns_108 ?_
              refine zr_ldiv hx hb dX6_learns_111 (by omega) (by decide) ?_
              refine lv_aload_n hx hb dX6_learns_112 rfl (lv_at hl 3 rfl) ?_
              refine va_get (D := D) (ci := 6) (v := .ref (o 1)) (C := RX6) (T := TX6) (N := 10) hx hb hts hiX6 hown hK hP 0 rfl rfl 0 (by decide) (hts (.fieldLink RX6 7 "ChargeEstimatorModel" "all" "[J") (List.mem_of_getElem? (i := 1) rfl)) (fun _ h9 => h9) rfl dX6_learns_113 ?_
              refine zr_bipush hx hb dX6_learns_116 (by decide) ?_
              refine zr_lald (D := D) (g := A) hx hb hK hP 1 2 rfl rfl (by decide) (by decide) dX6_learns_118 ?_
              refine zr_ldc2 (n := 3) hx hb hown (hts (.constantLong RX6 155 (3)) (List.mem_of_getElem? (i := 4) rfl)) rfl dX6_learns_119 ?_
              refine zr_lmul hx hb dX6_learns_122 ?_
              refine zr_ldc2 (n := 2) hx hb hown (hts (.constantLong RX6 36 (2)) (List.mem_of_getElem? (i := 3) rfl)) rfl dX6_learns_123 ?_
              refine zr_ldiv hx hb dX6_learns_126 (by omega) (by decide) ?_
              refine zc_ri (va_runS (As := [.long (zL (zSeen A xs)), .long (zL ((A 38) / 2)), .long (zL (((A 38) * 3) / 2))]) (rest := []) ⟨hx, hb, hml, hown, hts⟩ (met_X6_in l (zSeen A xs) ((A 38) / 2) (((A 38) * 3) / 2) (by first | assumption | omega) (by first | assumption | omega) (by first | assumption | omega)) (va_cwS 3 hts gX6_learns_X6_in rfl rfl rfl (by decide +kernel) ⟨Nat.le_of_ble_eq_true rfl, Nat.le_of_ble_eq_true rfl⟩) ⟨zTrue.blind, fun U hU hW => ⟨rfl, trivial⟩⟩ rfl rfl hl.1 rfl (lv_room (Nat.le_of_ble_eq_true rfl)) dX6_learns_127 ⟨Nat.le_of_ble_eq_true rfl, Nat.le_of_ble_eq_true rfl⟩) ?_
              refine zr_ifb_eq (tgt := 233) hx hb dX6_learns_130 (by decide) (fun c7 => ?_) (fun c7 => ?_)
              · have hP8 : va_P D vwCl (zmod cs o (zLrn A xs) S T xsm xth xam f xtl xpl g) s.heap := by first | (rw [zLrn_t (by refine ⟨?_, ?_, ?_, ?_, ?_, ?_⟩ <;> omega)]; exact hP) | (rw [zLrn_f (by rintro ⟨l1, l2, l3, l4, l5, l6⟩; omega)]; exact hP)
                have hP9 : va_P D vwCl (zmod cs o (zLrn A xs) S T xsm xth xam f xtl xpl g) s.heap := hP8
                have hD9 : va_D A0 (zmod cs o (zLrn A xs) S T xsm xth xam f xtl xpl g) := zD_addr hD rfl
                subst hAe
                exact W.vret hx hb hr (fun t ht hW => ⟨⟨(), rfl, trivial, by rw [ht]; exact hP9, hD9⟩, hS.F ht⟩) hS.2.2 dX6_learns_233
              · have hcp := zCap_r hI (s := xs) (by omega)
                have hcm := zmul_r (x := zCap A xs) (y := A 3) (a := 108000000) (b := 50) (by omega) (by omega)
                refine lv_aload_n hx hb dX6_learns_133 rfl (lv_at hl 3 rfl) ?_
                refine va_get (D := D) (ci := 6) (v := .ref (o 1)) (C := RX6) (T := TX6) (N := 10) hx hb hts hiX6 hown hK hP 0 rfl rfl 0 (by decide) (hts (.fieldLink RX6 7 "ChargeEstimatorModel" "all" "[J") (List.mem_of_getElem? (i := 1) rfl)) (fun _ h9 => h9) rfl dX6_learns_134 ?_
                refine zr_bipush hx hb dX6_learns_137 (by decide) ?_
                refine lv_dup2_11 hx hb dX6_learns_139 rfl rfl ?_
                refine zr_lald (D := D) (g := A) hx hb hK hP 1 2 rfl rfl (by decide) (by decide) dX6_learns_140 ?_
                refine lv_lload hx hb dX6_learns_141 (lv_at hl 0 rfl) ?_
                refine lv_aload_n hx hb dX6_learns_143 rfl (lv_at hl 3 rfl) ?_
                refine va_get (D := D) (ci := 6) (v := .ref (o 1)) (C := RX6) (T := TX6) (N := 10) hx hb hts hiX6 hown hK hP 0 rfl rfl 0 (by decide) (hts (.fieldLink RX6 7 "ChargeEstimatorModel" "all" "[J") (List.mem_of_getElem? (i := 1) rfl)) (fun _ h9 => h9) rfl dX6_learns_144 ?_
                refine zr_bipush hx hb dX6_learns_147 (by decide) ?_
                refine zr_lald (D := D) (g := A) hx hb hK hP 1 2 rfl rfl (by decide) (by decide) dX6_learns_149 ?_
                refine zr_lsub hx hb dX6_learns_150 ?_
                refine zr_ldc2 (n := 4) hx hb hown (hts (.constantLong RX6 157 (4)) (List.mem_of_getElem? (i := 5) rfl)) rfl dX6_learns_151 ?_
                refine zc_rl (va_runS (As := [.long (zL ((zSeen A xs) - (A 37))), .long (zL 4)]) (rest := [.long (zL (A 37)), .int (zI 37), .ref (o 1)]) ⟨hx, hb, hml, hown, hts⟩ (met_X6_floor l ((zSeen A xs) - (A 37)) 4 (by first | assumption | omega) (by first | assumption | omega)) (va_cwS 2 hts gX6_learns_X6_floor rfl rfl rfl (by decide +kernel) ⟨Nat.le_of_ble_eq_true rfl, Nat.le_of_ble_eq_true rfl⟩) ⟨zTrue.blind, fun U hU hW => ⟨rfl, trivial⟩⟩ rfl rfl hl.1 rfl (lv_room (Nat.le_of_ble_eq_true rfl)) dX6_learns_154 ⟨Nat.le_of_ble_eq_true rfl, Nat.le_of_ble_eq_true rfl⟩) ?_
                refine zr_ladd hx hb dX6_learns_157 ?_
                refine zr_topl (b := zCap A xs) (by rfl) ?_
                refine zr_last (D := D) (g := A) hx hb hK hP hD hS 1 2 rfl rfl (by decide) (by decide) dX6_learns_158 (fun H locs hP hD hS => ?_)
                have hP : va_P D vwCl (zmod cs o (zU A 37 (zCap A xs)) S T xsm xth xam f xtl xpl g) H := hP
                have hD : va_D A0 (zmod cs o (zU A 37 (zCap A xs)) S T xsm xth xam f xtl xpl g) := zD_addr hD rfl
                refine lv_aload_n hx hb dX6_learns_159 rfl (lv_at hl 3 rfl) ?_
                refine va_get (D := D) (ci := 6) (v := .ref (o 1)) (C := RX6) (T := TX6) (N := 10) hx hb hts hiX6 hown hK hP 0 rfl rfl 0 (by decide) (hts (.fieldLink RX6 7 "ChargeEstimatorModel" "all" "[J") (List.mem_of_getElem? (i := 1) rfl)) (fun _ h9 => h9) rfl dX6_learns_160 ?_
                refine zr_bipush hx hb dX6_learns_163 (by decide) ?_
                refine lv_dup2_11 hx hb dX6_learns_165 rfl rfl ?_
                refine zr_lald (D := D) (g := zU A 37 (zCap A xs)) hx hb hK hP 1 2 rfl rfl (by decide) (by decide) dX6_learns_166 ?_
                rw [show zU A 37 (zCap A xs) 51 = A 51 from by first | rfl | simp [zO, zU]]
                refine zr_lconst1 hx hb dX6_learns_167 ?_
                refine zr_ladd hx hb dX6_learns_168 ?_
                refine zr_last (D := D) (g := zU A 37 (zCap A xs)) hx hb hK hP hD hS 1 2 rfl rfl (by decide) (by decide) dX6_learns_169 (fun H locs hP hD hS => ?_)
                have hP : va_P D vwCl (zmod cs o (zU (zU A 37 (zCap A xs)) 51 ((A 51) + 1)) S T xsm xth xam f xtl xpl g) H := hP
                have hD : va_D A0 (zmod cs o (zU (zU A 37 (zCap A xs)) 51 ((A 51) + 1)) S T xsm xth xam f xtl xpl g) := zD_addr hD rfl
                refine zr_bipush hx hb dX6_learns_170 (by decide) ?_
                refine lv_istore (lv' := [(9, .int (zI 34)), (7, .long (zL (zSeen A xs))), (5, .long (zL (A 40))), (3, .long (zL (zSpan A xs))), (0, .ref (o 0)), (1, .long (zL xs))]) hx hb dX6_learns_172 hl (by decide) rfl (fun ls hl => ?_)
                refine lv_iload hx hb dX6_learns_174 (lv_at hl 0 rfl) ?_
                refine zr_bipush hx hb dX6_learns_176 (by decide) ?_
                refine zr_icmp_gt (tgt := 229) hx hb dX6_learns_178 (by decide) (by decide) (by decide) (fun c8 => ?_) (fun c8 => ?_)
                · exact absurd c8 (by decide)
                · refine lv_aload_n hx hb dX6_learns_181 rfl (lv_at hl 4 rfl) ?_
                  refine va_get (D := D) (ci := 6) (v := .ref (o 1)) (C := RX6) (T := TX6) (N := 10) hx hb hts hiX6 hown hK hP 0 rfl rfl 0 (by decide) (hts (.fieldLink RX6 7 "ChargeEstimatorModel" "all" "[J") (List.mem_of_getElem? (i := 1) rfl)) (fun _ h9 => h9) rfl dX6_learns_182 ?_
                  refine lv_iload hx hb dX6_learns_185 (lv_at hl 0 rfl) ?_
                  refine lv_aload_n hx hb dX6_learns_187 rfl (lv_at hl 4 rfl) ?_
                  refine va_get (D := D) (ci := 6) (v := .ref (o 1)) (C := RX6) (T := TX6) (N := 10) hx hb hts hiX6 hown hK hP 0 rfl rfl 0 (by decide) (hts (.fieldLink RX6 7 "ChargeEstimatorModel" "all" "[J") (List.mem_of_getElem? (i := 1) rfl)) (fun _ h9 => h9) rfl dX6_learns_188 ?_
                  refine lv_iload hx hb dX6_learns_191 (lv_at hl 0 rfl) ?_
                  refine zr_lald (D := D) (g := zU (zU A 37 (zCap A xs)) 51 ((A 51) + 1)) hx hb hK hP 1 2 rfl rfl (by decide) (by decide) dX6_learns_193 ?_
                  rw [show zU (zU A 37 (zCap A xs)) 51 ((A 51) + 1) 34 = A 34 from by first | rfl | simp [zO, zU]]
                  refine lv_aload_n hx hb dX6_learns_194 rfl (lv_at hl 4 rfl) ?_
                  refine va_get (D := D) (ci := 6) (v := .ref (o 1)) (C := RX6) (T := TX6) (N := 10) hx hb hts hiX6 hown hK hP 0 rfl rfl 0 (by decide) (hts (.fieldLink RX6 7 "ChargeEstimatorModel" "all" "[J") (List.mem_of_getElem? (i := 1) rfl)) (fun _ h9 => h9) rfl dX6_learns_195 ?_
                  refine zr_bipush hx hb dX6_learns_198 (by decide) ?_
                  refine zr_lald (D := D) (g := zU (zU A 37 (zCap A xs)) 51 ((A 51) + 1)) hx hb hK hP 1 2 rfl rfl (by decide) (by decide) dX6_learns_200 ?_
                  rw [show zU (zU A 37 (zCap A xs)) 51 ((A 51) + 1) 37 = (zCap A xs) from by first | rfl | simp [zO, zU]]
                  have K9 : ∀ vk10 : Int, vk10 = min (A 34) (zCap A xs) → W p l e (headSpec wsX6_learns ({ frames := 2, cells := 0, slots := 0, locals := 40 })).room s m ([.ref (o 0), .long (zL xs)] : List Value).toArray below meth c H locs 0 0 (MQ below (zQv D (zmod cs o A S T xsm xth xam f xtl xpl g) s.heap.size (zmod cs o (zLrn A xs) S T xsm xth xam f xtl xpl g)) ([.ref (o 0), .long (zL xs)] : List Value).toArray s 0 0 (va_A (zmod cs o A S T xsm xth xam f xtl xpl g) s.heap.size)) (F0 m 222 ls [.long (zL vk10), .int (zI 34), .ref (o 1)]) := by
                    intro vk10 hvk10
                    subst hvk10
                    refine zr_last (D := D) (g := zU (zU A 37 (zCap A xs)) 51 ((A 51) + 1)) hx hb hK hP hD hS 1 2 rfl rfl (by decide) (by decide) dX6_learns_222 (fun H locs hP hD hS => ?_)
                    have hP : va_P D vwCl (zmod cs o (zU (zU (zU A 37 (zCap A xs)) 51 ((A 51) + 1)) 34 (min (A 34) (zCap A xs))) S T xsm xth xam f xtl xpl g) H := hP
                    have hD : va_D A0 (zmod cs o (zU (zU (zU A 37 (zCap A xs)) 51 ((A 51) + 1)) 34 (min (A 34) (zCap A xs))) S T xsm xth xam f xtl xpl g) := zD_addr hD rfl
                    refine zr_iinc (kk := 0) (lv' := [(9, .int (zI 35)), (7, .long (zL (zSeen A xs))), (5, .long (zL (A 40))), (3, .long (zL (zSpan A xs))), (0, .ref (o 0)), (1, .long (zL xs))]) hx hb dX6_learns_223 hl rfl (by decide) rfl (fun ls hl => ?_)
                    refine lv_goto (tgt := 174) hx hb dX6_learns_226 (by decide) ?_
                    refine lv_iload hx hb dX6_learns_174 (lv_at hl 0 rfl) ?_
                    refine zr_bipush hx hb dX6_learns_176 (by decide) ?_
                    refine zr_icmp_gt (tgt := 229) hx hb dX6_learns_178 (by decide) (by decide) (by decide) (fun c11 => ?_) (fun c11 => ?_)
                    · exact absurd c11 (by decide)
                    · refine lv_aload_n hx hb dX6_learns_181 rfl (lv_at hl 4 rfl) ?_
                      refine va_get (D := D) (ci := 6) (v := .ref (o 1)) (C := RX6) (T := TX6) (N := 10) hx hb hts hiX6 hown hK hP 0 rfl rfl 0 (by decide) (hts (.fieldLink RX6 7 "ChargeEstimatorModel" "all" "[J") (List.mem_of_getElem? (i := 1) rfl)) (fun _ h9 => h9) rfl dX6_learns_182 ?_
                      refine lv_iload hx hb dX6_learns_185 (lv_at hl 0 rfl) ?_
                      refine lv_aload_n hx hb dX6_learns_187 rfl (lv_at hl 4 rfl) ?_
                      refine va_get (D := D) (ci := 6) (v := .ref (o 1)) (C := RX6) (T := TX6) (N := 10) hx hb hts hiX6 hown hK hP 0 rfl rfl 0 (by decide) (hts (.fieldLink RX6 7 "ChargeEstimatorModel" "all" "[J") (List.mem_of_getElem? (i := 1) rfl)) (fun _ h9 => h9) rfl dX6_learns_188 ?_
                      refine lv_iload hx hb dX6_learns_191 (lv_at hl 0 rfl) ?_
                      refine zr_lald (D := D) (g := zU (zU (zU A 37 (zCap A xs)) 51 ((A 51) + 1)) 34 (min (A 34) (zCap A xs))) hx hb hK hP 1 2 rfl rfl (by decide) (by decide) dX6_learns_193 ?_
                      rw [show zU (zU (zU A 37 (zCap A xs)) 51 ((A 51) + 1)) 34 (min (A 34) (zCap A xs)) 35 = A 35 from by first | rfl | simp [zO, zU]]
                      refine lv_aload_n hx hb dX6_learns_194 rfl (lv_at hl 4 rfl) ?_
                      refine va_get (D := D) (ci := 6) (v := .ref (o 1)) (C := RX6) (T := TX6) (N := 10) hx hb hts hiX6 hown hK hP 0 rfl rfl 0 (by decide) (hts (.fieldLink RX6 7 "ChargeEstimatorModel" "all" "[J") (List.mem_of_getElem? (i := 1) rfl)) (fun _ h9 => h9) rfl dX6_learns_195 ?_
                      refine zr_bipush hx hb dX6_learns_198 (by decide) ?_
                      refine zr_lald (D := D) (g := zU (zU (zU A 37 (zCap A xs)) 51 ((A 51) + 1)) 34 (min (A 34) (zCap A xs))) hx hb hK hP 1 2 rfl rfl (by decide) (by decide) dX6_learns_200 ?_
                      rw [show zU (zU (zU A 37 (zCap A xs)) 51 ((A 51) + 1)) 34 (min (A 34) (zCap A xs)) 37 = (zCap A xs) from by first | rfl | simp [zO, zU]]
                      have K12 : ∀ vk13 : Int, vk13 = min (A 35) (zCap A xs) → W p l e (headSpec wsX6_learns ({ frames := 2, cells := 0, slots := 0, locals := 40 })).room s m ([.ref (o 0), .long (zL xs)] : List Value).toArray below meth c H locs 0 0 (MQ below (zQv D (zmod cs o A S T xsm xth xam f xtl xpl g) s.heap.size (zmod cs o (zLrn A xs) S T xsm xth xam f xtl xpl g)) ([.ref (o 0), .long (zL xs)] : List Value).toArray s 0 0 (va_A (zmod cs o A S T xsm xth xam f xtl xpl g) s.heap.size)) (F0 m 222 ls [.long (zL vk13), .int (zI 35), .ref (o 1)]) := by
                        intro vk13 hvk13
                        subst hvk13
                        refine zr_last (D := D) (g := zU (zU (zU A 37 (zCap A xs)) 51 ((A 51) + 1)) 34 (min (A 34) (zCap A xs))) hx hb hK hP hD hS 1 2 rfl rfl (by decide) (by decide) dX6_learns_222 (fun H locs hP hD hS => ?_)
                        have hP : va_P D vwCl (zmod cs o (zU (zU (zU (zU A 37 (zCap A xs)) 51 ((A 51) + 1)) 34 (min (A 34) (zCap A xs))) 35 (min (A 35) (zCap A xs))) S T xsm xth xam f xtl xpl g) H := hP
                        have hD : va_D A0 (zmod cs o (zU (zU (zU (zU A 37 (zCap A xs)) 51 ((A 51) + 1)) 34 (min (A 34) (zCap A xs))) 35 (min (A 35) (zCap A xs))) S T xsm xth xam f xtl xpl g) := zD_addr hD rfl
                        refine zr_iinc (kk := 0) (lv' := [(9, .int (zI 36)), (7, .long (zL (zSeen A xs))), (5, .long (zL (A 40))), (3, .long (zL (zSpan A xs))), (0, .ref (o 0)), (1, .long (zL xs))]) hx hb dX6_learns_223 hl rfl (by decide) rfl (fun ls hl => ?_)
                        refine lv_goto (tgt := 174) hx hb dX6_learns_226 (by decide) ?_
                        refine lv_iload hx hb dX6_learns_174 (lv_at hl 0 rfl) ?_
                        refine zr_bipush hx hb dX6_learns_176 (by decide) ?_
                        refine zr_icmp_gt (tgt := 229) hx hb dX6_learns_178 (by decide) (by decide) (by decide) (fun c14 => ?_) (fun c14 => ?_)
                        · exact absurd c14 (by decide)
                        · refine lv_aload_n hx hb dX6_learns_181 rfl (lv_at hl 4 rfl) ?_
                          refine va_get (D := D) (ci := 6) (v := .ref (o 1)) (C := RX6) (T := TX6) (N := 10) hx hb hts hiX6 hown hK hP 0 rfl rfl 0 (by decide) (hts (.fieldLink RX6 7 "ChargeEstimatorModel" "all" "[J") (List.mem_of_getElem? (i := 1) rfl)) (fun _ h9 => h9) rfl dX6_learns_182 ?_
                          refine lv_iload hx hb dX6_learns_185 (lv_at hl 0 rfl) ?_
                          refine lv_aload_n hx hb dX6_learns_187 rfl (lv_at hl 4 rfl) ?_
                          refine va_get (D := D) (ci := 6) (v := .ref (o 1)) (C := RX6) (T := TX6) (N := 10) hx hb hts hiX6 hown hK hP 0 rfl rfl 0 (by decide) (hts (.fieldLink RX6 7 "ChargeEstimatorModel" "all" "[J") (List.mem_of_getElem? (i := 1) rfl)) (fun _ h9 => h9) rfl dX6_learns_188 ?_
                          refine lv_iload hx hb dX6_learns_191 (lv_at hl 0 rfl) ?_
                          refine zr_lald (D := D) (g := zU (zU (zU (zU A 37 (zCap A xs)) 51 ((A 51) + 1)) 34 (min (A 34) (zCap A xs))) 35 (min (A 35) (zCap A xs))) hx hb hK hP 1 2 rfl rfl (by decide) (by decide) dX6_learns_193 ?_
                          rw [show zU (zU (zU (zU A 37 (zCap A xs)) 51 ((A 51) + 1)) 34 (min (A 34) (zCap A xs))) 35 (min (A 35) (zCap A xs)) 36 = A 36 from by first | rfl | simp [zO, zU]]
                          refine lv_aload_n hx hb dX6_learns_194 rfl (lv_at hl 4 rfl) ?_
                          refine va_get (D := D) (ci := 6) (v := .ref (o 1)) (C := RX6) (T := TX6) (N := 10) hx hb hts hiX6 hown hK hP 0 rfl rfl 0 (by decide) (hts (.fieldLink RX6 7 "ChargeEstimatorModel" "all" "[J") (List.mem_of_getElem? (i := 1) rfl)) (fun _ h9 => h9) rfl dX6_learns_195 ?_
                          refine zr_bipush hx hb dX6_learns_198 (by decide) ?_
                          refine zr_lald (D := D) (g := zU (zU (zU (zU A 37 (zCap A xs)) 51 ((A 51) + 1)) 34 (min (A 34) (zCap A xs))) 35 (min (A 35) (zCap A xs))) hx hb hK hP 1 2 rfl rfl (by decide) (by decide) dX6_learns_200 ?_
                          rw [show zU (zU (zU (zU A 37 (zCap A xs)) 51 ((A 51) + 1)) 34 (min (A 34) (zCap A xs))) 35 (min (A 35) (zCap A xs)) 37 = (zCap A xs) from by first | rfl | simp [zO, zU]]
                          have K15 : ∀ vk16 : Int, vk16 = min (A 36) (zCap A xs) → W p l e (headSpec wsX6_learns ({ frames := 2, cells := 0, slots := 0, locals := 40 })).room s m ([.ref (o 0), .long (zL xs)] : List Value).toArray below meth c H locs 0 0 (MQ below (zQv D (zmod cs o A S T xsm xth xam f xtl xpl g) s.heap.size (zmod cs o (zLrn A xs) S T xsm xth xam f xtl xpl g)) ([.ref (o 0), .long (zL xs)] : List Value).toArray s 0 0 (va_A (zmod cs o A S T xsm xth xam f xtl xpl g) s.heap.size)) (F0 m 222 ls [.long (zL vk16), .int (zI 36), .ref (o 1)]) := by
                            intro vk16 hvk16
                            subst hvk16
                            refine zr_last (D := D) (g := zU (zU (zU (zU A 37 (zCap A xs)) 51 ((A 51) + 1)) 34 (min (A 34) (zCap A xs))) 35 (min (A 35) (zCap A xs))) hx hb hK hP hD hS 1 2 rfl rfl (by decide) (by decide) dX6_learns_222 (fun H locs hP hD hS => ?_)
                            have hP : va_P D vwCl (zmod cs o (zU (zU (zU (zU (zU A 37 (zCap A xs)) 51 ((A 51) + 1)) 34 (min (A 34) (zCap A xs))) 35 (min (A 35) (zCap A xs))) 36 (min (A 36) (zCap A xs))) S T xsm xth xam f xtl xpl g) H := hP
                            have hD : va_D A0 (zmod cs o (zU (zU (zU (zU (zU A 37 (zCap A xs)) 51 ((A 51) + 1)) 34 (min (A 34) (zCap A xs))) 35 (min (A 35) (zCap A xs))) 36 (min (A 36) (zCap A xs))) S T xsm xth xam f xtl xpl g) := zD_addr hD rfl
                            refine zr_iinc (kk := 0) (lv' := [(9, .int (zI 37)), (7, .long (zL (zSeen A xs))), (5, .long (zL (A 40))), (3, .long (zL (zSpan A xs))), (0, .ref (o 0)), (1, .long (zL xs))]) hx hb dX6_learns_223 hl rfl (by decide) rfl (fun ls hl => ?_)
                            refine lv_goto (tgt := 174) hx hb dX6_learns_226 (by decide) ?_
                            refine lv_iload hx hb dX6_learns_174 (lv_at hl 0 rfl) ?_
                            refine zr_bipush hx hb dX6_learns_176 (by decide) ?_
                            refine zr_icmp_gt (tgt := 229) hx hb dX6_learns_178 (by decide) (by decide) (by decide) (fun c17 => ?_) (fun c17 => ?_)
                            · refine lv_aload_n hx hb dX6_learns_229 rfl (lv_at hl 4 rfl) ?_
                              have hwx : zWk (zLrn1 A xs) := ⟨hst, by rw [zLrn1_37]; omega, by rw [zLrn1_35, zLrn1_37]; omega, by rw [zLrn1_36, zLrn1_37]; omega⟩
                              refine zc_v (va_runV (As := []) (rest := []) ⟨hx, hb, hml, hown, hts⟩ (met_X6_lowersHysteresis l D cs o H.size (zU (zU (zU (zU (zU A 37 (zCap A xs)) 51 ((A 51) + 1)) 34 (min (A 34) (zCap A xs))) 35 (min (A 35) (zCap A xs))) 36 (min (A 36) (zCap A xs))) S T xsm xth xam f xtl xpl g (by exact hwx) (by exact h39)) (cwV 0 hts gX6_learns_X6_lowersHysteresis rfl rfl rfl (by decide +kernel) ⟨Nat.le_of_ble_eq_true rfl, Nat.le_of_ble_eq_true rfl⟩) ⟨zPreZ.blind, va_recv hK hP (ci := 6) (q0 := 0) rfl rfl, fun U hU hW => zp_Z hP hK hD hN hU hW⟩ rfl rfl hl.1 rfl (lv_room (Nat.le_of_ble_eq_true rfl)) dX6_learns_230 ⟨Nat.le_of_ble_eq_true rfl, Nat.le_of_ble_eq_true rfl⟩) hS hD hA (fun H locs hP hD hS => ?_)
                              have hP8 : va_P D vwCl (zmod cs o (zLrn A xs) S T xsm xth xam f xtl xpl g) H := by first | (rw [zLrn_t (by refine ⟨?_, ?_, ?_, ?_, ?_, ?_⟩ <;> omega)]; exact hP) | (rw [zLrn_f (by rintro ⟨l1, l2, l3, l4, l5, l6⟩; omega)]; exact hP)
                              have hP9 : va_P D vwCl (zmod cs o (zLrn A xs) S T xsm xth xam f xtl xpl g) H := hP8
                              have hD9 : va_D A0 (zmod cs o (zLrn A xs) S T xsm xth xam f xtl xpl g) := zD_addr hD rfl
                              subst hAe
                              exact W.vret hx hb hr (fun t ht hW => ⟨⟨(), rfl, trivial, by rw [ht]; exact hP9, hD9⟩, hS.F ht⟩) hS.2.2 dX6_learns_233
                            · exact absurd c17 (by decide)
                          refine zr_lcmp_le (tgt := 215) hx hb dX6_learns_201 dX6_learns_202 (by decide) (by omega) (by omega) (fun c18 => ?_) (fun c18 => ?_)
                          · refine lv_aload_n hx hb dX6_learns_215 rfl (lv_at hl 4 rfl) ?_
                            refine va_get (D := D) (ci := 6) (v := .ref (o 1)) (C := RX6) (T := TX6) (N := 10) hx hb hts hiX6 hown hK hP 0 rfl rfl 0 (by decide) (hts (.fieldLink RX6 7 "ChargeEstimatorModel" "all" "[J") (List.mem_of_getElem? (i := 1) rfl)) (fun _ h9 => h9) rfl dX6_learns_216 ?_
                            refine lv_iload hx hb dX6_learns_219 (lv_at hl 0 rfl) ?_
                            refine zr_lald (D := D) (g := zU (zU (zU (zU A 37 (zCap A xs)) 51 ((A 51) + 1)) 34 (min (A 34) (zCap A xs))) 35 (min (A 35) (zCap A xs))) hx hb hK hP 1 2 rfl rfl (by decide) (by decide) dX6_learns_221 ?_
                            rw [show zU (zU (zU (zU A 37 (zCap A xs)) 51 ((A 51) + 1)) 34 (min (A 34) (zCap A xs))) 35 (min (A 35) (zCap A xs)) 36 = A 36 from by first | rfl | simp [zO, zU]]
                            exact K15 (A 36) (by omega)
                          · refine lv_aload_n hx hb dX6_learns_205 rfl (lv_at hl 4 rfl) ?_
                            refine va_get (D := D) (ci := 6) (v := .ref (o 1)) (C := RX6) (T := TX6) (N := 10) hx hb hts hiX6 hown hK hP 0 rfl rfl 0 (by decide) (hts (.fieldLink RX6 7 "ChargeEstimatorModel" "all" "[J") (List.mem_of_getElem? (i := 1) rfl)) (fun _ h9 => h9) rfl dX6_learns_206 ?_
                            refine zr_bipush hx hb dX6_learns_209 (by decide) ?_
                            refine zr_lald (D := D) (g := zU (zU (zU (zU A 37 (zCap A xs)) 51 ((A 51) + 1)) 34 (min (A 34) (zCap A xs))) 35 (min (A 35) (zCap A xs))) hx hb hK hP 1 2 rfl rfl (by decide) (by decide) dX6_learns_211 ?_
                            rw [show zU (zU (zU (zU A 37 (zCap A xs)) 51 ((A 51) + 1)) 34 (min (A 34) (zCap A xs))) 35 (min (A 35) (zCap A xs)) 37 = (zCap A xs) from by first | rfl | simp [zO, zU]]
                            refine lv_goto (tgt := 222) hx hb dX6_learns_212 (by decide) ?_
                            exact K15 (zCap A xs) (by omega)
                      refine zr_lcmp_le (tgt := 215) hx hb dX6_learns_201 dX6_learns_202 (by decide) (by omega) (by omega) (fun c19 => ?_) (fun c19 => ?_)
                      · refine lv_aload_n hx hb dX6_learns_215 rfl (lv_at hl 4 rfl) ?_
                        refine va_get (D := D) (ci := 6) (v := .ref (o 1)) (C := RX6) (T := TX6) (N := 10) hx hb hts hiX6 hown hK hP 0 rfl rfl 0 (by decide) (hts (.fieldLink RX6 7 "ChargeEstimatorModel" "all" "[J") (List.mem_of_getElem? (i := 1) rfl)) (fun _ h9 => h9) rfl dX6_learns_216 ?_
                        refine lv_iload hx hb dX6_learns_219 (lv_at hl 0 rfl) ?_
                        refine zr_lald (D := D) (g := zU (zU (zU A 37 (zCap A xs)) 51 ((A 51) + 1)) 34 (min (A 34) (zCap A xs))) hx hb hK hP 1 2 rfl rfl (by decide) (by decide) dX6_learns_221 ?_
                        rw [show zU (zU (zU A 37 (zCap A xs)) 51 ((A 51) + 1)) 34 (min (A 34) (zCap A xs)) 35 = A 35 from by first | rfl | simp [zO, zU]]
                        exact K12 (A 35) (by omega)
                      · refine lv_aload_n hx hb dX6_learns_205 rfl (lv_at hl 4 rfl) ?_
                        refine va_get (D := D) (ci := 6) (v := .ref (o 1)) (C := RX6) (T := TX6) (N := 10) hx hb hts hiX6 hown hK hP 0 rfl rfl 0 (by decide) (hts (.fieldLink RX6 7 "ChargeEstimatorModel" "all" "[J") (List.mem_of_getElem? (i := 1) rfl)) (fun _ h9 => h9) rfl dX6_learns_206 ?_
                        refine zr_bipush hx hb dX6_learns_209 (by decide) ?_
                        refine zr_lald (D := D) (g := zU (zU (zU A 37 (zCap A xs)) 51 ((A 51) + 1)) 34 (min (A 34) (zCap A xs))) hx hb hK hP 1 2 rfl rfl (by decide) (by decide) dX6_learns_211 ?_
                        rw [show zU (zU (zU A 37 (zCap A xs)) 51 ((A 51) + 1)) 34 (min (A 34) (zCap A xs)) 37 = (zCap A xs) from by first | rfl | simp [zO, zU]]
                        refine lv_goto (tgt := 222) hx hb dX6_learns_212 (by decide) ?_
                        exact K12 (zCap A xs) (by omega)
                  refine zr_lcmp_le (tgt := 215) hx hb dX6_learns_201 dX6_learns_202 (by decide) (by omega) (by omega) (fun c20 => ?_) (fun c20 => ?_)
                  · refine lv_aload_n hx hb dX6_learns_215 rfl (lv_at hl 4 rfl) ?_
                    refine va_get (D := D) (ci := 6) (v := .ref (o 1)) (C := RX6) (T := TX6) (N := 10) hx hb hts hiX6 hown hK hP 0 rfl rfl 0 (by decide) (hts (.fieldLink RX6 7 "ChargeEstimatorModel" "all" "[J") (List.mem_of_getElem? (i := 1) rfl)) (fun _ h9 => h9) rfl dX6_learns_216 ?_
                    refine lv_iload hx hb dX6_learns_219 (lv_at hl 0 rfl) ?_
                    refine zr_lald (D := D) (g := zU (zU A 37 (zCap A xs)) 51 ((A 51) + 1)) hx hb hK hP 1 2 rfl rfl (by decide) (by decide) dX6_learns_221 ?_
                    rw [show zU (zU A 37 (zCap A xs)) 51 ((A 51) + 1) 34 = A 34 from by first | rfl | simp [zO, zU]]
                    exact K9 (A 34) (by omega)
                  · refine lv_aload_n hx hb dX6_learns_205 rfl (lv_at hl 4 rfl) ?_
                    refine va_get (D := D) (ci := 6) (v := .ref (o 1)) (C := RX6) (T := TX6) (N := 10) hx hb hts hiX6 hown hK hP 0 rfl rfl 0 (by decide) (hts (.fieldLink RX6 7 "ChargeEstimatorModel" "all" "[J") (List.mem_of_getElem? (i := 1) rfl)) (fun _ h9 => h9) rfl dX6_learns_206 ?_
                    refine zr_bipush hx hb dX6_learns_209 (by decide) ?_
                    refine zr_lald (D := D) (g := zU (zU A 37 (zCap A xs)) 51 ((A 51) + 1)) hx hb hK hP 1 2 rfl rfl (by decide) (by decide) dX6_learns_211 ?_
                    rw [show zU (zU A 37 (zCap A xs)) 51 ((A 51) + 1) 37 = (zCap A xs) from by first | rfl | simp [zO, zU]]
                    refine lv_goto (tgt := 222) hx hb dX6_learns_212 (by decide) ?_
                    exact K9 (zCap A xs) (by omega)
            · exact absurd c6 (by decide)
          · refine zr_iconst hx hb dX6_learns_77 ?_
            refine lv_goto (tgt := 82) hx hb dX6_learns_78 (by decide) ?_
            refine zr_icmp_eq (tgt := 86) hx hb dX6_learns_82 (by decide) (by decide) (by decide) (fun c21 => ?_) (fun c21 => ?_)
            · exact absurd c21 (by decide)
            · have hP8 : va_P D vwCl (zmod cs o (zLrn A xs) S T xsm xth xam f xtl xpl g) s.heap := by first | (rw [zLrn_t (by refine ⟨?_, ?_, ?_, ?_, ?_, ?_⟩ <;> omega)]; exact hP) | (rw [zLrn_f (by rintro ⟨l1, l2, l3, l4, l5, l6⟩; omega)]; exact hP)
              have hP9 : va_P D vwCl (zmod cs o (zLrn A xs) S T xsm xth xam f xtl xpl g) s.heap := hP8
              have hD9 : va_D A0 (zmod cs o (zLrn A xs) S T xsm xth xam f xtl xpl g) := zD_addr hD rfl
              subst hAe
              exact W.vret hx hb hr (fun t ht hW => ⟨⟨(), rfl, trivial, by rw [ht]; exact hP9, hD9⟩, hS.F ht⟩) hS.2.2 dX6_learns_85
        · refine zr_iconst hx hb dX6_learns_60 ?_
          refine lv_goto (tgt := 65) hx hb dX6_learns_61 (by decide) ?_
          refine lv_lload_n hx hb dX6_learns_65 rfl (lv_at hl 3 rfl) ?_
          refine lv_aload_n hx hb dX6_learns_66 rfl (lv_at hl 2 rfl) ?_
          refine va_get (D := D) (ci := 6) (v := .ref (o 1)) (C := RX6) (T := TX6) (N := 10) hx hb hts hiX6 hown hK hP 0 rfl rfl 0 (by decide) (hts (.fieldLink RX6 7 "ChargeEstimatorModel" "all" "[J") (List.mem_of_getElem? (i := 1) rfl)) (fun _ h9 => h9) rfl dX6_learns_67 ?_
          refine zr_bipush hx hb dX6_learns_70 (by decide) ?_
          refine zr_lald (D := D) (g := A) hx hb hK hP 1 2 rfl rfl (by decide) (by decide) dX6_learns_72 ?_
          refine zr_lcmp_le (tgt := 81) hx hb dX6_learns_73 dX6_learns_74 (by decide) (by omega) (by omega) (fun c22 => ?_) (fun c22 => ?_)
          · refine zr_iconst hx hb dX6_learns_81 ?_
            refine zr_icmp_eq (tgt := 86) hx hb dX6_learns_82 (by decide) (by decide) (by decide) (fun c23 => ?_) (fun c23 => ?_)
            · exact absurd c23 (by decide)
            · have hP8 : va_P D vwCl (zmod cs o (zLrn A xs) S T xsm xth xam f xtl xpl g) s.heap := by first | (rw [zLrn_t (by refine ⟨?_, ?_, ?_, ?_, ?_, ?_⟩ <;> omega)]; exact hP) | (rw [zLrn_f (by rintro ⟨l1, l2, l3, l4, l5, l6⟩; omega)]; exact hP)
              have hP9 : va_P D vwCl (zmod cs o (zLrn A xs) S T xsm xth xam f xtl xpl g) s.heap := hP8
              have hD9 : va_D A0 (zmod cs o (zLrn A xs) S T xsm xth xam f xtl xpl g) := zD_addr hD rfl
              subst hAe
              exact W.vret hx hb hr (fun t ht hW => ⟨⟨(), rfl, trivial, by rw [ht]; exact hP9, hD9⟩, hS.F ht⟩) hS.2.2 dX6_learns_85
          · refine zr_iconst hx hb dX6_learns_77 ?_
            refine lv_goto (tgt := 82) hx hb dX6_learns_78 (by decide) ?_
            refine zr_icmp_eq (tgt := 86) hx hb dX6_learns_82 (by decide) (by decide) (by decide) (fun c24 => ?_) (fun c24 => ?_)
            · refine lv_lload hx hb dX6_learns_86 (lv_at hl 0 rfl) ?_
              refine zc_rl (va_runS (As := [.long (zL (A 40))]) (rest := []) ⟨hx, hb, hml, hown, hts⟩ (met_X6_size l (A 40) (by first | assumption | omega)) (va_cwS 1 hts gX6_learns_X6_size rfl rfl rfl (by decide +kernel) ⟨Nat.le_of_ble_eq_true rfl, Nat.le_of_ble_eq_true rfl⟩) ⟨zTrue.blind, fun U hU hW => ⟨rfl, trivial⟩⟩ rfl rfl hl.1 rfl (lv_room (Nat.le_of_ble_eq_true rfl)) dX6_learns_88 ⟨Nat.le_of_ble_eq_true rfl, Nat.le_of_ble_eq_true rfl⟩) ?_
              refine zr_ldc2 (n := 10000) hx hb hown (hts (.constantLong RX6 93 (10000)) (List.mem_of_getElem? (i := 2) rfl)) rfl dX6_learns_91 ?_
              refine zr_lmul hx hb dX6_learns_94 ?_
              refine lv_lload_n hx hb dX6_learns_95 rfl (lv_at hl 1 rfl) ?_
              refine zr_ldiv hx hb dX6_learns_96 (by omega) (by omega) ?_
              refine zr_topl (b := zSeen A xs) (by rfl) ?_
              refine lv_lstore (lv' := [(7, .long (zL (zSeen A xs))), (5, .long (zL (A 40))), (3, .long (zL (zSpan A xs))), (0, .ref (o 0)), (1, .long (zL xs))]) hx hb dX6_learns_97 hl (by decide) rfl (fun ls hl => ?_)
              have hse : 0 ≤ zSeen A xs ∧ zSeen A xs ≤ max (A 40) (-A 40) * 10000 := ⟨Int.ediv_nonneg (by omega) (by omega), Int.ediv_le_self _ (by omega)⟩
              refine lv_lload hx hb dX6_learns_99 (lv_at hl 0 rfl) ?_
              refine lv_aload_n hx hb dX6_learns_101 rfl (lv_at hl 3 rfl) ?_
              refine va_get (D := D) (ci := 6) (v := .ref (o 1)) (C := RX6) (T := TX6) (N := 10) hx hb hts hiX6 hown hK hP 0 rfl rfl 0 (by decide) (hts (.fieldLink RX6 7 "ChargeEstimatorModel" "all" "[J") (List.mem_of_getElem? (i := 1) rfl)) (fun _ h9 => h9) rfl dX6_learns_102 ?_
              refine zr_bipush hx hb dX6_learns_105 (by decide) ?_
              refine zr_lald (D := D) (g := A) hx hb hK hP 1 2 rfl rfl (by decide) (by decide) dX6_learns_107 ?_
              refine zr_ldc2 (n := 2) hx hb hown (hts (.constantLong RX6 36 (2)) (List.mem_of_getElem? (i := 3) rfl)) rfl dX6_learns_108 ?_
              refine zr_ldiv hx hb dX6_learns_111 (by omega) (by decide) ?_
              refine lv_aload_n hx hb dX6_learns_112 rfl (lv_at hl 3 rfl) ?_
              refine va_get (D := D) (ci := 6) (v := .ref (o 1)) (C := RX6) (T := TX6) (N := 10) hx hb hts hiX6 hown hK hP 0 rfl rfl 0 (by decide) (hts (.fieldLink RX6 7 "ChargeEstimatorModel" "all" "[J") (List.mem_of_getElem? (i := 1) rfl)) (fun _ h9 => h9) rfl dX6_learns_113 ?_
              refine zr_bipush hx hb dX6_learns_116 (by decide) ?_
              refine zr_lald (D := D) (g := A) hx hb hK hP 1 2 rfl rfl (by decide) (by decide) dX6_learns_118 ?_
              refine zr_ldc2 (n := 3) hx hb hown (hts (.constantLong RX6 155 (3)) (List.mem_of_getElem? (i := 4) rfl)) rfl dX6_learns_119 ?_
              refine zr_lmul hx hb dX6_learns_122 ?_
              refine zr_ldc2 (n := 2) hx hb hown (hts (.constantLong RX6 36 (2)) (List.mem_of_getElem? (i := 3) rfl)) rfl dX6_learns_123 ?_
              refine zr_ldiv hx hb dX6_learns_126 (by omega) (by decide) ?_
              refine zc_ri (va_runS (As := [.long (zL (zSeen A xs)), .long (zL ((A 38) / 2)), .long (zL (((A 38) * 3) / 2))]) (rest := []) ⟨hx, hb, hml, hown, hts⟩ (met_X6_in l (zSeen A xs) ((A 38) / 2) (((A 38) * 3) / 2) (by first | assumption | omega) (by first | assumption | omega) (by first | assumption | omega)) (va_cwS 3 hts gX6_learns_X6_in rfl rfl rfl (by decide +kernel) ⟨Nat.le_of_ble_eq_true rfl, Nat.le_of_ble_eq_true rfl⟩) ⟨zTrue.blind, fun U hU hW => ⟨rfl, trivial⟩⟩ rfl rfl hl.1 rfl (lv_room (Nat.le_of_ble_eq_true rfl)) dX6_learns_127 ⟨Nat.le_of_ble_eq_true rfl, Nat.le_of_ble_eq_true rfl⟩) ?_
              refine zr_ifb_eq (tgt := 233) hx hb dX6_learns_130 (by decide) (fun c25 => ?_) (fun c25 => ?_)
              · have hP8 : va_P D vwCl (zmod cs o (zLrn A xs) S T xsm xth xam f xtl xpl g) s.heap := by first | (rw [zLrn_t (by refine ⟨?_, ?_, ?_, ?_, ?_, ?_⟩ <;> omega)]; exact hP) | (rw [zLrn_f (by rintro ⟨l1, l2, l3, l4, l5, l6⟩; omega)]; exact hP)
                have hP9 : va_P D vwCl (zmod cs o (zLrn A xs) S T xsm xth xam f xtl xpl g) s.heap := hP8
                have hD9 : va_D A0 (zmod cs o (zLrn A xs) S T xsm xth xam f xtl xpl g) := zD_addr hD rfl
                subst hAe
                exact W.vret hx hb hr (fun t ht hW => ⟨⟨(), rfl, trivial, by rw [ht]; exact hP9, hD9⟩, hS.F ht⟩) hS.2.2 dX6_learns_233
              · have hcp := zCap_r hI (s := xs) (by omega)
                have hcm := zmul_r (x := zCap A xs) (y := A 3) (a := 108000000) (b := 50) (by omega) (by omega)
                refine lv_aload_n hx hb dX6_learns_133 rfl (lv_at hl 3 rfl) ?_
                refine va_get (D := D) (ci := 6) (v := .ref (o 1)) (C := RX6) (T := TX6) (N := 10) hx hb hts hiX6 hown hK hP 0 rfl rfl 0 (by decide) (hts (.fieldLink RX6 7 "ChargeEstimatorModel" "all" "[J") (List.mem_of_getElem? (i := 1) rfl)) (fun _ h9 => h9) rfl dX6_learns_134 ?_
                refine zr_bipush hx hb dX6_learns_137 (by decide) ?_
                refine lv_dup2_11 hx hb dX6_learns_139 rfl rfl ?_
                refine zr_lald (D := D) (g := A) hx hb hK hP 1 2 rfl rfl (by decide) (by decide) dX6_learns_140 ?_
                refine lv_lload hx hb dX6_learns_141 (lv_at hl 0 rfl) ?_
                refine lv_aload_n hx hb dX6_learns_143 rfl (lv_at hl 3 rfl) ?_
                refine va_get (D := D) (ci := 6) (v := .ref (o 1)) (C := RX6) (T := TX6) (N := 10) hx hb hts hiX6 hown hK hP 0 rfl rfl 0 (by decide) (hts (.fieldLink RX6 7 "ChargeEstimatorModel" "all" "[J") (List.mem_of_getElem? (i := 1) rfl)) (fun _ h9 => h9) rfl dX6_learns_144 ?_
                refine zr_bipush hx hb dX6_learns_147 (by decide) ?_
                refine zr_lald (D := D) (g := A) hx hb hK hP 1 2 rfl rfl (by decide) (by decide) dX6_learns_149 ?_
                refine zr_lsub hx hb dX6_learns_150 ?_
                refine zr_ldc2 (n := 4) hx hb hown (hts (.constantLong RX6 157 (4)) (List.mem_of_getElem? (i := 5) rfl)) rfl dX6_learns_151 ?_
                refine zc_rl (va_runS (As := [.long (zL ((zSeen A xs) - (A 37))), .long (zL 4)]) (rest := [.long (zL (A 37)), .int (zI 37), .ref (o 1)]) ⟨hx, hb, hml, hown, hts⟩ (met_X6_floor l ((zSeen A xs) - (A 37)) 4 (by first | assumption | omega) (by first | assumption | omega)) (va_cwS 2 hts gX6_learns_X6_floor rfl rfl rfl (by decide +kernel) ⟨Nat.le_of_ble_eq_true rfl, Nat.le_of_ble_eq_true rfl⟩) ⟨zTrue.blind, fun U hU hW => ⟨rfl, trivial⟩⟩ rfl rfl hl.1 rfl (lv_room (Nat.le_of_ble_eq_true rfl)) dX6_learns_154 ⟨Nat.le_of_ble_eq_true rfl, Nat.le_of_ble_eq_true rfl⟩) ?_
                refine zr_ladd hx hb dX6_learns_157 ?_
                refine zr_topl (b := zCap A xs) (by rfl) ?_
                refine zr_last (D := D) (g := A) hx hb hK hP hD hS 1 2 rfl rfl (by decide) (by decide) dX6_learns_158 (fun H locs hP hD hS => ?_)
                have hP : va_P D vwCl (zmod cs o (zU A 37 (zCap A xs)) S T xsm xth xam f xtl xpl g) H := hP
                have hD : va_D A0 (zmod cs o (zU A 37 (zCap A xs)) S T xsm xth xam f xtl xpl g) := zD_addr hD rfl
                refine lv_aload_n hx hb dX6_learns_159 rfl (lv_at hl 3 rfl) ?_
                refine va_get (D := D) (ci := 6) (v := .ref (o 1)) (C := RX6) (T := TX6) (N := 10) hx hb hts hiX6 hown hK hP 0 rfl rfl 0 (by decide) (hts (.fieldLink RX6 7 "ChargeEstimatorModel" "all" "[J") (List.mem_of_getElem? (i := 1) rfl)) (fun _ h9 => h9) rfl dX6_learns_160 ?_
                refine zr_bipush hx hb dX6_learns_163 (by decide) ?_
                refine lv_dup2_11 hx hb dX6_learns_165 rfl rfl ?_
                refine zr_lald (D := D) (g := zU A 37 (zCap A xs)) hx hb hK hP 1 2 rfl rfl (by decide) (by decide) dX6_learns_166 ?_
                rw [show zU A 37 (zCap A xs) 51 = A 51 from by first | rfl | simp [zO, zU]]
                refine zr_lconst1 hx hb dX6_learns_167 ?_
                refine zr_ladd hx hb dX6_learns_168 ?_
                refine zr_last (D := D) (g := zU A 37 (zCap A xs)) hx hb hK hP hD hS 1 2 rfl rfl (by decide) (by decide) dX6_learns_169 (fun H locs hP hD hS => ?_)
                have hP : va_P D vwCl (zmod cs o (zU (zU A 37 (zCap A xs)) 51 ((A 51) + 1)) S T xsm xth xam f xtl xpl g) H := hP
                have hD : va_D A0 (zmod cs o (zU (zU A 37 (zCap A xs)) 51 ((A 51) + 1)) S T xsm xth xam f xtl xpl g) := zD_addr hD rfl
                refine zr_bipush hx hb dX6_learns_170 (by decide) ?_
                refine lv_istore (lv' := [(9, .int (zI 34)), (7, .long (zL (zSeen A xs))), (5, .long (zL (A 40))), (3, .long (zL (zSpan A xs))), (0, .ref (o 0)), (1, .long (zL xs))]) hx hb dX6_learns_172 hl (by decide) rfl (fun ls hl => ?_)
                refine lv_iload hx hb dX6_learns_174 (lv_at hl 0 rfl) ?_
                refine zr_bipush hx hb dX6_learns_176 (by decide) ?_
                refine zr_icmp_gt (tgt := 229) hx hb dX6_learns_178 (by decide) (by decide) (by decide) (fun c26 => ?_) (fun c26 => ?_)
                · exact absurd c26 (by decide)
                · refine lv_aload_n hx hb dX6_learns_181 rfl (lv_at hl 4 rfl) ?_
                  refine va_get (D := D) (ci := 6) (v := .ref (o 1)) (C := RX6) (T := TX6) (N := 10) hx hb hts hiX6 hown hK hP 0 rfl rfl 0 (by decide) (hts (.fieldLink RX6 7 "ChargeEstimatorModel" "all" "[J") (List.mem_of_getElem? (i := 1) rfl)) (fun _ h9 => h9) rfl dX6_learns_182 ?_
                  refine lv_iload hx hb dX6_learns_185 (lv_at hl 0 rfl) ?_
                  refine lv_aload_n hx hb dX6_learns_187 rfl (lv_at hl 4 rfl) ?_
                  refine va_get (D := D) (ci := 6) (v := .ref (o 1)) (C := RX6) (T := TX6) (N := 10) hx hb hts hiX6 hown hK hP 0 rfl rfl 0 (by decide) (hts (.fieldLink RX6 7 "ChargeEstimatorModel" "all" "[J") (List.mem_of_getElem? (i := 1) rfl)) (fun _ h9 => h9) rfl dX6_learns_188 ?_
                  refine lv_iload hx hb dX6_learns_191 (lv_at hl 0 rfl) ?_
                  refine zr_lald (D := D) (g := zU (zU A 37 (zCap A xs)) 51 ((A 51) + 1)) hx hb hK hP 1 2 rfl rfl (by decide) (by decide) dX6_learns_193 ?_
                  rw [show zU (zU A 37 (zCap A xs)) 51 ((A 51) + 1) 34 = A 34 from by first | rfl | simp [zO, zU]]
                  refine lv_aload_n hx hb dX6_learns_194 rfl (lv_at hl 4 rfl) ?_
                  refine va_get (D := D) (ci := 6) (v := .ref (o 1)) (C := RX6) (T := TX6) (N := 10) hx hb hts hiX6 hown hK hP 0 rfl rfl 0 (by decide) (hts (.fieldLink RX6 7 "ChargeEstimatorModel" "all" "[J") (List.mem_of_getElem? (i := 1) rfl)) (fun _ h9 => h9) rfl dX6_learns_195 ?_
                  refine zr_bipush hx hb dX6_learns_198 (by decide) ?_
                  refine zr_lald (D := D) (g := zU (zU A 37 (zCap A xs)) 51 ((A 51) + 1)) hx hb hK hP 1 2 rfl rfl (by decide) (by decide) dX6_learns_200 ?_
                  rw [show zU (zU A 37 (zCap A xs)) 51 ((A 51) + 1) 37 = (zCap A xs) from by first | rfl | simp [zO, zU]]
                  have K27 : ∀ vk28 : Int, vk28 = min (A 34) (zCap A xs) → W p l e (headSpec wsX6_learns ({ frames := 2, cells := 0, slots := 0, locals := 40 })).room s m ([.ref (o 0), .long (zL xs)] : List Value).toArray below meth c H locs 0 0 (MQ below (zQv D (zmod cs o A S T xsm xth xam f xtl xpl g) s.heap.size (zmod cs o (zLrn A xs) S T xsm xth xam f xtl xpl g)) ([.ref (o 0), .long (zL xs)] : List Value).toArray s 0 0 (va_A (zmod cs o A S T xsm xth xam f xtl xpl g) s.heap.size)) (F0 m 222 ls [.long (zL vk28), .int (zI 34), .ref (o 1)]) := by
                    intro vk28 hvk28
                    subst hvk28
                    refine zr_last (D := D) (g := zU (zU A 37 (zCap A xs)) 51 ((A 51) + 1)) hx hb hK hP hD hS 1 2 rfl rfl (by decide) (by decide) dX6_learns_222 (fun H locs hP hD hS => ?_)
                    have hP : va_P D vwCl (zmod cs o (zU (zU (zU A 37 (zCap A xs)) 51 ((A 51) + 1)) 34 (min (A 34) (zCap A xs))) S T xsm xth xam f xtl xpl g) H := hP
                    have hD : va_D A0 (zmod cs o (zU (zU (zU A 37 (zCap A xs)) 51 ((A 51) + 1)) 34 (min (A 34) (zCap A xs))) S T xsm xth xam f xtl xpl g) := zD_addr hD rfl
                    refine zr_iinc (kk := 0) (lv' := [(9, .int (zI 35)), (7, .long (zL (zSeen A xs))), (5, .long (zL (A 40))), (3, .long (zL (zSpan A xs))), (0, .ref (o 0)), (1, .long (zL xs))]) hx hb dX6_learns_223 hl rfl (by decide) rfl (fun ls hl => ?_)
                    refine lv_goto (tgt := 174) hx hb dX6_learns_226 (by decide) ?_
                    refine lv_iload hx hb dX6_learns_174 (lv_at hl 0 rfl) ?_
                    refine zr_bipush hx hb dX6_learns_176 (by decide) ?_
                    refine zr_icmp_gt (tgt := 229) hx hb dX6_learns_178 (by decide) (by decide) (by decide) (fun c29 => ?_) (fun c29 => ?_)
                    · exact absurd c29 (by decide)
                    · refine lv_aload_n hx hb dX6_learns_181 rfl (lv_at hl 4 rfl) ?_
                      refine va_get (D := D) (ci := 6) (v := .ref (o 1)) (C := RX6) (T := TX6) (N := 10) hx hb hts hiX6 hown hK hP 0 rfl rfl 0 (by decide) (hts (.fieldLink RX6 7 "ChargeEstimatorModel" "all" "[J") (List.mem_of_getElem? (i := 1) rfl)) (fun _ h9 => h9) rfl dX6_learns_182 ?_
                      refine lv_iload hx hb dX6_learns_185 (lv_at hl 0 rfl) ?_
                      refine lv_aload_n hx hb dX6_learns_187 rfl (lv_at hl 4 rfl) ?_
                      refine va_get (D := D) (ci := 6) (v := .ref (o 1)) (C := RX6) (T := TX6) (N := 10) hx hb hts hiX6 hown hK hP 0 rfl rfl 0 (by decide) (hts (.fieldLink RX6 7 "ChargeEstimatorModel" "all" "[J") (List.mem_of_getElem? (i := 1) rfl)) (fun _ h9 => h9) rfl dX6_learns_188 ?_
                      refine lv_iload hx hb dX6_learns_191 (lv_at hl 0 rfl) ?_
                      refine zr_lald (D := D) (g := zU (zU (zU A 37 (zCap A xs)) 51 ((A 51) + 1)) 34 (min (A 34) (zCap A xs))) hx hb hK hP 1 2 rfl rfl (by decide) (by decide) dX6_learns_193 ?_
                      rw [show zU (zU (zU A 37 (zCap A xs)) 51 ((A 51) + 1)) 34 (min (A 34) (zCap A xs)) 35 = A 35 from by first | rfl | simp [zO, zU]]
                      refine lv_aload_n hx hb dX6_learns_194 rfl (lv_at hl 4 rfl) ?_
                      refine va_get (D := D) (ci := 6) (v := .ref (o 1)) (C := RX6) (T := TX6) (N := 10) hx hb hts hiX6 hown hK hP 0 rfl rfl 0 (by decide) (hts (.fieldLink RX6 7 "ChargeEstimatorModel" "all" "[J") (List.mem_of_getElem? (i := 1) rfl)) (fun _ h9 => h9) rfl dX6_learns_195 ?_
                      refine zr_bipush hx hb dX6_learns_198 (by decide) ?_
                      refine zr_lald (D := D) (g := zU (zU (zU A 37 (zCap A xs)) 51 ((A 51) + 1)) 34 (min (A 34) (zCap A xs))) hx hb hK hP 1 2 rfl rfl (by decide) (by decide) dX6_learns_200 ?_
                      rw [show zU (zU (zU A 37 (zCap A xs)) 51 ((A 51) + 1)) 34 (min (A 34) (zCap A xs)) 37 = (zCap A xs) from by first | rfl | simp [zO, zU]]
                      have K30 : ∀ vk31 : Int, vk31 = min (A 35) (zCap A xs) → W p l e (headSpec wsX6_learns ({ frames := 2, cells := 0, slots := 0, locals := 40 })).room s m ([.ref (o 0), .long (zL xs)] : List Value).toArray below meth c H locs 0 0 (MQ below (zQv D (zmod cs o A S T xsm xth xam f xtl xpl g) s.heap.size (zmod cs o (zLrn A xs) S T xsm xth xam f xtl xpl g)) ([.ref (o 0), .long (zL xs)] : List Value).toArray s 0 0 (va_A (zmod cs o A S T xsm xth xam f xtl xpl g) s.heap.size)) (F0 m 222 ls [.long (zL vk31), .int (zI 35), .ref (o 1)]) := by
                        intro vk31 hvk31
                        subst hvk31
                        refine zr_last (D := D) (g := zU (zU (zU A 37 (zCap A xs)) 51 ((A 51) + 1)) 34 (min (A 34) (zCap A xs))) hx hb hK hP hD hS 1 2 rfl rfl (by decide) (by decide) dX6_learns_222 (fun H locs hP hD hS => ?_)
                        have hP : va_P D vwCl (zmod cs o (zU (zU (zU (zU A 37 (zCap A xs)) 51 ((A 51) + 1)) 34 (min (A 34) (zCap A xs))) 35 (min (A 35) (zCap A xs))) S T xsm xth xam f xtl xpl g) H := hP
                        have hD : va_D A0 (zmod cs o (zU (zU (zU (zU A 37 (zCap A xs)) 51 ((A 51) + 1)) 34 (min (A 34) (zCap A xs))) 35 (min (A 35) (zCap A xs))) S T xsm xth xam f xtl xpl g) := zD_addr hD rfl
                        refine zr_iinc (kk := 0) (lv' := [(9, .int (zI 36)), (7, .long (zL (zSeen A xs))), (5, .long (zL (A 40))), (3, .long (zL (zSpan A xs))), (0, .ref (o 0)), (1, .long (zL xs))]) hx hb dX6_learns_223 hl rfl (by decide) rfl (fun ls hl => ?_)
                        refine lv_goto (tgt := 174) hx hb dX6_learns_226 (by decide) ?_
                        refine lv_iload hx hb dX6_learns_174 (lv_at hl 0 rfl) ?_
                        refine zr_bipush hx hb dX6_learns_176 (by decide) ?_
                        refine zr_icmp_gt (tgt := 229) hx hb dX6_learns_178 (by decide) (by decide) (by decide) (fun c32 => ?_) (fun c32 => ?_)
                        · exact absurd c32 (by decide)
                        · refine lv_aload_n hx hb dX6_learns_181 rfl (lv_at hl 4 rfl) ?_
                          refine va_get (D := D) (ci := 6) (v := .ref (o 1)) (C := RX6) (T := TX6) (N := 10) hx hb hts hiX6 hown hK hP 0 rfl rfl 0 (by decide) (hts (.fieldLink RX6 7 "ChargeEstimatorModel" "all" "[J") (List.mem_of_getElem? (i := 1) rfl)) (fun _ h9 => h9) rfl dX6_learns_182 ?_
                          refine lv_iload hx hb dX6_learns_185 (lv_at hl 0 rfl) ?_
                          refine lv_aload_n hx hb dX6_learns_187 rfl (lv_at hl 4 rfl) ?_
                          refine va_get (D := D) (ci := 6) (v := .ref (o 1)) (C := RX6) (T := TX6) (N := 10) hx hb hts hiX6 hown hK hP 0 rfl rfl 0 (by decide) (hts (.fieldLink RX6 7 "ChargeEstimatorModel" "all" "[J") (List.mem_of_getElem? (i := 1) rfl)) (fun _ h9 => h9) rfl dX6_learns_188 ?_
                          refine lv_iload hx hb dX6_learns_191 (lv_at hl 0 rfl) ?_
                          refine zr_lald (D := D) (g := zU (zU (zU (zU A 37 (zCap A xs)) 51 ((A 51) + 1)) 34 (min (A 34) (zCap A xs))) 35 (min (A 35) (zCap A xs))) hx hb hK hP 1 2 rfl rfl (by decide) (by decide) dX6_learns_193 ?_
                          rw [show zU (zU (zU (zU A 37 (zCap A xs)) 51 ((A 51) + 1)) 34 (min (A 34) (zCap A xs))) 35 (min (A 35) (zCap A xs)) 36 = A 36 from by first | rfl | simp [zO, zU]]
                          refine lv_aload_n hx hb dX6_learns_194 rfl (lv_at hl 4 rfl) ?_
                          refine va_get (D := D) (ci := 6) (v := .ref (o 1)) (C := RX6) (T := TX6) (N := 10) hx hb hts hiX6 hown hK hP 0 rfl rfl 0 (by decide) (hts (.fieldLink RX6 7 "ChargeEstimatorModel" "all" "[J") (List.mem_of_getElem? (i := 1) rfl)) (fun _ h9 => h9) rfl dX6_learns_195 ?_
                          refine zr_bipush hx hb dX6_learns_198 (by decide) ?_
                          refine zr_lald (D := D) (g := zU (zU (zU (zU A 37 (zCap A xs)) 51 ((A 51) + 1)) 34 (min (A 34) (zCap A xs))) 35 (min (A 35) (zCap A xs))) hx hb hK hP 1 2 rfl rfl (by decide) (by decide) dX6_learns_200 ?_
                          rw [show zU (zU (zU (zU A 37 (zCap A xs)) 51 ((A 51) + 1)) 34 (min (A 34) (zCap A xs))) 35 (min (A 35) (zCap A xs)) 37 = (zCap A xs) from by first | rfl | simp [zO, zU]]
                          have K33 : ∀ vk34 : Int, vk34 = min (A 36) (zCap A xs) → W p l e (headSpec wsX6_learns ({ frames := 2, cells := 0, slots := 0, locals := 40 })).room s m ([.ref (o 0), .long (zL xs)] : List Value).toArray below meth c H locs 0 0 (MQ below (zQv D (zmod cs o A S T xsm xth xam f xtl xpl g) s.heap.size (zmod cs o (zLrn A xs) S T xsm xth xam f xtl xpl g)) ([.ref (o 0), .long (zL xs)] : List Value).toArray s 0 0 (va_A (zmod cs o A S T xsm xth xam f xtl xpl g) s.heap.size)) (F0 m 222 ls [.long (zL vk34), .int (zI 36), .ref (o 1)]) := by
                            intro vk34 hvk34
                            subst hvk34
                            refine zr_last (D := D) (g := zU (zU (zU (zU A 37 (zCap A xs)) 51 ((A 51) + 1)) 34 (min (A 34) (zCap A xs))) 35 (min (A 35) (zCap A xs))) hx hb hK hP hD hS 1 2 rfl rfl (by decide) (by decide) dX6_learns_222 (fun H locs hP hD hS => ?_)
                            have hP : va_P D vwCl (zmod cs o (zU (zU (zU (zU (zU A 37 (zCap A xs)) 51 ((A 51) + 1)) 34 (min (A 34) (zCap A xs))) 35 (min (A 35) (zCap A xs))) 36 (min (A 36) (zCap A xs))) S T xsm xth xam f xtl xpl g) H := hP
                            have hD : va_D A0 (zmod cs o (zU (zU (zU (zU (zU A 37 (zCap A xs)) 51 ((A 51) + 1)) 34 (min (A 34) (zCap A xs))) 35 (min (A 35) (zCap A xs))) 36 (min (A 36) (zCap A xs))) S T xsm xth xam f xtl xpl g) := zD_addr hD rfl
                            refine zr_iinc (kk := 0) (lv' := [(9, .int (zI 37)), (7, .long (zL (zSeen A xs))), (5, .long (zL (A 40))), (3, .long (zL (zSpan A xs))), (0, .ref (o 0)), (1, .long (zL xs))]) hx hb dX6_learns_223 hl rfl (by decide) rfl (fun ls hl => ?_)
                            refine lv_goto (tgt := 174) hx hb dX6_learns_226 (by decide) ?_
                            refine lv_iload hx hb dX6_learns_174 (lv_at hl 0 rfl) ?_
                            refine zr_bipush hx hb dX6_learns_176 (by decide) ?_
                            refine zr_icmp_gt (tgt := 229) hx hb dX6_learns_178 (by decide) (by decide) (by decide) (fun c35 => ?_) (fun c35 => ?_)
                            · refine lv_aload_n hx hb dX6_learns_229 rfl (lv_at hl 4 rfl) ?_
                              have hwx : zWk (zLrn1 A xs) := ⟨hst, by rw [zLrn1_37]; omega, by rw [zLrn1_35, zLrn1_37]; omega, by rw [zLrn1_36, zLrn1_37]; omega⟩
                              refine zc_v (va_runV (As := []) (rest := []) ⟨hx, hb, hml, hown, hts⟩ (met_X6_lowersHysteresis l D cs o H.size (zU (zU (zU (zU (zU A 37 (zCap A xs)) 51 ((A 51) + 1)) 34 (min (A 34) (zCap A xs))) 35 (min (A 35) (zCap A xs))) 36 (min (A 36) (zCap A xs))) S T xsm xth xam f xtl xpl g (by exact hwx) (by exact h39)) (cwV 0 hts gX6_learns_X6_lowersHysteresis rfl rfl rfl (by decide +kernel) ⟨Nat.le_of_ble_eq_true rfl, Nat.le_of_ble_eq_true rfl⟩) ⟨zPreZ.blind, va_recv hK hP (ci := 6) (q0 := 0) rfl rfl, fun U hU hW => zp_Z hP hK hD hN hU hW⟩ rfl rfl hl.1 rfl (lv_room (Nat.le_of_ble_eq_true rfl)) dX6_learns_230 ⟨Nat.le_of_ble_eq_true rfl, Nat.le_of_ble_eq_true rfl⟩) hS hD hA (fun H locs hP hD hS => ?_)
                              have hP8 : va_P D vwCl (zmod cs o (zLrn A xs) S T xsm xth xam f xtl xpl g) H := by first | (rw [zLrn_t (by refine ⟨?_, ?_, ?_, ?_, ?_, ?_⟩ <;> omega)]; exact hP) | (rw [zLrn_f (by rintro ⟨l1, l2, l3, l4, l5, l6⟩; omega)]; exact hP)
                              have hP9 : va_P D vwCl (zmod cs o (zLrn A xs) S T xsm xth xam f xtl xpl g) H := hP8
                              have hD9 : va_D A0 (zmod cs o (zLrn A xs) S T xsm xth xam f xtl xpl g) := zD_addr hD rfl
                              subst hAe
                              exact W.vret hx hb hr (fun t ht hW => ⟨⟨(), rfl, trivial, by rw [ht]; exact hP9, hD9⟩, hS.F ht⟩) hS.2.2 dX6_learns_233
                            · exact absurd c35 (by decide)
                          refine zr_lcmp_le (tgt := 215) hx hb dX6_learns_201 dX6_learns_202 (by decide) (by omega) (by omega) (fun c36 => ?_) (fun c36 => ?_)
                          · refine lv_aload_n hx hb dX6_learns_215 rfl (lv_at hl 4 rfl) ?_
                            refine va_get (D := D) (ci := 6) (v := .ref (o 1)) (C := RX6) (T := TX6) (N := 10) hx hb hts hiX6 hown hK hP 0 rfl rfl 0 (by decide) (hts (.fieldLink RX6 7 "ChargeEstimatorModel" "all" "[J") (List.mem_of_getElem? (i := 1) rfl)) (fun _ h9 => h9) rfl dX6_learns_216 ?_
                            refine lv_iload hx hb dX6_learns_219 (lv_at hl 0 rfl) ?_
                            refine zr_lald (D := D) (g := zU (zU (zU (zU A 37 (zCap A xs)) 51 ((A 51) + 1)) 34 (min (A 34) (zCap A xs))) 35 (min (A 35) (zCap A xs))) hx hb hK hP 1 2 rfl rfl (by decide) (by decide) dX6_learns_221 ?_
                            rw [show zU (zU (zU (zU A 37 (zCap A xs)) 51 ((A 51) + 1)) 34 (min (A 34) (zCap A xs))) 35 (min (A 35) (zCap A xs)) 36 = A 36 from by first | rfl | simp [zO, zU]]
                            exact K33 (A 36) (by omega)
                          · refine lv_aload_n hx hb dX6_learns_205 rfl (lv_at hl 4 rfl) ?_
                            refine va_get (D := D) (ci := 6) (v := .ref (o 1)) (C := RX6) (T := TX6) (N := 10) hx hb hts hiX6 hown hK hP 0 rfl rfl 0 (by decide) (hts (.fieldLink RX6 7 "ChargeEstimatorModel" "all" "[J") (List.mem_of_getElem? (i := 1) rfl)) (fun _ h9 => h9) rfl dX6_learns_206 ?_
                            refine zr_bipush hx hb dX6_learns_209 (by decide) ?_
                            refine zr_lald (D := D) (g := zU (zU (zU (zU A 37 (zCap A xs)) 51 ((A 51) + 1)) 34 (min (A 34) (zCap A xs))) 35 (min (A 35) (zCap A xs))) hx hb hK hP 1 2 rfl rfl (by decide) (by decide) dX6_learns_211 ?_
                            rw [show zU (zU (zU (zU A 37 (zCap A xs)) 51 ((A 51) + 1)) 34 (min (A 34) (zCap A xs))) 35 (min (A 35) (zCap A xs)) 37 = (zCap A xs) from by first | rfl | simp [zO, zU]]
                            refine lv_goto (tgt := 222) hx hb dX6_learns_212 (by decide) ?_
                            exact K33 (zCap A xs) (by omega)
                      refine zr_lcmp_le (tgt := 215) hx hb dX6_learns_201 dX6_learns_202 (by decide) (by omega) (by omega) (fun c37 => ?_) (fun c37 => ?_)
                      · refine lv_aload_n hx hb dX6_learns_215 rfl (lv_at hl 4 rfl) ?_
                        refine va_get (D := D) (ci := 6) (v := .ref (o 1)) (C := RX6) (T := TX6) (N := 10) hx hb hts hiX6 hown hK hP 0 rfl rfl 0 (by decide) (hts (.fieldLink RX6 7 "ChargeEstimatorModel" "all" "[J") (List.mem_of_getElem? (i := 1) rfl)) (fun _ h9 => h9) rfl dX6_learns_216 ?_
                        refine lv_iload hx hb dX6_learns_219 (lv_at hl 0 rfl) ?_
                        refine zr_lald (D := D) (g := zU (zU (zU A 37 (zCap A xs)) 51 ((A 51) + 1)) 34 (min (A 34) (zCap A xs))) hx hb hK hP 1 2 rfl rfl (by decide) (by decide) dX6_learns_221 ?_
                        rw [show zU (zU (zU A 37 (zCap A xs)) 51 ((A 51) + 1)) 34 (min (A 34) (zCap A xs)) 35 = A 35 from by first | rfl | simp [zO, zU]]
                        exact K30 (A 35) (by omega)
                      · refine lv_aload_n hx hb dX6_learns_205 rfl (lv_at hl 4 rfl) ?_
                        refine va_get (D := D) (ci := 6) (v := .ref (o 1)) (C := RX6) (T := TX6) (N := 10) hx hb hts hiX6 hown hK hP 0 rfl rfl 0 (by decide) (hts (.fieldLink RX6 7 "ChargeEstimatorModel" "all" "[J") (List.mem_of_getElem? (i := 1) rfl)) (fun _ h9 => h9) rfl dX6_learns_206 ?_
                        refine zr_bipush hx hb dX6_learns_209 (by decide) ?_
                        refine zr_lald (D := D) (g := zU (zU (zU A 37 (zCap A xs)) 51 ((A 51) + 1)) 34 (min (A 34) (zCap A xs))) hx hb hK hP 1 2 rfl rfl (by decide) (by decide) dX6_learns_211 ?_
                        rw [show zU (zU (zU A 37 (zCap A xs)) 51 ((A 51) + 1)) 34 (min (A 34) (zCap A xs)) 37 = (zCap A xs) from by first | rfl | simp [zO, zU]]
                        refine lv_goto (tgt := 222) hx hb dX6_learns_212 (by decide) ?_
                        exact K30 (zCap A xs) (by omega)
                  refine zr_lcmp_le (tgt := 215) hx hb dX6_learns_201 dX6_learns_202 (by decide) (by omega) (by omega) (fun c38 => ?_) (fun c38 => ?_)
                  · refine lv_aload_n hx hb dX6_learns_215 rfl (lv_at hl 4 rfl) ?_
                    refine va_get (D := D) (ci := 6) (v := .ref (o 1)) (C := RX6) (T := TX6) (N := 10) hx hb hts hiX6 hown hK hP 0 rfl rfl 0 (by decide) (hts (.fieldLink RX6 7 "ChargeEstimatorModel" "all" "[J") (List.mem_of_getElem? (i := 1) rfl)) (fun _ h9 => h9) rfl dX6_learns_216 ?_
                    refine lv_iload hx hb dX6_learns_219 (lv_at hl 0 rfl) ?_
                    refine zr_lald (D := D) (g := zU (zU A 37 (zCap A xs)) 51 ((A 51) + 1)) hx hb hK hP 1 2 rfl rfl (by decide) (by decide) dX6_learns_221 ?_
                    rw [show zU (zU A 37 (zCap A xs)) 51 ((A 51) + 1) 34 = A 34 from by first | rfl | simp [zO, zU]]
                    exact K27 (A 34) (by omega)
                  · refine lv_aload_n hx hb dX6_learns_205 rfl (lv_at hl 4 rfl) ?_
                    refine va_get (D := D) (ci := 6) (v := .ref (o 1)) (C := RX6) (T := TX6) (N := 10) hx hb hts hiX6 hown hK hP 0 rfl rfl 0 (by decide) (hts (.fieldLink RX6 7 "ChargeEstimatorModel" "all" "[J") (List.mem_of_getElem? (i := 1) rfl)) (fun _ h9 => h9) rfl dX6_learns_206 ?_
                    refine zr_bipush hx hb dX6_learns_209 (by decide) ?_
                    refine zr_lald (D := D) (g := zU (zU A 37 (zCap A xs)) 51 ((A 51) + 1)) hx hb hK hP 1 2 rfl rfl (by decide) (by decide) dX6_learns_211 ?_
                    rw [show zU (zU A 37 (zCap A xs)) 51 ((A 51) + 1) 37 = (zCap A xs) from by first | rfl | simp [zO, zU]]
                    refine lv_goto (tgt := 222) hx hb dX6_learns_212 (by decide) ?_
                    exact K27 (zCap A xs) (by omega)
            · exact absurd c24 (by decide)
theorem zC_0 {f g : Int → Int} {sp dp n : Int} (h : n = 0) : zC f g sp dp n = g := by
  funext j; simp only [zC]; rw [if_neg (by omega)]
theorem zC_s {f : Int → Int} {sp dp d j : Int} (hd : 0 < d) (hs : sp = dp + d) (hj : dp ≤ j) : zU (zC f f sp dp (j - dp)) j (zC f f sp dp (j - dp) (j + d)) = zC f f sp dp (j + 1 - dp) := by
  subst hs
  funext k
  simp only [zU, zC]
  by_cases h1 : k = j
  · rw [if_pos h1, if_neg (by omega), if_pos (by omega)]; congr 1; omega
  · rw [if_neg h1]
    by_cases h2 : dp ≤ k ∧ k < dp + (j - dp)
    · rw [if_pos h2, if_pos (by omega)]
    · rw [if_neg h2, if_neg (by omega)]
theorem zC_c {f g : Int → Int} {sp dp j : Int} (hj : 0 ≤ j) : zU (zC f g sp dp j) (dp + j) (f (sp + j)) = zC f g sp dp (j + 1) := by
  funext k
  simp only [zU, zC]
  by_cases h1 : k = dp + j
  · rw [if_pos h1, if_pos (by omega)]; congr 1; omega
  · rw [if_neg h1]
    by_cases h2 : dp ≤ k ∧ k < dp + j
    · rw [if_pos h2, if_pos (by omega)]
    · rw [if_neg h2, if_neg (by omega)]
set_option maxHeartbeats 4000000 in
set_option maxRecDepth 100000 in
theorem met_X6_logs (l : Launch) (D : va_G) (cs : Nat → ClassId) (o : Nat → Nat) (sz : Nat) (A S T : Int → Int) (xsm xth xam : Int) (f : Int → Int) (xtl xpl : Int) (g : Int → Int) (xk xs : Int) (kmany : 0 ≤ A 52 ∧ A 52 ≤ 40) (kxk : 0 ≤ xk ∧ xk ≤ 2) : Met l yX6_logs wsX6_logs ({ frames := 0, cells := 0, slots := 0, locals := 0 }) (va_Pc [.ref (o 0), .int (zI xk), .long (zL xs)] (zPreZ D (zTy cs) (zmod cs o A S T xsm xth xam f xtl xpl g) sz)) (zQv D (zmod cs o A S T xsm xth xam f xtl xpl g) sz (zmod cs o (zLog A xk xs) S T xsm xth xam f xtl xpl g)) 0 0 (va_A (zmod cs o A S T xsm xth xam f xtl xpl g) sz) := by
  refine Met.ofW (cc := cX6_logs) (maxL := 5) (ret := none) (by decide) rfl ?_
  intro p e s m args below meth c s₁ B hml hv
  obtain ⟨rfl, hsz, hP, hK, hD0, hN⟩ := hv
  have hx := B.exec
  have hb := B.bytes
  have hr := B.returns
  have hts := atoms_spec (ws := wsX6_logs) B.pre
  have hown : s.vm.findClass RX6 = some m.cls := findClass_of_methodNamed B.named
  have hlocks := B.notSynchronized
  subst hsz
  obtain ⟨A0, hAe⟩ : ∃ A0, A0 = va_A (zmod cs o A S T xsm xth xam f xtl xpl g) s.heap.size := ⟨_, rfl⟩
  have hD := hD0.self (sz := s.heap.size)
  rw [← hAe] at hD
  have hA : ∀ q : Nat, s.heap.size ≤ q → A0 q := fun q h => by rw [hAe]; exact Or.inr h
  have hS : va_S A0 s.heap s.heap [] := va_S.rf
  have hP : va_P D vwCl (zmod cs o A S T xsm xth xam f xtl xpl g) s.heap := hP
  have hl := lv_entry ([.ref (o 0), .int (zI xk), .long (zL xs)]) (n := 5) (Nat.le_of_ble_eq_true rfl)
  rw [lg_entry_eq]
  generalize (lg_sl ([.ref (o 0), .int (zI xk), .long (zL xs)]) ++ List.replicate (5 - (lg_sl ([.ref (o 0), .int (zI xk), .long (zL xs)])).length) Slot.unset).toArray = ls at hl ⊢
  have hl : lv_has ls 5 [(0, .ref (o 0)), (1, .int (zI xk)), (2, .long (zL xs))] := hl
  have hiX6 : ∀ w ∈ wsX60, w ∈ wsX6_logs := by decide +kernel
  have hm := zLogS_m A kmany
  refine lv_aload_n hx hb dX6_logs_0 rfl (lv_at hl 0 rfl) ?_
  refine va_get (D := D) (ci := 6) (v := .ref (o 1)) (C := RX6) (T := TX6) (N := 10) hx hb hts hiX6 hown hK hP 0 rfl rfl 0 (by decide) (hts (.fieldLink RX6 7 "ChargeEstimatorModel" "all" "[J") (List.mem_of_getElem? (i := 1) rfl)) (fun _ h9 => h9) rfl dX6_logs_1 ?_
  refine zr_bipush hx hb dX6_logs_4 (by decide) ?_
  refine zr_lald (D := D) (g := A) hx hb hK hP 1 2 rfl rfl (by decide) (by decide) dX6_logs_6 ?_
  refine zr_ldc2 (n := 40) hx hb hown (hts (.constantLong RX6 54 (40)) (List.mem_of_getElem? (i := 2) rfl)) rfl dX6_logs_7 ?_
  refine zr_lcmp_ne (tgt := 59) hx hb dX6_logs_10 dX6_logs_11 (by decide) (by omega) (by decide) (fun c1 => ?_) (fun c1 => ?_)
  · have hP : va_P D vwCl (zmod cs o (zLogS A) S T xsm xth xam f xtl xpl g) s.heap := by first | (rw [zLogS_f (by omega)]; exact hP) | (rw [zLogS_t (by omega)]; exact hP)
    have hD : va_D A0 (zmod cs o (zLogS A) S T xsm xth xam f xtl xpl g) := zD_addr hD rfl
    refine zr_bipush hx hb dX6_logs_59 (by decide) ?_
    refine zr_iconst hx hb dX6_logs_61 ?_
    refine lv_aload_n hx hb dX6_logs_62 rfl (lv_at hl 0 rfl) ?_
    refine va_get (D := D) (ci := 6) (v := .ref (o 1)) (C := RX6) (T := TX6) (N := 10) hx hb hts hiX6 hown hK hP 0 rfl rfl 0 (by decide) (hts (.fieldLink RX6 7 "ChargeEstimatorModel" "all" "[J") (List.mem_of_getElem? (i := 1) rfl)) (fun _ h9 => h9) rfl dX6_logs_63 ?_
    refine zr_bipush hx hb dX6_logs_66 (by decide) ?_
    refine zr_lald (D := D) (g := zLogS A) hx hb hK hP 1 2 rfl rfl (by decide) (by decide) dX6_logs_68 ?_
    refine zr_l2i hx hb dX6_logs_69 ?_
    refine zr_imul hx hb dX6_logs_70 ?_
    refine zr_iadd hx hb dX6_logs_71 ?_
    refine lv_istore (lv' := [(4, .int (zI (53 + (4 * ((zLogS A) 52))))), (0, .ref (o 0)), (1, .int (zI xk)), (2, .long (zL xs))]) hx hb dX6_logs_72 hl (by decide) rfl (fun ls hl => ?_)
    refine lv_aload_n hx hb dX6_logs_74 rfl (lv_at hl 1 rfl) ?_
    refine va_get (D := D) (ci := 6) (v := .ref (o 1)) (C := RX6) (T := TX6) (N := 10) hx hb hts hiX6 hown hK hP 0 rfl rfl 0 (by decide) (hts (.fieldLink RX6 7 "ChargeEstimatorModel" "all" "[J") (List.mem_of_getElem? (i := 1) rfl)) (fun _ h9 => h9) rfl dX6_logs_75 ?_
    refine lv_iload hx hb dX6_logs_78 (lv_at hl 0 rfl) ?_
    refine lv_iload_n hx hb dX6_logs_80 rfl (lv_at hl 2 rfl) ?_
    refine zr_i2l hx hb dX6_logs_81 (by omega) ?_
    refine zr_last (D := D) (g := zLogS A) hx hb hK hP hD hS 1 2 rfl rfl (by decide) (by omega) dX6_logs_82 (fun H locs hP hD hS => ?_)
    have hP : va_P D vwCl (zmod cs o (zU (zLogS A) (53 + (4 * ((zLogS A) 52))) xk) S T xsm xth xam f xtl xpl g) H := hP
    have hD : va_D A0 (zmod cs o (zU (zLogS A) (53 + (4 * ((zLogS A) 52))) xk) S T xsm xth xam f xtl xpl g) := zD_addr hD rfl
    refine lv_aload_n hx hb dX6_logs_83 rfl (lv_at hl 1 rfl) ?_
    refine va_get (D := D) (ci := 6) (v := .ref (o 1)) (C := RX6) (T := TX6) (N := 10) hx hb hts hiX6 hown hK hP 0 rfl rfl 0 (by decide) (hts (.fieldLink RX6 7 "ChargeEstimatorModel" "all" "[J") (List.mem_of_getElem? (i := 1) rfl)) (fun _ h9 => h9) rfl dX6_logs_84 ?_
    refine lv_iload hx hb dX6_logs_87 (lv_at hl 0 rfl) ?_
    refine zr_iconst hx hb dX6_logs_89 ?_
    refine zr_iadd hx hb dX6_logs_90 ?_
    refine lv_lload_n hx hb dX6_logs_91 rfl (lv_at hl 3 rfl) ?_
    refine zr_last (D := D) (g := zU (zLogS A) (53 + (4 * ((zLogS A) 52))) xk) hx hb hK hP hD hS 1 2 rfl rfl (by decide) (by omega) dX6_logs_92 (fun H locs hP hD hS => ?_)
    have hP : va_P D vwCl (zmod cs o (zU (zU (zLogS A) (53 + (4 * ((zLogS A) 52))) xk) ((53 + (4 * ((zLogS A) 52))) + 1) xs) S T xsm xth xam f xtl xpl g) H := hP
    have hD : va_D A0 (zmod cs o (zU (zU (zLogS A) (53 + (4 * ((zLogS A) 52))) xk) ((53 + (4 * ((zLogS A) 52))) + 1) xs) S T xsm xth xam f xtl xpl g) := zD_addr hD rfl
    refine lv_aload_n hx hb dX6_logs_93 rfl (lv_at hl 1 rfl) ?_
    refine va_get (D := D) (ci := 6) (v := .ref (o 1)) (C := RX6) (T := TX6) (N := 10) hx hb hts hiX6 hown hK hP 0 rfl rfl 0 (by decide) (hts (.fieldLink RX6 7 "ChargeEstimatorModel" "all" "[J") (List.mem_of_getElem? (i := 1) rfl)) (fun _ h9 => h9) rfl dX6_logs_94 ?_
    refine lv_iload hx hb dX6_logs_97 (lv_at hl 0 rfl) ?_
    refine zr_iconst hx hb dX6_logs_99 ?_
    refine zr_iadd hx hb dX6_logs_100 ?_
    refine lv_aload_n hx hb dX6_logs_101 rfl (lv_at hl 1 rfl) ?_
    refine va_get (D := D) (ci := 6) (v := .ref (o 1)) (C := RX6) (T := TX6) (N := 10) hx hb hts hiX6 hown hK hP 0 rfl rfl 0 (by decide) (hts (.fieldLink RX6 7 "ChargeEstimatorModel" "all" "[J") (List.mem_of_getElem? (i := 1) rfl)) (fun _ h9 => h9) rfl dX6_logs_102 ?_
    refine zr_bipush hx hb dX6_logs_105 (by decide) ?_
    refine zr_lald (D := D) (g := zU (zU (zLogS A) (53 + (4 * ((zLogS A) 52))) xk) ((53 + (4 * ((zLogS A) 52))) + 1) xs) hx hb hK hP 1 2 rfl rfl (by decide) (by decide) dX6_logs_107 ?_
    refine zr_topl (b := A 42) (by rw [zU_ne _ _ (by omega), zU_ne _ _ (by omega)]; exact zLogS_lo A 42 (by decide)) ?_
    refine zr_last (D := D) (g := zU (zU (zLogS A) (53 + (4 * ((zLogS A) 52))) xk) ((53 + (4 * ((zLogS A) 52))) + 1) xs) hx hb hK hP hD hS 1 2 rfl rfl (by decide) (by omega) dX6_logs_108 (fun H locs hP hD hS => ?_)
    have hP : va_P D vwCl (zmod cs o (zU (zU (zU (zLogS A) (53 + (4 * ((zLogS A) 52))) xk) ((53 + (4 * ((zLogS A) 52))) + 1) xs) ((53 + (4 * ((zLogS A) 52))) + 2) (A 42)) S T xsm xth xam f xtl xpl g) H := hP
    have hD : va_D A0 (zmod cs o (zU (zU (zU (zLogS A) (53 + (4 * ((zLogS A) 52))) xk) ((53 + (4 * ((zLogS A) 52))) + 1) xs) ((53 + (4 * ((zLogS A) 52))) + 2) (A 42)) S T xsm xth xam f xtl xpl g) := zD_addr hD rfl
    refine lv_aload_n hx hb dX6_logs_109 rfl (lv_at hl 1 rfl) ?_
    refine va_get (D := D) (ci := 6) (v := .ref (o 1)) (C := RX6) (T := TX6) (N := 10) hx hb hts hiX6 hown hK hP 0 rfl rfl 0 (by decide) (hts (.fieldLink RX6 7 "ChargeEstimatorModel" "all" "[J") (List.mem_of_getElem? (i := 1) rfl)) (fun _ h9 => h9) rfl dX6_logs_110 ?_
    refine lv_iload hx hb dX6_logs_113 (lv_at hl 0 rfl) ?_
    refine zr_iconst hx hb dX6_logs_115 ?_
    refine zr_iadd hx hb dX6_logs_116 ?_
    refine lv_aload_n hx hb dX6_logs_117 rfl (lv_at hl 1 rfl) ?_
    refine va_get (D := D) (ci := 6) (v := .ref (o 1)) (C := RX6) (T := TX6) (N := 10) hx hb hts hiX6 hown hK hP 0 rfl rfl 0 (by decide) (hts (.fieldLink RX6 7 "ChargeEstimatorModel" "all" "[J") (List.mem_of_getElem? (i := 1) rfl)) (fun _ h9 => h9) rfl dX6_logs_118 ?_
    refine zr_bipush hx hb dX6_logs_121 (by decide) ?_
    refine zr_lald (D := D) (g := zU (zU (zU (zLogS A) (53 + (4 * ((zLogS A) 52))) xk) ((53 + (4 * ((zLogS A) 52))) + 1) xs) ((53 + (4 * ((zLogS A) 52))) + 2) (A 42)) hx hb hK hP 1 2 rfl rfl (by decide) (by decide) dX6_logs_123 ?_
    refine zr_topl (b := A 37) (by rw [zU_ne _ _ (by omega), zU_ne _ _ (by omega), zU_ne _ _ (by omega)]; exact zLogS_lo A 37 (by decide)) ?_
    refine zr_last (D := D) (g := zU (zU (zU (zLogS A) (53 + (4 * ((zLogS A) 52))) xk) ((53 + (4 * ((zLogS A) 52))) + 1) xs) ((53 + (4 * ((zLogS A) 52))) + 2) (A 42)) hx hb hK hP hD hS 1 2 rfl rfl (by decide) (by omega) dX6_logs_124 (fun H locs hP hD hS => ?_)
    have hP : va_P D vwCl (zmod cs o (zU (zU (zU (zU (zLogS A) (53 + (4 * ((zLogS A) 52))) xk) ((53 + (4 * ((zLogS A) 52))) + 1) xs) ((53 + (4 * ((zLogS A) 52))) + 2) (A 42)) ((53 + (4 * ((zLogS A) 52))) + 3) (A 37)) S T xsm xth xam f xtl xpl g) H := hP
    have hD : va_D A0 (zmod cs o (zU (zU (zU (zU (zLogS A) (53 + (4 * ((zLogS A) 52))) xk) ((53 + (4 * ((zLogS A) 52))) + 1) xs) ((53 + (4 * ((zLogS A) 52))) + 2) (A 42)) ((53 + (4 * ((zLogS A) 52))) + 3) (A 37)) S T xsm xth xam f xtl xpl g) := zD_addr hD rfl
    refine lv_aload_n hx hb dX6_logs_125 rfl (lv_at hl 1 rfl) ?_
    refine va_get (D := D) (ci := 6) (v := .ref (o 1)) (C := RX6) (T := TX6) (N := 10) hx hb hts hiX6 hown hK hP 0 rfl rfl 0 (by decide) (hts (.fieldLink RX6 7 "ChargeEstimatorModel" "all" "[J") (List.mem_of_getElem? (i := 1) rfl)) (fun _ h9 => h9) rfl dX6_logs_126 ?_
    refine zr_bipush hx hb dX6_logs_129 (by decide) ?_
    refine lv_dup2_11 hx hb dX6_logs_131 rfl rfl ?_
    refine zr_lald (D := D) (g := zU (zU (zU (zU (zLogS A) (53 + (4 * ((zLogS A) 52))) xk) ((53 + (4 * ((zLogS A) 52))) + 1) xs) ((53 + (4 * ((zLogS A) 52))) + 2) (A 42)) ((53 + (4 * ((zLogS A) 52))) + 3) (A 37)) hx hb hK hP 1 2 rfl rfl (by decide) (by decide) dX6_logs_132 ?_
    refine zr_lconst1 hx hb dX6_logs_133 ?_
    refine zr_ladd hx hb dX6_logs_134 ?_
    refine zr_topl (b := zLogS A 52 + 1) (by rw [zU_ne _ _ (by omega), zU_ne _ _ (by omega), zU_ne _ _ (by omega), zU_ne _ _ (by omega)]) ?_
    refine zr_last (D := D) (g := zU (zU (zU (zU (zLogS A) (53 + (4 * ((zLogS A) 52))) xk) ((53 + (4 * ((zLogS A) 52))) + 1) xs) ((53 + (4 * ((zLogS A) 52))) + 2) (A 42)) ((53 + (4 * ((zLogS A) 52))) + 3) (A 37)) hx hb hK hP hD hS 1 2 rfl rfl (by decide) (by decide) dX6_logs_135 (fun H locs hP hD hS => ?_)
    have hP : va_P D vwCl (zmod cs o (zU (zU (zU (zU (zU (zLogS A) (53 + (4 * ((zLogS A) 52))) xk) ((53 + (4 * ((zLogS A) 52))) + 1) xs) ((53 + (4 * ((zLogS A) 52))) + 2) (A 42)) ((53 + (4 * ((zLogS A) 52))) + 3) (A 37)) 52 (zLogS A 52 + 1)) S T xsm xth xam f xtl xpl g) H := hP
    have hD : va_D A0 (zmod cs o (zU (zU (zU (zU (zU (zLogS A) (53 + (4 * ((zLogS A) 52))) xk) ((53 + (4 * ((zLogS A) 52))) + 1) xs) ((53 + (4 * ((zLogS A) 52))) + 2) (A 42)) ((53 + (4 * ((zLogS A) 52))) + 3) (A 37)) 52 (zLogS A 52 + 1)) S T xsm xth xam f xtl xpl g) := zD_addr hD rfl
    have hP9 : va_P D vwCl (zmod cs o (zLog A xk xs) S T xsm xth xam f xtl xpl g) H := hP
    have hD9 : va_D A0 (zmod cs o (zLog A xk xs) S T xsm xth xam f xtl xpl g) := zD_addr hD rfl
    subst hAe
    exact W.vret hx hb hr (fun t ht hW => ⟨⟨(), rfl, trivial, by rw [ht]; exact hP9, hD9⟩, hS.F ht⟩) hS.2.2 dX6_logs_136
  · refine zr_bipush hx hb dX6_logs_14 (by decide) ?_
    refine lv_istore (lv' := [(4, .int (zI 53)), (0, .ref (o 0)), (1, .int (zI xk)), (2, .long (zL xs))]) hx hb dX6_logs_16 hl (by decide) rfl (fun ls hl => ?_)
    suffices J_18 : ∀ (nn : Nat) (xj : Int) (jj : 53 ≤ xj ∧ xj ≤ 209) (hmu : 209 - xj < (nn : Int)) (H : Heap) (locs : List Loc) (hP : va_P D vwCl (zmod cs o (zC A A 57 53 (xj - 53)) S T xsm xth xam f xtl xpl g) H) (hD : va_D A0 (zmod cs o (zC A A 57 53 (xj - 53)) S T xsm xth xam f xtl xpl g)) (hS : va_S A0 s.heap H locs) (ls : Array Slot) (hl : lv_has ls 5 [(4, .int (zI xj)), (0, .ref (o 0)), (1, .int (zI xk)), (2, .long (zL xs))]), W p l e (headSpec wsX6_logs ({ frames := 0, cells := 0, slots := 0, locals := 0 })).room s m ([.ref (o 0), .int (zI xk), .long (zL xs)] : List Value).toArray below meth c H locs 0 0 (MQ below (zQv D (zmod cs o A S T xsm xth xam f xtl xpl g) s.heap.size (zmod cs o (zLog A xk xs) S T xsm xth xam f xtl xpl g)) ([.ref (o 0), .int (zI xk), .long (zL xs)] : List Value).toArray s 0 0 (va_A (zmod cs o A S T xsm xth xam f xtl xpl g) s.heap.size)) (F0 m 18 ls []) by
      exact J_18 (((209 - 53) : Int).toNat + 1) 53 (by omega) (by have : (0 : Int) ≤ 209 - 53 := (by omega); omega) _ _ (by rw [zC_0 (by decide)]; exact hP) (zD_addr hD rfl) hS _ (lv_sub hl [0, 1, 2, 3] rfl)
    intro nn
    induction nn with
    | zero => intro xj jj hmu; exfalso; have : (0 : Int) ≤ 209 - xj := (by omega); omega
    | succ nn ih =>
      intro xj jj hmu H locs hP hD hS ls hl
      refine lv_iload hx hb dX6_logs_18 (lv_at hl 0 rfl) ?_
      refine zr_sipush hx hb dX6_logs_20 (by decide) ?_
      refine zr_icmp_ge (tgt := 48) hx hb dX6_logs_23 (by decide) (by omega) (by decide) (fun c2 => ?_) (fun c2 => ?_)
      · have hP : va_P D vwCl (zmod cs o (zC A A 57 53 156) S T xsm xth xam f xtl xpl g) H := by rw [show (156 : Int) = xj - 53 by omega]; exact hP
        have hD : va_D A0 (zmod cs o (zC A A 57 53 156) S T xsm xth xam f xtl xpl g) := zD_addr hD rfl
        refine lv_aload_n hx hb dX6_logs_48 rfl (lv_at hl 1 rfl) ?_
        refine va_get (D := D) (ci := 6) (v := .ref (o 1)) (C := RX6) (T := TX6) (N := 10) hx hb hts hiX6 hown hK hP 0 rfl rfl 0 (by decide) (hts (.fieldLink RX6 7 "ChargeEstimatorModel" "all" "[J") (List.mem_of_getElem? (i := 1) rfl)) (fun _ h9 => h9) rfl dX6_logs_49 ?_
        refine zr_bipush hx hb dX6_logs_52 (by decide) ?_
        refine lv_dup2_11 hx hb dX6_logs_54 rfl rfl ?_
        refine zr_lald (D := D) (g := zC A A 57 53 156) hx hb hK hP 1 2 rfl rfl (by decide) (by decide) dX6_logs_55 ?_
        refine zr_lconst1 hx hb dX6_logs_56 ?_
        refine zr_lsub hx hb dX6_logs_57 ?_
        refine zr_topl (b := 39) (by have : zC A A 57 53 156 52 = A 52 := rfl; omega) ?_
        refine zr_last (D := D) (g := zC A A 57 53 156) hx hb hK hP hD hS 1 2 rfl rfl (by decide) (by decide) dX6_logs_58 (fun H locs hP hD hS => ?_)
        have hP : va_P D vwCl (zmod cs o (zU (zC A A 57 53 156) 52 39) S T xsm xth xam f xtl xpl g) H := hP
        have hD : va_D A0 (zmod cs o (zU (zC A A 57 53 156) 52 39) S T xsm xth xam f xtl xpl g) := zD_addr hD rfl
        have hP : va_P D vwCl (zmod cs o (zLogS A) S T xsm xth xam f xtl xpl g) H := by first | (rw [zLogS_f (by omega)]; exact hP) | (rw [zLogS_t (by omega)]; exact hP)
        have hD : va_D A0 (zmod cs o (zLogS A) S T xsm xth xam f xtl xpl g) := zD_addr hD rfl
        refine zr_bipush hx hb dX6_logs_59 (by decide) ?_
        refine zr_iconst hx hb dX6_logs_61 ?_
        refine lv_aload_n hx hb dX6_logs_62 rfl (lv_at hl 1 rfl) ?_
        refine va_get (D := D) (ci := 6) (v := .ref (o 1)) (C := RX6) (T := TX6) (N := 10) hx hb hts hiX6 hown hK hP 0 rfl rfl 0 (by decide) (hts (.fieldLink RX6 7 "ChargeEstimatorModel" "all" "[J") (List.mem_of_getElem? (i := 1) rfl)) (fun _ h9 => h9) rfl dX6_logs_63 ?_
        refine zr_bipush hx hb dX6_logs_66 (by decide) ?_
        refine zr_lald (D := D) (g := zLogS A) hx hb hK hP 1 2 rfl rfl (by decide) (by decide) dX6_logs_68 ?_
        refine zr_l2i hx hb dX6_logs_69 ?_
        refine zr_imul hx hb dX6_logs_70 ?_
        refine zr_iadd hx hb dX6_logs_71 ?_
        refine lv_istore (lv' := [(4, .int (zI (53 + (4 * ((zLogS A) 52))))), (0, .ref (o 0)), (1, .int (zI xk)), (2, .long (zL xs))]) hx hb dX6_logs_72 hl (by decide) rfl (fun ls hl => ?_)
        refine lv_aload_n hx hb dX6_logs_74 rfl (lv_at hl 1 rfl) ?_
        refine va_get (D := D) (ci := 6) (v := .ref (o 1)) (C := RX6) (T := TX6) (N := 10) hx hb hts hiX6 hown hK hP 0 rfl rfl 0 (by decide) (hts (.fieldLink RX6 7 "ChargeEstimatorModel" "all" "[J") (List.mem_of_getElem? (i := 1) rfl)) (fun _ h9 => h9) rfl dX6_logs_75 ?_
        refine lv_iload hx hb dX6_logs_78 (lv_at hl 0 rfl) ?_
        refine lv_iload_n hx hb dX6_logs_80 rfl (lv_at hl 2 rfl) ?_
        refine zr_i2l hx hb dX6_logs_81 (by omega) ?_
        refine zr_last (D := D) (g := zLogS A) hx hb hK hP hD hS 1 2 rfl rfl (by decide) (by omega) dX6_logs_82 (fun H locs hP hD hS => ?_)
        have hP : va_P D vwCl (zmod cs o (zU (zLogS A) (53 + (4 * ((zLogS A) 52))) xk) S T xsm xth xam f xtl xpl g) H := hP
        have hD : va_D A0 (zmod cs o (zU (zLogS A) (53 + (4 * ((zLogS A) 52))) xk) S T xsm xth xam f xtl xpl g) := zD_addr hD rfl
        refine lv_aload_n hx hb dX6_logs_83 rfl (lv_at hl 1 rfl) ?_
        refine va_get (D := D) (ci := 6) (v := .ref (o 1)) (C := RX6) (T := TX6) (N := 10) hx hb hts hiX6 hown hK hP 0 rfl rfl 0 (by decide) (hts (.fieldLink RX6 7 "ChargeEstimatorModel" "all" "[J") (List.mem_of_getElem? (i := 1) rfl)) (fun _ h9 => h9) rfl dX6_logs_84 ?_
        refine lv_iload hx hb dX6_logs_87 (lv_at hl 0 rfl) ?_
        refine zr_iconst hx hb dX6_logs_89 ?_
        refine zr_iadd hx hb dX6_logs_90 ?_
        refine lv_lload_n hx hb dX6_logs_91 rfl (lv_at hl 3 rfl) ?_
        refine zr_last (D := D) (g := zU (zLogS A) (53 + (4 * ((zLogS A) 52))) xk) hx hb hK hP hD hS 1 2 rfl rfl (by decide) (by omega) dX6_logs_92 (fun H locs hP hD hS => ?_)
        have hP : va_P D vwCl (zmod cs o (zU (zU (zLogS A) (53 + (4 * ((zLogS A) 52))) xk) ((53 + (4 * ((zLogS A) 52))) + 1) xs) S T xsm xth xam f xtl xpl g) H := hP
        have hD : va_D A0 (zmod cs o (zU (zU (zLogS A) (53 + (4 * ((zLogS A) 52))) xk) ((53 + (4 * ((zLogS A) 52))) + 1) xs) S T xsm xth xam f xtl xpl g) := zD_addr hD rfl
        refine lv_aload_n hx hb dX6_logs_93 rfl (lv_at hl 1 rfl) ?_
        refine va_get (D := D) (ci := 6) (v := .ref (o 1)) (C := RX6) (T := TX6) (N := 10) hx hb hts hiX6 hown hK hP 0 rfl rfl 0 (by decide) (hts (.fieldLink RX6 7 "ChargeEstimatorModel" "all" "[J") (List.mem_of_getElem? (i := 1) rfl)) (fun _ h9 => h9) rfl dX6_logs_94 ?_
        refine lv_iload hx hb dX6_logs_97 (lv_at hl 0 rfl) ?_
        refine zr_iconst hx hb dX6_logs_99 ?_
        refine zr_iadd hx hb dX6_logs_100 ?_
        refine lv_aload_n hx hb dX6_logs_101 rfl (lv_at hl 1 rfl) ?_
        refine va_get (D := D) (ci := 6) (v := .ref (o 1)) (C := RX6) (T := TX6) (N := 10) hx hb hts hiX6 hown hK hP 0 rfl rfl 0 (by decide) (hts (.fieldLink RX6 7 "ChargeEstimatorModel" "all" "[J") (List.mem_of_getElem? (i := 1) rfl)) (fun _ h9 => h9) rfl dX6_logs_102 ?_
        refine zr_bipush hx hb dX6_logs_105 (by decide) ?_
        refine zr_lald (D := D) (g := zU (zU (zLogS A) (53 + (4 * ((zLogS A) 52))) xk) ((53 + (4 * ((zLogS A) 52))) + 1) xs) hx hb hK hP 1 2 rfl rfl (by decide) (by decide) dX6_logs_107 ?_
        refine zr_topl (b := A 42) (by rw [zU_ne _ _ (by omega), zU_ne _ _ (by omega)]; exact zLogS_lo A 42 (by decide)) ?_
        refine zr_last (D := D) (g := zU (zU (zLogS A) (53 + (4 * ((zLogS A) 52))) xk) ((53 + (4 * ((zLogS A) 52))) + 1) xs) hx hb hK hP hD hS 1 2 rfl rfl (by decide) (by omega) dX6_logs_108 (fun H locs hP hD hS => ?_)
        have hP : va_P D vwCl (zmod cs o (zU (zU (zU (zLogS A) (53 + (4 * ((zLogS A) 52))) xk) ((53 + (4 * ((zLogS A) 52))) + 1) xs) ((53 + (4 * ((zLogS A) 52))) + 2) (A 42)) S T xsm xth xam f xtl xpl g) H := hP
        have hD : va_D A0 (zmod cs o (zU (zU (zU (zLogS A) (53 + (4 * ((zLogS A) 52))) xk) ((53 + (4 * ((zLogS A) 52))) + 1) xs) ((53 + (4 * ((zLogS A) 52))) + 2) (A 42)) S T xsm xth xam f xtl xpl g) := zD_addr hD rfl
        refine lv_aload_n hx hb dX6_logs_109 rfl (lv_at hl 1 rfl) ?_
        refine va_get (D := D) (ci := 6) (v := .ref (o 1)) (C := RX6) (T := TX6) (N := 10) hx hb hts hiX6 hown hK hP 0 rfl rfl 0 (by decide) (hts (.fieldLink RX6 7 "ChargeEstimatorModel" "all" "[J") (List.mem_of_getElem? (i := 1) rfl)) (fun _ h9 => h9) rfl dX6_logs_110 ?_
        refine lv_iload hx hb dX6_logs_113 (lv_at hl 0 rfl) ?_
        refine zr_iconst hx hb dX6_logs_115 ?_
        refine zr_iadd hx hb dX6_logs_116 ?_
        refine lv_aload_n hx hb dX6_logs_117 rfl (lv_at hl 1 rfl) ?_
        refine va_get (D := D) (ci := 6) (v := .ref (o 1)) (C := RX6) (T := TX6) (N := 10) hx hb hts hiX6 hown hK hP 0 rfl rfl 0 (by decide) (hts (.fieldLink RX6 7 "ChargeEstimatorModel" "all" "[J") (List.mem_of_getElem? (i := 1) rfl)) (fun _ h9 => h9) rfl dX6_logs_118 ?_
        refine zr_bipush hx hb dX6_logs_121 (by decide) ?_
        refine zr_lald (D := D) (g := zU (zU (zU (zLogS A) (53 + (4 * ((zLogS A) 52))) xk) ((53 + (4 * ((zLogS A) 52))) + 1) xs) ((53 + (4 * ((zLogS A) 52))) + 2) (A 42)) hx hb hK hP 1 2 rfl rfl (by decide) (by decide) dX6_logs_123 ?_
        refine zr_topl (b := A 37) (by rw [zU_ne _ _ (by omega), zU_ne _ _ (by omega), zU_ne _ _ (by omega)]; exact zLogS_lo A 37 (by decide)) ?_
        refine zr_last (D := D) (g := zU (zU (zU (zLogS A) (53 + (4 * ((zLogS A) 52))) xk) ((53 + (4 * ((zLogS A) 52))) + 1) xs) ((53 + (4 * ((zLogS A) 52))) + 2) (A 42)) hx hb hK hP hD hS 1 2 rfl rfl (by decide) (by omega) dX6_logs_124 (fun H locs hP hD hS => ?_)
        have hP : va_P D vwCl (zmod cs o (zU (zU (zU (zU (zLogS A) (53 + (4 * ((zLogS A) 52))) xk) ((53 + (4 * ((zLogS A) 52))) + 1) xs) ((53 + (4 * ((zLogS A) 52))) + 2) (A 42)) ((53 + (4 * ((zLogS A) 52))) + 3) (A 37)) S T xsm xth xam f xtl xpl g) H := hP
        have hD : va_D A0 (zmod cs o (zU (zU (zU (zU (zLogS A) (53 + (4 * ((zLogS A) 52))) xk) ((53 + (4 * ((zLogS A) 52))) + 1) xs) ((53 + (4 * ((zLogS A) 52))) + 2) (A 42)) ((53 + (4 * ((zLogS A) 52))) + 3) (A 37)) S T xsm xth xam f xtl xpl g) := zD_addr hD rfl
        refine lv_aload_n hx hb dX6_logs_125 rfl (lv_at hl 1 rfl) ?_
        refine va_get (D := D) (ci := 6) (v := .ref (o 1)) (C := RX6) (T := TX6) (N := 10) hx hb hts hiX6 hown hK hP 0 rfl rfl 0 (by decide) (hts (.fieldLink RX6 7 "ChargeEstimatorModel" "all" "[J") (List.mem_of_getElem? (i := 1) rfl)) (fun _ h9 => h9) rfl dX6_logs_126 ?_
        refine zr_bipush hx hb dX6_logs_129 (by decide) ?_
        refine lv_dup2_11 hx hb dX6_logs_131 rfl rfl ?_
        refine zr_lald (D := D) (g := zU (zU (zU (zU (zLogS A) (53 + (4 * ((zLogS A) 52))) xk) ((53 + (4 * ((zLogS A) 52))) + 1) xs) ((53 + (4 * ((zLogS A) 52))) + 2) (A 42)) ((53 + (4 * ((zLogS A) 52))) + 3) (A 37)) hx hb hK hP 1 2 rfl rfl (by decide) (by decide) dX6_logs_132 ?_
        refine zr_lconst1 hx hb dX6_logs_133 ?_
        refine zr_ladd hx hb dX6_logs_134 ?_
        refine zr_topl (b := zLogS A 52 + 1) (by rw [zU_ne _ _ (by omega), zU_ne _ _ (by omega), zU_ne _ _ (by omega), zU_ne _ _ (by omega)]) ?_
        refine zr_last (D := D) (g := zU (zU (zU (zU (zLogS A) (53 + (4 * ((zLogS A) 52))) xk) ((53 + (4 * ((zLogS A) 52))) + 1) xs) ((53 + (4 * ((zLogS A) 52))) + 2) (A 42)) ((53 + (4 * ((zLogS A) 52))) + 3) (A 37)) hx hb hK hP hD hS 1 2 rfl rfl (by decide) (by decide) dX6_logs_135 (fun H locs hP hD hS => ?_)
        have hP : va_P D vwCl (zmod cs o (zU (zU (zU (zU (zU (zLogS A) (53 + (4 * ((zLogS A) 52))) xk) ((53 + (4 * ((zLogS A) 52))) + 1) xs) ((53 + (4 * ((zLogS A) 52))) + 2) (A 42)) ((53 + (4 * ((zLogS A) 52))) + 3) (A 37)) 52 (zLogS A 52 + 1)) S T xsm xth xam f xtl xpl g) H := hP
        have hD : va_D A0 (zmod cs o (zU (zU (zU (zU (zU (zLogS A) (53 + (4 * ((zLogS A) 52))) xk) ((53 + (4 * ((zLogS A) 52))) + 1) xs) ((53 + (4 * ((zLogS A) 52))) + 2) (A 42)) ((53 + (4 * ((zLogS A) 52))) + 3) (A 37)) 52 (zLogS A 52 + 1)) S T xsm xth xam f xtl xpl g) := zD_addr hD rfl
        have hP9 : va_P D vwCl (zmod cs o (zLog A xk xs) S T xsm xth xam f xtl xpl g) H := hP
        have hD9 : va_D A0 (zmod cs o (zLog A xk xs) S T xsm xth xam f xtl xpl g) := zD_addr hD rfl
        subst hAe
        exact W.vret hx hb hr (fun t ht hW => ⟨⟨(), rfl, trivial, by rw [ht]; exact hP9, hD9⟩, hS.F ht⟩) hS.2.2 dX6_logs_136
      · refine lv_aload_n hx hb dX6_logs_26 rfl (lv_at hl 1 rfl) ?_
        refine va_get (D := D) (ci := 6) (v := .ref (o 1)) (C := RX6) (T := TX6) (N := 10) hx hb hts hiX6 hown hK hP 0 rfl rfl 0 (by decide) (hts (.fieldLink RX6 7 "ChargeEstimatorModel" "all" "[J") (List.mem_of_getElem? (i := 1) rfl)) (fun _ h9 => h9) rfl dX6_logs_27 ?_
        refine lv_iload hx hb dX6_logs_30 (lv_at hl 0 rfl) ?_
        refine lv_aload_n hx hb dX6_logs_32 rfl (lv_at hl 1 rfl) ?_
        refine va_get (D := D) (ci := 6) (v := .ref (o 1)) (C := RX6) (T := TX6) (N := 10) hx hb hts hiX6 hown hK hP 0 rfl rfl 0 (by decide) (hts (.fieldLink RX6 7 "ChargeEstimatorModel" "all" "[J") (List.mem_of_getElem? (i := 1) rfl)) (fun _ h9 => h9) rfl dX6_logs_33 ?_
        refine lv_iload hx hb dX6_logs_36 (lv_at hl 0 rfl) ?_
        refine zr_iconst hx hb dX6_logs_38 ?_
        refine zr_iadd hx hb dX6_logs_39 ?_
        refine zr_lald (D := D) (g := zC A A 57 53 (xj - 53)) hx hb hK hP 1 2 rfl rfl (by decide) (by omega) dX6_logs_40 ?_
        refine zr_last (D := D) (g := zC A A 57 53 (xj - 53)) hx hb hK hP hD hS 1 2 rfl rfl (by decide) (by omega) dX6_logs_41 (fun H locs hP hD hS => ?_)
        have hP : va_P D vwCl (zmod cs o (zU (zC A A 57 53 (xj - 53)) xj ((zC A A 57 53 (xj - 53)) (xj + 4))) S T xsm xth xam f xtl xpl g) H := hP
        have hD : va_D A0 (zmod cs o (zU (zC A A 57 53 (xj - 53)) xj ((zC A A 57 53 (xj - 53)) (xj + 4))) S T xsm xth xam f xtl xpl g) := zD_addr hD rfl
        refine zr_iinc (kk := 0) (lv' := [(4, .int (zI (xj + 1))), (0, .ref (o 0)), (1, .int (zI xk)), (2, .long (zL xs))]) hx hb dX6_logs_42 hl rfl (by decide) rfl (fun ls hl => ?_)
        refine lv_goto (tgt := 18) hx hb dX6_logs_45 (by decide) ?_
        exact ih (xj + 1) (by omega) (by omega) _ _ (by rw [← zC_s (d := 4) (by decide) (by decide) (by omega)]; exact hP) (zD_addr hD rfl) hS _ (lv_sub hl [0, 1, 2, 3] rfl)
set_option maxHeartbeats 4000000 in
set_option maxRecDepth 100000 in
theorem met_X6_anchored (l : Launch) (D : va_G) (cs : Nat → ClassId) (o : Nat → Nat) (sz : Nat) (A S T : Int → Int) (xsm xth xam : Int) (f : Int → Int) (xtl xpl : Int) (g : Int → Int) (n : Int) (xk xs x0 x1 : Int) (hI : zOK n A) (hn : 0 ≤ n ∧ n ≤ 3100000) (kn9 : n ≤ 3099990) (kxk : 0 ≤ xk ∧ xk ≤ 2) (kxs : 0 ≤ xs ∧ xs ≤ 10000) (kx0 : 0 ≤ x0 ∧ x0 ≤ x1 ∧ x1 ≤ 10000) : Met l yX6_anchored wsX6_anchored ({ frames := 3, cells := 0, slots := 0, locals := 69 }) (va_Pc [.ref (o 0), .int (zI xk), .long (zL xs), .long (zL x0), .long (zL x1)] (zPreZ D (zTy cs) (zmod cs o A S T xsm xth xam f xtl xpl g) sz)) (zQv D (zmod cs o A S T xsm xth xam f xtl xpl g) sz (zmod cs o (zAnc A xk xs x0 x1) S T xsm xth (xam + 1) f xtl xpl g)) 0 0 (va_A (zmod cs o A S T xsm xth xam f xtl xpl g) sz) := by
  refine Met.ofW (cc := cX6_anchored) (maxL := 12) (ret := none) (by decide) rfl ?_
  intro p e s m args below meth c s₁ B hml hv
  obtain ⟨rfl, hsz, hP, hK, hD0, hN⟩ := hv
  have hx := B.exec
  have hb := B.bytes
  have hr := B.returns
  have hts := atoms_spec (ws := wsX6_anchored) B.pre
  have hown : s.vm.findClass RX6 = some m.cls := findClass_of_methodNamed B.named
  have hlocks := B.notSynchronized
  subst hsz
  obtain ⟨A0, hAe⟩ : ∃ A0, A0 = va_A (zmod cs o A S T xsm xth xam f xtl xpl g) s.heap.size := ⟨_, rfl⟩
  have hD := hD0.self (sz := s.heap.size)
  rw [← hAe] at hD
  have hA : ∀ q : Nat, s.heap.size ≤ q → A0 q := fun q h => by rw [hAe]; exact Or.inr h
  have hS : va_S A0 s.heap s.heap [] := va_S.rf
  have hP : va_P D vwCl (zmod cs o A S T xsm xth xam f xtl xpl g) s.heap := hP
  have hl := lv_entry ([.ref (o 0), .int (zI xk), .long (zL xs), .long (zL x0), .long (zL x1)]) (n := 12) (Nat.le_of_ble_eq_true rfl)
  rw [lg_entry_eq]
  generalize (lg_sl ([.ref (o 0), .int (zI xk), .long (zL xs), .long (zL x0), .long (zL x1)]) ++ List.replicate (12 - (lg_sl ([.ref (o 0), .int (zI xk), .long (zL xs), .long (zL x0), .long (zL x1)])).length) Slot.unset).toArray = ls at hl ⊢
  have hl : lv_has ls 12 [(0, .ref (o 0)), (1, .int (zI xk)), (2, .long (zL xs)), (4, .long (zL x0)), (6, .long (zL x1))] := hl
  have hiX6 : ∀ w ∈ wsX60, w ∈ wsX6_anchored := by decide +kernel
  have hB := zOK_lrn hI xs
  have hE := zOK_bnd hB kx0
  obtain ⟨qN, qC, qQ, qL, qH, q40, q41, q42, q43, q44, q45, q46, q47, q48, q49, q50, q51, q52, qhad, qlast, qrow⟩ := zOK_q hB
  have hC := zOK_C hB
  obtain ⟨eN, eC, eQ, eL, eH, e40, e41, e42, e43, e44, e45, e46, e47, e48, e49, e50, e51, e52, ehad, elast, erow⟩ := zOK_q hE
  have hCe := zOK_C hE
  have b0 := zscap (C := zLrn A xs 37) (s := x0) (by omega) (by omega)
  have b1 := zscap (C := zLrn A xs 37) (s := x1) (by omega) (by omega)
  have hm0 := zmul_r (x := zLrn A xs 37) (y := x0) (a := 108000000) (b := 10000) (by omega) (by omega)
  have hm1 := zmul_r (x := zLrn A xs 37) (y := x1) (a := 108000000) (b := 10000) (by omega) (by omega)
  refine lv_aload_n hx hb dX6_anchored_0 rfl (lv_at hl 0 rfl) ?_
  refine lv_lload_n hx hb dX6_anchored_1 rfl (lv_at hl 2 rfl) ?_
  refine zc_v (va_runV (As := [.long (zL xs)]) (rest := []) ⟨hx, hb, hml, hown, hts⟩ (met_X6_learns l D cs o s.heap.size A S T xsm xth xam f xtl xpl g _ xs (by assumption) (by assumption) (by first | assumption | omega)) (cwV 1 hts gX6_anchored_X6_learns rfl rfl rfl (by decide +kernel) ⟨Nat.le_of_ble_eq_true rfl, Nat.le_of_ble_eq_true rfl⟩) ⟨zPreZ.blind, va_recv hK hP (ci := 6) (q0 := 0) rfl rfl, fun U hU hW => zp_Z hP hK hD hN hU hW⟩ rfl rfl hl.1 rfl (lv_room (Nat.le_of_ble_eq_true rfl)) dX6_anchored_2 ⟨Nat.le_of_ble_eq_true rfl, Nat.le_of_ble_eq_true rfl⟩) hS hD hA (fun H locs hP hD hS => ?_)
  refine lv_aload_n hx hb dX6_anchored_5 rfl (lv_at hl 0 rfl) ?_
  refine va_get (D := D) (ci := 6) (v := .ref (o 1)) (C := RX6) (T := TX6) (N := 10) hx hb hts hiX6 hown hK hP 0 rfl rfl 0 (by decide) (hts (.fieldLink RX6 7 "ChargeEstimatorModel" "all" "[J") (List.mem_of_getElem? (i := 1) rfl)) (fun _ h9 => h9) rfl dX6_anchored_6 ?_
  refine zr_bipush hx hb dX6_anchored_9 (by decide) ?_
  refine zr_lald (D := D) (g := zLrn A xs) hx hb hK hP 1 2 rfl rfl (by decide) (by decide) dX6_anchored_11 ?_
  refine lv_lload hx hb dX6_anchored_12 (lv_at hl 3 rfl) ?_
  refine zr_lmul hx hb dX6_anchored_14 ?_
  refine zr_ldc2 (n := 10000) hx hb hown (hts (.constantLong RX6 93 (10000)) (List.mem_of_getElem? (i := 2) rfl)) rfl dX6_anchored_15 ?_
  refine zr_ldiv hx hb dX6_anchored_18 (by omega) (by decide) ?_
  refine lv_lstore (lv' := [(8, .long (zL ((((zLrn A xs) 37) * x0) / 10000))), (0, .ref (o 0)), (1, .int (zI xk)), (2, .long (zL xs)), (4, .long (zL x0)), (6, .long (zL x1))]) hx hb dX6_anchored_19 hl (by decide) rfl (fun ls hl => ?_)
  refine lv_aload_n hx hb dX6_anchored_21 rfl (lv_at hl 1 rfl) ?_
  refine va_get (D := D) (ci := 6) (v := .ref (o 1)) (C := RX6) (T := TX6) (N := 10) hx hb hts hiX6 hown hK hP 0 rfl rfl 0 (by decide) (hts (.fieldLink RX6 7 "ChargeEstimatorModel" "all" "[J") (List.mem_of_getElem? (i := 1) rfl)) (fun _ h9 => h9) rfl dX6_anchored_22 ?_
  refine zr_bipush hx hb dX6_anchored_25 (by decide) ?_
  refine zr_lald (D := D) (g := zLrn A xs) hx hb hK hP 1 2 rfl rfl (by decide) (by decide) dX6_anchored_27 ?_
  refine lv_lload hx hb dX6_anchored_28 (lv_at hl 5 rfl) ?_
  refine zr_lmul hx hb dX6_anchored_30 ?_
  refine zr_ldc2 (n := 10000) hx hb hown (hts (.constantLong RX6 93 (10000)) (List.mem_of_getElem? (i := 2) rfl)) rfl dX6_anchored_31 ?_
  refine zr_ldiv hx hb dX6_anchored_34 (by omega) (by decide) ?_
  refine lv_lstore (lv' := [(10, .long (zL ((((zLrn A xs) 37) * x1) / 10000))), (8, .long (zL ((((zLrn A xs) 37) * x0) / 10000))), (0, .ref (o 0)), (1, .int (zI xk)), (2, .long (zL xs)), (4, .long (zL x0)), (6, .long (zL x1))]) hx hb dX6_anchored_35 hl (by decide) rfl (fun ls hl => ?_)
  refine lv_lload hx hb dX6_anchored_37 (lv_at hl 0 rfl) ?_
  refine lv_aload_n hx hb dX6_anchored_39 rfl (lv_at hl 2 rfl) ?_
  refine va_get (D := D) (ci := 6) (v := .ref (o 1)) (C := RX6) (T := TX6) (N := 10) hx hb hts hiX6 hown hK hP 0 rfl rfl 0 (by decide) (hts (.fieldLink RX6 7 "ChargeEstimatorModel" "all" "[J") (List.mem_of_getElem? (i := 1) rfl)) (fun _ h9 => h9) rfl dX6_anchored_40 ?_
  refine zr_bipush hx hb dX6_anchored_43 (by decide) ?_
  refine zr_lald (D := D) (g := zLrn A xs) hx hb hK hP 1 2 rfl rfl (by decide) (by decide) dX6_anchored_45 ?_
  refine zr_lcmp_lt (tgt := 63) hx hb dX6_anchored_46 dX6_anchored_47 (by decide) (by omega) (by omega) (fun c1 => ?_) (fun c1 => ?_)
  · refine lv_aload_n hx hb dX6_anchored_63 rfl (lv_at hl 2 rfl) ?_
    refine va_get (D := D) (ci := 6) (v := .ref (o 1)) (C := RX6) (T := TX6) (N := 10) hx hb hts hiX6 hown hK hP 0 rfl rfl 0 (by decide) (hts (.fieldLink RX6 7 "ChargeEstimatorModel" "all" "[J") (List.mem_of_getElem? (i := 1) rfl)) (fun _ h9 => h9) rfl dX6_anchored_64 ?_
    refine zr_bipush hx hb dX6_anchored_67 (by decide) ?_
    refine lv_dup2_11 hx hb dX6_anchored_69 rfl rfl ?_
    refine zr_lald (D := D) (g := zLrn A xs) hx hb hK hP 1 2 rfl rfl (by decide) (by decide) dX6_anchored_70 ?_
    refine zr_lconst1 hx hb dX6_anchored_71 ?_
    refine zr_ladd hx hb dX6_anchored_72 ?_
    refine zr_last (D := D) (g := zLrn A xs) hx hb hK hP hD hS 1 2 rfl rfl (by decide) (by decide) dX6_anchored_73 (fun H locs hP hD hS => ?_)
    have hP : va_P D vwCl (zmod cs o (zU (zLrn A xs) 50 (((zLrn A xs) 50) + 1)) S T xsm xth xam f xtl xpl g) H := hP
    have hD : va_D A0 (zmod cs o (zU (zLrn A xs) 50 (((zLrn A xs) 50) + 1)) S T xsm xth xam f xtl xpl g) := zD_addr hD rfl
    refine lv_aload_n hx hb dX6_anchored_74 rfl (lv_at hl 2 rfl) ?_
    refine va_get (D := D) (ci := 6) (v := .ref (o 1)) (C := RX6) (T := TX6) (N := 10) hx hb hts hiX6 hown hK hP 0 rfl rfl 0 (by decide) (hts (.fieldLink RX6 7 "ChargeEstimatorModel" "all" "[J") (List.mem_of_getElem? (i := 1) rfl)) (fun _ h9 => h9) rfl dX6_anchored_75 ?_
    refine zr_bipush hx hb dX6_anchored_78 (by decide) ?_
    refine lv_lload hx hb dX6_anchored_80 (lv_at hl 1 rfl) ?_
    refine zr_last (D := D) (g := zU (zLrn A xs) 50 (((zLrn A xs) 50) + 1)) hx hb hK hP hD hS 1 2 rfl rfl (by decide) (by decide) dX6_anchored_82 (fun H locs hP hD hS => ?_)
    have hP : va_P D vwCl (zmod cs o (zU (zU (zLrn A xs) 50 (((zLrn A xs) 50) + 1)) 35 ((((zLrn A xs) 37) * x0) / 10000)) S T xsm xth xam f xtl xpl g) H := hP
    have hD : va_D A0 (zmod cs o (zU (zU (zLrn A xs) 50 (((zLrn A xs) 50) + 1)) 35 ((((zLrn A xs) 37) * x0) / 10000)) S T xsm xth xam f xtl xpl g) := zD_addr hD rfl
    refine lv_aload_n hx hb dX6_anchored_83 rfl (lv_at hl 2 rfl) ?_
    refine va_get (D := D) (ci := 6) (v := .ref (o 1)) (C := RX6) (T := TX6) (N := 10) hx hb hts hiX6 hown hK hP 0 rfl rfl 0 (by decide) (hts (.fieldLink RX6 7 "ChargeEstimatorModel" "all" "[J") (List.mem_of_getElem? (i := 1) rfl)) (fun _ h9 => h9) rfl dX6_anchored_84 ?_
    refine zr_bipush hx hb dX6_anchored_87 (by decide) ?_
    refine lv_lload hx hb dX6_anchored_89 (lv_at hl 0 rfl) ?_
    refine zr_last (D := D) (g := zU (zU (zLrn A xs) 50 (((zLrn A xs) 50) + 1)) 35 ((((zLrn A xs) 37) * x0) / 10000)) hx hb hK hP hD hS 1 2 rfl rfl (by decide) (by decide) dX6_anchored_91 (fun H locs hP hD hS => ?_)
    have hP : va_P D vwCl (zmod cs o (zU (zU (zU (zLrn A xs) 50 (((zLrn A xs) 50) + 1)) 35 ((((zLrn A xs) 37) * x0) / 10000)) 36 ((((zLrn A xs) 37) * x1) / 10000)) S T xsm xth xam f xtl xpl g) H := hP
    have hD : va_D A0 (zmod cs o (zU (zU (zU (zLrn A xs) 50 (((zLrn A xs) 50) + 1)) 35 ((((zLrn A xs) 37) * x0) / 10000)) 36 ((((zLrn A xs) 37) * x1) / 10000)) S T xsm xth xam f xtl xpl g) := zD_addr hD rfl
    refine lv_goto (tgt := 159) hx hb dX6_anchored_92 (by decide) ?_
    have hP : va_P D vwCl (zmod cs o (zBnd (zLrn A xs) x0 x1) S T xsm xth xam f xtl xpl g) H := by first | (rw [zBnd_t (by omega)]; exact hP) | (rw [zBnd_f (by omega)]; exact hP)
    have hD : va_D A0 (zmod cs o (zBnd (zLrn A xs) x0 x1) S T xsm xth xam f xtl xpl g) := zD_addr hD rfl
    refine lv_aload_n hx hb dX6_anchored_159 rfl (lv_at hl 2 rfl) ?_
    refine va_get (D := D) (ci := 6) (v := .ref (o 1)) (C := RX6) (T := TX6) (N := 10) hx hb hts hiX6 hown hK hP 0 rfl rfl 0 (by decide) (hts (.fieldLink RX6 7 "ChargeEstimatorModel" "all" "[J") (List.mem_of_getElem? (i := 1) rfl)) (fun _ h9 => h9) rfl dX6_anchored_160 ?_
    refine zr_bipush hx hb dX6_anchored_163 (by decide) ?_
    refine lv_aload_n hx hb dX6_anchored_165 rfl (lv_at hl 2 rfl) ?_
    refine va_get (D := D) (ci := 6) (v := .ref (o 1)) (C := RX6) (T := TX6) (N := 10) hx hb hts hiX6 hown hK hP 0 rfl rfl 0 (by decide) (hts (.fieldLink RX6 7 "ChargeEstimatorModel" "all" "[J") (List.mem_of_getElem? (i := 1) rfl)) (fun _ h9 => h9) rfl dX6_anchored_166 ?_
    refine zr_bipush hx hb dX6_anchored_169 (by decide) ?_
    refine zr_lald (D := D) (g := zBnd (zLrn A xs) x0 x1) hx hb hK hP 1 2 rfl rfl (by decide) (by decide) dX6_anchored_171 ?_
    refine lv_aload_n hx hb dX6_anchored_172 rfl (lv_at hl 2 rfl) ?_
    refine va_get (D := D) (ci := 6) (v := .ref (o 1)) (C := RX6) (T := TX6) (N := 10) hx hb hts hiX6 hown hK hP 0 rfl rfl 0 (by decide) (hts (.fieldLink RX6 7 "ChargeEstimatorModel" "all" "[J") (List.mem_of_getElem? (i := 1) rfl)) (fun _ h9 => h9) rfl dX6_anchored_173 ?_
    refine zr_bipush hx hb dX6_anchored_176 (by decide) ?_
    refine zr_lald (D := D) (g := zBnd (zLrn A xs) x0 x1) hx hb hK hP 1 2 rfl rfl (by decide) (by decide) dX6_anchored_178 ?_
    refine lv_aload_n hx hb dX6_anchored_179 rfl (lv_at hl 2 rfl) ?_
    refine va_get (D := D) (ci := 6) (v := .ref (o 1)) (C := RX6) (T := TX6) (N := 10) hx hb hts hiX6 hown hK hP 0 rfl rfl 0 (by decide) (hts (.fieldLink RX6 7 "ChargeEstimatorModel" "all" "[J") (List.mem_of_getElem? (i := 1) rfl)) (fun _ h9 => h9) rfl dX6_anchored_180 ?_
    refine zr_bipush hx hb dX6_anchored_183 (by decide) ?_
    refine zr_lald (D := D) (g := zBnd (zLrn A xs) x0 x1) hx hb hK hP 1 2 rfl rfl (by decide) (by decide) dX6_anchored_185 ?_
    refine zc_rl (va_runS (As := [.long (zL ((zBnd (zLrn A xs) x0 x1) 34)), .long (zL ((zBnd (zLrn A xs) x0 x1) 35)), .long (zL ((zBnd (zLrn A xs) x0 x1) 36))]) (rest := [.int (zI 34), .ref (o 1)]) ⟨hx, hb, hml, hown, hts⟩ (met_X6_clamp l ((zBnd (zLrn A xs) x0 x1) 34) ((zBnd (zLrn A xs) x0 x1) 35) ((zBnd (zLrn A xs) x0 x1) 36) (by first | assumption | omega) (by first | assumption | omega) (by first | assumption | omega)) (va_cwS 3 hts gX6_anchored_X6_clamp rfl rfl rfl (by decide +kernel) ⟨Nat.le_of_ble_eq_true rfl, Nat.le_of_ble_eq_true rfl⟩) ⟨zTrue.blind, fun U hU hW => ⟨rfl, trivial⟩⟩ rfl rfl hl.1 rfl (lv_room (Nat.le_of_ble_eq_true rfl)) dX6_anchored_186 ⟨Nat.le_of_ble_eq_true rfl, Nat.le_of_ble_eq_true rfl⟩) ?_
    refine zr_last (D := D) (g := zBnd (zLrn A xs) x0 x1) hx hb hK hP hD hS 1 2 rfl rfl (by decide) (by decide) dX6_anchored_189 (fun H locs hP hD hS => ?_)
    have hP : va_P D vwCl (zmod cs o (zU (zBnd (zLrn A xs) x0 x1) 34 (zclamp ((zBnd (zLrn A xs) x0 x1) 34) ((zBnd (zLrn A xs) x0 x1) 35) ((zBnd (zLrn A xs) x0 x1) 36))) S T xsm xth xam f xtl xpl g) H := hP
    have hD : va_D A0 (zmod cs o (zU (zBnd (zLrn A xs) x0 x1) 34 (zclamp ((zBnd (zLrn A xs) x0 x1) 34) ((zBnd (zLrn A xs) x0 x1) 35) ((zBnd (zLrn A xs) x0 x1) 36))) S T xsm xth xam f xtl xpl g) := zD_addr hD rfl
    refine lv_aload_n hx hb dX6_anchored_190 rfl (lv_at hl 2 rfl) ?_
    refine va_get (D := D) (ci := 6) (v := .ref (o 1)) (C := RX6) (T := TX6) (N := 10) hx hb hts hiX6 hown hK hP 0 rfl rfl 0 (by decide) (hts (.fieldLink RX6 7 "ChargeEstimatorModel" "all" "[J") (List.mem_of_getElem? (i := 1) rfl)) (fun _ h9 => h9) rfl dX6_anchored_191 ?_
    refine zr_bipush hx hb dX6_anchored_194 (by decide) ?_
    refine zr_lconst0 hx hb dX6_anchored_196 ?_
    refine zr_last (D := D) (g := zU (zBnd (zLrn A xs) x0 x1) 34 (zclamp ((zBnd (zLrn A xs) x0 x1) 34) ((zBnd (zLrn A xs) x0 x1) 35) ((zBnd (zLrn A xs) x0 x1) 36))) hx hb hK hP hD hS 1 2 rfl rfl (by decide) (by decide) dX6_anchored_197 (fun H locs hP hD hS => ?_)
    have hP : va_P D vwCl (zmod cs o (zU (zU (zBnd (zLrn A xs) x0 x1) 34 (zclamp ((zBnd (zLrn A xs) x0 x1) 34) ((zBnd (zLrn A xs) x0 x1) 35) ((zBnd (zLrn A xs) x0 x1) 36))) 40 0) S T xsm xth xam f xtl xpl g) H := hP
    have hD : va_D A0 (zmod cs o (zU (zU (zBnd (zLrn A xs) x0 x1) 34 (zclamp ((zBnd (zLrn A xs) x0 x1) 34) ((zBnd (zLrn A xs) x0 x1) 35) ((zBnd (zLrn A xs) x0 x1) 36))) 40 0) S T xsm xth xam f xtl xpl g) := zD_addr hD rfl
    refine lv_aload_n hx hb dX6_anchored_198 rfl (lv_at hl 2 rfl) ?_
    refine va_get (D := D) (ci := 6) (v := .ref (o 1)) (C := RX6) (T := TX6) (N := 10) hx hb hts hiX6 hown hK hP 0 rfl rfl 0 (by decide) (hts (.fieldLink RX6 7 "ChargeEstimatorModel" "all" "[J") (List.mem_of_getElem? (i := 1) rfl)) (fun _ h9 => h9) rfl dX6_anchored_199 ?_
    refine zr_bipush hx hb dX6_anchored_202 (by decide) ?_
    refine zr_lconst1 hx hb dX6_anchored_204 ?_
    refine zr_last (D := D) (g := zU (zU (zBnd (zLrn A xs) x0 x1) 34 (zclamp ((zBnd (zLrn A xs) x0 x1) 34) ((zBnd (zLrn A xs) x0 x1) 35) ((zBnd (zLrn A xs) x0 x1) 36))) 40 0) hx hb hK hP hD hS 1 2 rfl rfl (by decide) (by decide) dX6_anchored_205 (fun H locs hP hD hS => ?_)
    have hP : va_P D vwCl (zmod cs o (zU (zU (zU (zBnd (zLrn A xs) x0 x1) 34 (zclamp ((zBnd (zLrn A xs) x0 x1) 34) ((zBnd (zLrn A xs) x0 x1) 35) ((zBnd (zLrn A xs) x0 x1) 36))) 40 0) 48 1) S T xsm xth xam f xtl xpl g) H := hP
    have hD : va_D A0 (zmod cs o (zU (zU (zU (zBnd (zLrn A xs) x0 x1) 34 (zclamp ((zBnd (zLrn A xs) x0 x1) 34) ((zBnd (zLrn A xs) x0 x1) 35) ((zBnd (zLrn A xs) x0 x1) 36))) 40 0) 48 1) S T xsm xth xam f xtl xpl g) := zD_addr hD rfl
    refine lv_aload_n hx hb dX6_anchored_206 rfl (lv_at hl 2 rfl) ?_
    refine va_get (D := D) (ci := 6) (v := .ref (o 1)) (C := RX6) (T := TX6) (N := 10) hx hb hts hiX6 hown hK hP 0 rfl rfl 0 (by decide) (hts (.fieldLink RX6 7 "ChargeEstimatorModel" "all" "[J") (List.mem_of_getElem? (i := 1) rfl)) (fun _ h9 => h9) rfl dX6_anchored_207 ?_
    refine zr_bipush hx hb dX6_anchored_210 (by decide) ?_
    refine lv_lload_n hx hb dX6_anchored_212 rfl (lv_at hl 4 rfl) ?_
    refine zr_last (D := D) (g := zU (zU (zU (zBnd (zLrn A xs) x0 x1) 34 (zclamp ((zBnd (zLrn A xs) x0 x1) 34) ((zBnd (zLrn A xs) x0 x1) 35) ((zBnd (zLrn A xs) x0 x1) 36))) 40 0) 48 1) hx hb hK hP hD hS 1 2 rfl rfl (by decide) (by decide) dX6_anchored_213 (fun H locs hP hD hS => ?_)
    have hP : va_P D vwCl (zmod cs o (zU (zU (zU (zU (zBnd (zLrn A xs) x0 x1) 34 (zclamp ((zBnd (zLrn A xs) x0 x1) 34) ((zBnd (zLrn A xs) x0 x1) 35) ((zBnd (zLrn A xs) x0 x1) 36))) 40 0) 48 1) 49 xs) S T xsm xth xam f xtl xpl g) H := hP
    have hD : va_D A0 (zmod cs o (zU (zU (zU (zU (zBnd (zLrn A xs) x0 x1) 34 (zclamp ((zBnd (zLrn A xs) x0 x1) 34) ((zBnd (zLrn A xs) x0 x1) 35) ((zBnd (zLrn A xs) x0 x1) 36))) 40 0) 48 1) 49 xs) S T xsm xth xam f xtl xpl g) := zD_addr hD rfl
    have hP : va_P D vwCl (zmod cs o (zQcl (zBnd (zLrn A xs) x0 x1) xs) S T xsm xth xam f xtl xpl g) H := hP
    have hD : va_D A0 (zmod cs o (zQcl (zBnd (zLrn A xs) x0 x1) xs) S T xsm xth xam f xtl xpl g) := zD_addr hD rfl
    refine lv_aload_n hx hb dX6_anchored_214 rfl (lv_at hl 2 rfl) ?_
    refine lv_dup hx hb dX6_anchored_215 rfl ?_
    refine va_get (D := D) (ci := 6) (v := .int (zI xam)) (C := RX6) (T := TX6) (N := 10) hx hb hts hiX6 hown hK hP 0 rfl rfl 5 (by decide) (hts (.fieldLink RX6 167 "ChargeEstimatorModel" "anchorsMade" "I") (List.mem_of_getElem? (i := 3) rfl)) (fun _ h9 => h9) rfl dX6_anchored_216 ?_
    refine zr_iconst hx hb dX6_anchored_219 ?_
    refine zr_iadd hx hb dX6_anchored_220 ?_
    refine va_put (D := D) (ci := 6) (v := .int (zI (xam + 1))) (ty := .int) (C := RX6) (T := TX6) (N := 10) hx hb hts hiX6 tyX6 tyX6_ok nmX6 hown hK hP hD hS 0 rfl rfl 5 (by decide) (hts (.fieldLink RX6 167 "ChargeEstimatorModel" "anchorsMade" "I") (List.mem_of_getElem? (i := 3) rfl)) (fun _ h9 => h9) rfl (by decide +kernel) rfl rfl (Nat.le_of_ble_eq_true rfl) dX6_anchored_221 (fun H locs hP hD hS => ?_)
    have hP : va_P D vwCl (zmod cs o (zQcl (zBnd (zLrn A xs) x0 x1) xs) S T xsm xth (xam + 1) f xtl xpl g) H := hP
    have hD : va_D A0 (zmod cs o (zQcl (zBnd (zLrn A xs) x0 x1) xs) S T xsm xth (xam + 1) f xtl xpl g) := zD_addr hD rfl
    refine lv_aload_n hx hb dX6_anchored_224 rfl (lv_at hl 2 rfl) ?_
    refine lv_iload_n hx hb dX6_anchored_225 rfl (lv_at hl 3 rfl) ?_
    refine lv_lload_n hx hb dX6_anchored_226 rfl (lv_at hl 4 rfl) ?_
    refine zc_v (va_runV (As := [.int (zI xk), .long (zL xs)]) (rest := []) ⟨hx, hb, hml, hown, hts⟩ (met_X6_logs l D cs o H.size (zQcl (zBnd (zLrn A xs) x0 x1) xs) S T xsm xth (xam + 1) f xtl xpl g xk xs (by exact e52) (by first | assumption | omega)) (cwV 2 hts gX6_anchored_X6_logs rfl rfl rfl (by decide +kernel) ⟨Nat.le_of_ble_eq_true rfl, Nat.le_of_ble_eq_true rfl⟩) ⟨zPreZ.blind, va_recv hK hP (ci := 6) (q0 := 0) rfl rfl, fun U hU hW => zp_Z hP hK hD hN hU hW⟩ rfl rfl hl.1 rfl (lv_room (Nat.le_of_ble_eq_true rfl)) dX6_anchored_227 ⟨Nat.le_of_ble_eq_true rfl, Nat.le_of_ble_eq_true rfl⟩) hS hD hA (fun H locs hP hD hS => ?_)
    have hP9 : va_P D vwCl (zmod cs o (zAnc A xk xs x0 x1) S T xsm xth (xam + 1) f xtl xpl g) H := hP
    have hD9 : va_D A0 (zmod cs o (zAnc A xk xs x0 x1) S T xsm xth (xam + 1) f xtl xpl g) := zD_addr hD rfl
    subst hAe
    exact W.vret hx hb hr (fun t ht hW => ⟨⟨(), rfl, trivial, by rw [ht]; exact hP9, hD9⟩, hS.F ht⟩) hS.2.2 dX6_anchored_230
  · refine lv_lload hx hb dX6_anchored_50 (lv_at hl 1 rfl) ?_
    refine lv_aload_n hx hb dX6_anchored_52 rfl (lv_at hl 2 rfl) ?_
    refine va_get (D := D) (ci := 6) (v := .ref (o 1)) (C := RX6) (T := TX6) (N := 10) hx hb hts hiX6 hown hK hP 0 rfl rfl 0 (by decide) (hts (.fieldLink RX6 7 "ChargeEstimatorModel" "all" "[J") (List.mem_of_getElem? (i := 1) rfl)) (fun _ h9 => h9) rfl dX6_anchored_53 ?_
    refine zr_bipush hx hb dX6_anchored_56 (by decide) ?_
    refine zr_lald (D := D) (g := zLrn A xs) hx hb hK hP 1 2 rfl rfl (by decide) (by decide) dX6_anchored_58 ?_
    refine zr_lcmp_le (tgt := 95) hx hb dX6_anchored_59 dX6_anchored_60 (by decide) (by omega) (by omega) (fun c2 => ?_) (fun c2 => ?_)
    · refine lv_aload_n hx hb dX6_anchored_95 rfl (lv_at hl 2 rfl) ?_
      refine va_get (D := D) (ci := 6) (v := .ref (o 1)) (C := RX6) (T := TX6) (N := 10) hx hb hts hiX6 hown hK hP 0 rfl rfl 0 (by decide) (hts (.fieldLink RX6 7 "ChargeEstimatorModel" "all" "[J") (List.mem_of_getElem? (i := 1) rfl)) (fun _ h9 => h9) rfl dX6_anchored_96 ?_
      refine zr_bipush hx hb dX6_anchored_99 (by decide) ?_
      refine lv_lload hx hb dX6_anchored_101 (lv_at hl 1 rfl) ?_
      refine lv_aload_n hx hb dX6_anchored_103 rfl (lv_at hl 2 rfl) ?_
      refine va_get (D := D) (ci := 6) (v := .ref (o 1)) (C := RX6) (T := TX6) (N := 10) hx hb hts hiX6 hown hK hP 0 rfl rfl 0 (by decide) (hts (.fieldLink RX6 7 "ChargeEstimatorModel" "all" "[J") (List.mem_of_getElem? (i := 1) rfl)) (fun _ h9 => h9) rfl dX6_anchored_104 ?_
      refine zr_bipush hx hb dX6_anchored_107 (by decide) ?_
      refine zr_lald (D := D) (g := zLrn A xs) hx hb hK hP 1 2 rfl rfl (by decide) (by decide) dX6_anchored_109 ?_
      have K3 : ∀ vk4 : Int, vk4 = max (zLrn A xs 35) (zLrn A xs 37 * x0 / 10000) → W p l e (headSpec wsX6_anchored ({ frames := 3, cells := 0, slots := 0, locals := 69 })).room s m ([.ref (o 0), .int (zI xk), .long (zL xs), .long (zL x0), .long (zL x1)] : List Value).toArray below meth c H locs 0 0 (MQ below (zQv D (zmod cs o A S T xsm xth xam f xtl xpl g) s.heap.size (zmod cs o (zAnc A xk xs x0 x1) S T xsm xth (xam + 1) f xtl xpl g)) ([.ref (o 0), .int (zI xk), .long (zL xs), .long (zL x0), .long (zL x1)] : List Value).toArray s 0 0 (va_A (zmod cs o A S T xsm xth xam f xtl xpl g) s.heap.size)) (F0 m 126 ls [.long (zL vk4), .int (zI 35), .ref (o 1)]) := by
        intro vk4 hvk4
        subst hvk4
        refine zr_last (D := D) (g := zLrn A xs) hx hb hK hP hD hS 1 2 rfl rfl (by decide) (by decide) dX6_anchored_126 (fun H locs hP hD hS => ?_)
        have hP : va_P D vwCl (zmod cs o (zU (zLrn A xs) 35 (max (zLrn A xs 35) (zLrn A xs 37 * x0 / 10000))) S T xsm xth xam f xtl xpl g) H := hP
        have hD : va_D A0 (zmod cs o (zU (zLrn A xs) 35 (max (zLrn A xs 35) (zLrn A xs 37 * x0 / 10000))) S T xsm xth xam f xtl xpl g) := zD_addr hD rfl
        refine lv_aload_n hx hb dX6_anchored_127 rfl (lv_at hl 2 rfl) ?_
        refine va_get (D := D) (ci := 6) (v := .ref (o 1)) (C := RX6) (T := TX6) (N := 10) hx hb hts hiX6 hown hK hP 0 rfl rfl 0 (by decide) (hts (.fieldLink RX6 7 "ChargeEstimatorModel" "all" "[J") (List.mem_of_getElem? (i := 1) rfl)) (fun _ h9 => h9) rfl dX6_anchored_128 ?_
        refine zr_bipush hx hb dX6_anchored_131 (by decide) ?_
        refine lv_lload hx hb dX6_anchored_133 (lv_at hl 0 rfl) ?_
        refine lv_aload_n hx hb dX6_anchored_135 rfl (lv_at hl 2 rfl) ?_
        refine va_get (D := D) (ci := 6) (v := .ref (o 1)) (C := RX6) (T := TX6) (N := 10) hx hb hts hiX6 hown hK hP 0 rfl rfl 0 (by decide) (hts (.fieldLink RX6 7 "ChargeEstimatorModel" "all" "[J") (List.mem_of_getElem? (i := 1) rfl)) (fun _ h9 => h9) rfl dX6_anchored_136 ?_
        refine zr_bipush hx hb dX6_anchored_139 (by decide) ?_
        refine zr_lald (D := D) (g := zU (zLrn A xs) 35 (max (zLrn A xs 35) (zLrn A xs 37 * x0 / 10000))) hx hb hK hP 1 2 rfl rfl (by decide) (by decide) dX6_anchored_141 ?_
        rw [show zU (zLrn A xs) 35 (max (zLrn A xs 35) (zLrn A xs 37 * x0 / 10000)) 36 = (zLrn A xs) 36 from by first | rfl | simp [zO, zU]]
        have K5 : ∀ vk6 : Int, vk6 = min (zLrn A xs 36) (zLrn A xs 37 * x1 / 10000) → W p l e (headSpec wsX6_anchored ({ frames := 3, cells := 0, slots := 0, locals := 69 })).room s m ([.ref (o 0), .int (zI xk), .long (zL xs), .long (zL x0), .long (zL x1)] : List Value).toArray below meth c H locs 0 0 (MQ below (zQv D (zmod cs o A S T xsm xth xam f xtl xpl g) s.heap.size (zmod cs o (zAnc A xk xs x0 x1) S T xsm xth (xam + 1) f xtl xpl g)) ([.ref (o 0), .int (zI xk), .long (zL xs), .long (zL x0), .long (zL x1)] : List Value).toArray s 0 0 (va_A (zmod cs o A S T xsm xth xam f xtl xpl g) s.heap.size)) (F0 m 158 ls [.long (zL vk6), .int (zI 36), .ref (o 1)]) := by
          intro vk6 hvk6
          subst hvk6
          refine zr_last (D := D) (g := zU (zLrn A xs) 35 (max (zLrn A xs 35) (zLrn A xs 37 * x0 / 10000))) hx hb hK hP hD hS 1 2 rfl rfl (by decide) (by decide) dX6_anchored_158 (fun H locs hP hD hS => ?_)
          have hP : va_P D vwCl (zmod cs o (zU (zU (zLrn A xs) 35 (max (zLrn A xs 35) (zLrn A xs 37 * x0 / 10000))) 36 (min (zLrn A xs 36) (zLrn A xs 37 * x1 / 10000))) S T xsm xth xam f xtl xpl g) H := hP
          have hD : va_D A0 (zmod cs o (zU (zU (zLrn A xs) 35 (max (zLrn A xs 35) (zLrn A xs 37 * x0 / 10000))) 36 (min (zLrn A xs 36) (zLrn A xs 37 * x1 / 10000))) S T xsm xth xam f xtl xpl g) := zD_addr hD rfl
          have hP : va_P D vwCl (zmod cs o (zBnd (zLrn A xs) x0 x1) S T xsm xth xam f xtl xpl g) H := by first | (rw [zBnd_t (by omega)]; exact hP) | (rw [zBnd_f (by omega)]; exact hP)
          have hD : va_D A0 (zmod cs o (zBnd (zLrn A xs) x0 x1) S T xsm xth xam f xtl xpl g) := zD_addr hD rfl
          refine lv_aload_n hx hb dX6_anchored_159 rfl (lv_at hl 2 rfl) ?_
          refine va_get (D := D) (ci := 6) (v := .ref (o 1)) (C := RX6) (T := TX6) (N := 10) hx hb hts hiX6 hown hK hP 0 rfl rfl 0 (by decide) (hts (.fieldLink RX6 7 "ChargeEstimatorModel" "all" "[J") (List.mem_of_getElem? (i := 1) rfl)) (fun _ h9 => h9) rfl dX6_anchored_160 ?_
          refine zr_bipush hx hb dX6_anchored_163 (by decide) ?_
          refine lv_aload_n hx hb dX6_anchored_165 rfl (lv_at hl 2 rfl) ?_
          refine va_get (D := D) (ci := 6) (v := .ref (o 1)) (C := RX6) (T := TX6) (N := 10) hx hb hts hiX6 hown hK hP 0 rfl rfl 0 (by decide) (hts (.fieldLink RX6 7 "ChargeEstimatorModel" "all" "[J") (List.mem_of_getElem? (i := 1) rfl)) (fun _ h9 => h9) rfl dX6_anchored_166 ?_
          refine zr_bipush hx hb dX6_anchored_169 (by decide) ?_
          refine zr_lald (D := D) (g := zBnd (zLrn A xs) x0 x1) hx hb hK hP 1 2 rfl rfl (by decide) (by decide) dX6_anchored_171 ?_
          refine lv_aload_n hx hb dX6_anchored_172 rfl (lv_at hl 2 rfl) ?_
          refine va_get (D := D) (ci := 6) (v := .ref (o 1)) (C := RX6) (T := TX6) (N := 10) hx hb hts hiX6 hown hK hP 0 rfl rfl 0 (by decide) (hts (.fieldLink RX6 7 "ChargeEstimatorModel" "all" "[J") (List.mem_of_getElem? (i := 1) rfl)) (fun _ h9 => h9) rfl dX6_anchored_173 ?_
          refine zr_bipush hx hb dX6_anchored_176 (by decide) ?_
          refine zr_lald (D := D) (g := zBnd (zLrn A xs) x0 x1) hx hb hK hP 1 2 rfl rfl (by decide) (by decide) dX6_anchored_178 ?_
          refine lv_aload_n hx hb dX6_anchored_179 rfl (lv_at hl 2 rfl) ?_
          refine va_get (D := D) (ci := 6) (v := .ref (o 1)) (C := RX6) (T := TX6) (N := 10) hx hb hts hiX6 hown hK hP 0 rfl rfl 0 (by decide) (hts (.fieldLink RX6 7 "ChargeEstimatorModel" "all" "[J") (List.mem_of_getElem? (i := 1) rfl)) (fun _ h9 => h9) rfl dX6_anchored_180 ?_
          refine zr_bipush hx hb dX6_anchored_183 (by decide) ?_
          refine zr_lald (D := D) (g := zBnd (zLrn A xs) x0 x1) hx hb hK hP 1 2 rfl rfl (by decide) (by decide) dX6_anchored_185 ?_
          refine zc_rl (va_runS (As := [.long (zL ((zBnd (zLrn A xs) x0 x1) 34)), .long (zL ((zBnd (zLrn A xs) x0 x1) 35)), .long (zL ((zBnd (zLrn A xs) x0 x1) 36))]) (rest := [.int (zI 34), .ref (o 1)]) ⟨hx, hb, hml, hown, hts⟩ (met_X6_clamp l ((zBnd (zLrn A xs) x0 x1) 34) ((zBnd (zLrn A xs) x0 x1) 35) ((zBnd (zLrn A xs) x0 x1) 36) (by first | assumption | omega) (by first | assumption | omega) (by first | assumption | omega)) (va_cwS 3 hts gX6_anchored_X6_clamp rfl rfl rfl (by decide +kernel) ⟨Nat.le_of_ble_eq_true rfl, Nat.le_of_ble_eq_true rfl⟩) ⟨zTrue.blind, fun U hU hW => ⟨rfl, trivial⟩⟩ rfl rfl hl.1 rfl (lv_room (Nat.le_of_ble_eq_true rfl)) dX6_anchored_186 ⟨Nat.le_of_ble_eq_true rfl, Nat.le_of_ble_eq_true rfl⟩) ?_
          refine zr_last (D := D) (g := zBnd (zLrn A xs) x0 x1) hx hb hK hP hD hS 1 2 rfl rfl (by decide) (by decide) dX6_anchored_189 (fun H locs hP hD hS => ?_)
          have hP : va_P D vwCl (zmod cs o (zU (zBnd (zLrn A xs) x0 x1) 34 (zclamp ((zBnd (zLrn A xs) x0 x1) 34) ((zBnd (zLrn A xs) x0 x1) 35) ((zBnd (zLrn A xs) x0 x1) 36))) S T xsm xth xam f xtl xpl g) H := hP
          have hD : va_D A0 (zmod cs o (zU (zBnd (zLrn A xs) x0 x1) 34 (zclamp ((zBnd (zLrn A xs) x0 x1) 34) ((zBnd (zLrn A xs) x0 x1) 35) ((zBnd (zLrn A xs) x0 x1) 36))) S T xsm xth xam f xtl xpl g) := zD_addr hD rfl
          refine lv_aload_n hx hb dX6_anchored_190 rfl (lv_at hl 2 rfl) ?_
          refine va_get (D := D) (ci := 6) (v := .ref (o 1)) (C := RX6) (T := TX6) (N := 10) hx hb hts hiX6 hown hK hP 0 rfl rfl 0 (by decide) (hts (.fieldLink RX6 7 "ChargeEstimatorModel" "all" "[J") (List.mem_of_getElem? (i := 1) rfl)) (fun _ h9 => h9) rfl dX6_anchored_191 ?_
          refine zr_bipush hx hb dX6_anchored_194 (by decide) ?_
          refine zr_lconst0 hx hb dX6_anchored_196 ?_
          refine zr_last (D := D) (g := zU (zBnd (zLrn A xs) x0 x1) 34 (zclamp ((zBnd (zLrn A xs) x0 x1) 34) ((zBnd (zLrn A xs) x0 x1) 35) ((zBnd (zLrn A xs) x0 x1) 36))) hx hb hK hP hD hS 1 2 rfl rfl (by decide) (by decide) dX6_anchored_197 (fun H locs hP hD hS => ?_)
          have hP : va_P D vwCl (zmod cs o (zU (zU (zBnd (zLrn A xs) x0 x1) 34 (zclamp ((zBnd (zLrn A xs) x0 x1) 34) ((zBnd (zLrn A xs) x0 x1) 35) ((zBnd (zLrn A xs) x0 x1) 36))) 40 0) S T xsm xth xam f xtl xpl g) H := hP
          have hD : va_D A0 (zmod cs o (zU (zU (zBnd (zLrn A xs) x0 x1) 34 (zclamp ((zBnd (zLrn A xs) x0 x1) 34) ((zBnd (zLrn A xs) x0 x1) 35) ((zBnd (zLrn A xs) x0 x1) 36))) 40 0) S T xsm xth xam f xtl xpl g) := zD_addr hD rfl
          refine lv_aload_n hx hb dX6_anchored_198 rfl (lv_at hl 2 rfl) ?_
          refine va_get (D := D) (ci := 6) (v := .ref (o 1)) (C := RX6) (T := TX6) (N := 10) hx hb hts hiX6 hown hK hP 0 rfl rfl 0 (by decide) (hts (.fieldLink RX6 7 "ChargeEstimatorModel" "all" "[J") (List.mem_of_getElem? (i := 1) rfl)) (fun _ h9 => h9) rfl dX6_anchored_199 ?_
          refine zr_bipush hx hb dX6_anchored_202 (by decide) ?_
          refine zr_lconst1 hx hb dX6_anchored_204 ?_
          refine zr_last (D := D) (g := zU (zU (zBnd (zLrn A xs) x0 x1) 34 (zclamp ((zBnd (zLrn A xs) x0 x1) 34) ((zBnd (zLrn A xs) x0 x1) 35) ((zBnd (zLrn A xs) x0 x1) 36))) 40 0) hx hb hK hP hD hS 1 2 rfl rfl (by decide) (by decide) dX6_anchored_205 (fun H locs hP hD hS => ?_)
          have hP : va_P D vwCl (zmod cs o (zU (zU (zU (zBnd (zLrn A xs) x0 x1) 34 (zclamp ((zBnd (zLrn A xs) x0 x1) 34) ((zBnd (zLrn A xs) x0 x1) 35) ((zBnd (zLrn A xs) x0 x1) 36))) 40 0) 48 1) S T xsm xth xam f xtl xpl g) H := hP
          have hD : va_D A0 (zmod cs o (zU (zU (zU (zBnd (zLrn A xs) x0 x1) 34 (zclamp ((zBnd (zLrn A xs) x0 x1) 34) ((zBnd (zLrn A xs) x0 x1) 35) ((zBnd (zLrn A xs) x0 x1) 36))) 40 0) 48 1) S T xsm xth xam f xtl xpl g) := zD_addr hD rfl
          refine lv_aload_n hx hb dX6_anchored_206 rfl (lv_at hl 2 rfl) ?_
          refine va_get (D := D) (ci := 6) (v := .ref (o 1)) (C := RX6) (T := TX6) (N := 10) hx hb hts hiX6 hown hK hP 0 rfl rfl 0 (by decide) (hts (.fieldLink RX6 7 "ChargeEstimatorModel" "all" "[J") (List.mem_of_getElem? (i := 1) rfl)) (fun _ h9 => h9) rfl dX6_anchored_207 ?_
          refine zr_bipush hx hb dX6_anchored_210 (by decide) ?_
          refine lv_lload_n hx hb dX6_anchored_212 rfl (lv_at hl 4 rfl) ?_
          refine zr_last (D := D) (g := zU (zU (zU (zBnd (zLrn A xs) x0 x1) 34 (zclamp ((zBnd (zLrn A xs) x0 x1) 34) ((zBnd (zLrn A xs) x0 x1) 35) ((zBnd (zLrn A xs) x0 x1) 36))) 40 0) 48 1) hx hb hK hP hD hS 1 2 rfl rfl (by decide) (by decide) dX6_anchored_213 (fun H locs hP hD hS => ?_)
          have hP : va_P D vwCl (zmod cs o (zU (zU (zU (zU (zBnd (zLrn A xs) x0 x1) 34 (zclamp ((zBnd (zLrn A xs) x0 x1) 34) ((zBnd (zLrn A xs) x0 x1) 35) ((zBnd (zLrn A xs) x0 x1) 36))) 40 0) 48 1) 49 xs) S T xsm xth xam f xtl xpl g) H := hP
          have hD : va_D A0 (zmod cs o (zU (zU (zU (zU (zBnd (zLrn A xs) x0 x1) 34 (zclamp ((zBnd (zLrn A xs) x0 x1) 34) ((zBnd (zLrn A xs) x0 x1) 35) ((zBnd (zLrn A xs) x0 x1) 36))) 40 0) 48 1) 49 xs) S T xsm xth xam f xtl xpl g) := zD_addr hD rfl
          have hP : va_P D vwCl (zmod cs o (zQcl (zBnd (zLrn A xs) x0 x1) xs) S T xsm xth xam f xtl xpl g) H := hP
          have hD : va_D A0 (zmod cs o (zQcl (zBnd (zLrn A xs) x0 x1) xs) S T xsm xth xam f xtl xpl g) := zD_addr hD rfl
          refine lv_aload_n hx hb dX6_anchored_214 rfl (lv_at hl 2 rfl) ?_
          refine lv_dup hx hb dX6_anchored_215 rfl ?_
          refine va_get (D := D) (ci := 6) (v := .int (zI xam)) (C := RX6) (T := TX6) (N := 10) hx hb hts hiX6 hown hK hP 0 rfl rfl 5 (by decide) (hts (.fieldLink RX6 167 "ChargeEstimatorModel" "anchorsMade" "I") (List.mem_of_getElem? (i := 3) rfl)) (fun _ h9 => h9) rfl dX6_anchored_216 ?_
          refine zr_iconst hx hb dX6_anchored_219 ?_
          refine zr_iadd hx hb dX6_anchored_220 ?_
          refine va_put (D := D) (ci := 6) (v := .int (zI (xam + 1))) (ty := .int) (C := RX6) (T := TX6) (N := 10) hx hb hts hiX6 tyX6 tyX6_ok nmX6 hown hK hP hD hS 0 rfl rfl 5 (by decide) (hts (.fieldLink RX6 167 "ChargeEstimatorModel" "anchorsMade" "I") (List.mem_of_getElem? (i := 3) rfl)) (fun _ h9 => h9) rfl (by decide +kernel) rfl rfl (Nat.le_of_ble_eq_true rfl) dX6_anchored_221 (fun H locs hP hD hS => ?_)
          have hP : va_P D vwCl (zmod cs o (zQcl (zBnd (zLrn A xs) x0 x1) xs) S T xsm xth (xam + 1) f xtl xpl g) H := hP
          have hD : va_D A0 (zmod cs o (zQcl (zBnd (zLrn A xs) x0 x1) xs) S T xsm xth (xam + 1) f xtl xpl g) := zD_addr hD rfl
          refine lv_aload_n hx hb dX6_anchored_224 rfl (lv_at hl 2 rfl) ?_
          refine lv_iload_n hx hb dX6_anchored_225 rfl (lv_at hl 3 rfl) ?_
          refine lv_lload_n hx hb dX6_anchored_226 rfl (lv_at hl 4 rfl) ?_
          refine zc_v (va_runV (As := [.int (zI xk), .long (zL xs)]) (rest := []) ⟨hx, hb, hml, hown, hts⟩ (met_X6_logs l D cs o H.size (zQcl (zBnd (zLrn A xs) x0 x1) xs) S T xsm xth (xam + 1) f xtl xpl g xk xs (by exact e52) (by first | assumption | omega)) (cwV 2 hts gX6_anchored_X6_logs rfl rfl rfl (by decide +kernel) ⟨Nat.le_of_ble_eq_true rfl, Nat.le_of_ble_eq_true rfl⟩) ⟨zPreZ.blind, va_recv hK hP (ci := 6) (q0 := 0) rfl rfl, fun U hU hW => zp_Z hP hK hD hN hU hW⟩ rfl rfl hl.1 rfl (lv_room (Nat.le_of_ble_eq_true rfl)) dX6_anchored_227 ⟨Nat.le_of_ble_eq_true rfl, Nat.le_of_ble_eq_true rfl⟩) hS hD hA (fun H locs hP hD hS => ?_)
          have hP9 : va_P D vwCl (zmod cs o (zAnc A xk xs x0 x1) S T xsm xth (xam + 1) f xtl xpl g) H := hP
          have hD9 : va_D A0 (zmod cs o (zAnc A xk xs x0 x1) S T xsm xth (xam + 1) f xtl xpl g) := zD_addr hD rfl
          subst hAe
          exact W.vret hx hb hr (fun t ht hW => ⟨⟨(), rfl, trivial, by rw [ht]; exact hP9, hD9⟩, hS.F ht⟩) hS.2.2 dX6_anchored_230
        refine zr_lcmp_ge (tgt := 151) hx hb dX6_anchored_142 dX6_anchored_143 (by decide) (by omega) (by omega) (fun c7 => ?_) (fun c7 => ?_)
        · refine lv_aload_n hx hb dX6_anchored_151 rfl (lv_at hl 2 rfl) ?_
          refine va_get (D := D) (ci := 6) (v := .ref (o 1)) (C := RX6) (T := TX6) (N := 10) hx hb hts hiX6 hown hK hP 0 rfl rfl 0 (by decide) (hts (.fieldLink RX6 7 "ChargeEstimatorModel" "all" "[J") (List.mem_of_getElem? (i := 1) rfl)) (fun _ h9 => h9) rfl dX6_anchored_152 ?_
          refine zr_bipush hx hb dX6_anchored_155 (by decide) ?_
          refine zr_lald (D := D) (g := zU (zLrn A xs) 35 (max (zLrn A xs 35) (zLrn A xs 37 * x0 / 10000))) hx hb hK hP 1 2 rfl rfl (by decide) (by decide) dX6_anchored_157 ?_
          rw [show zU (zLrn A xs) 35 (max (zLrn A xs 35) (zLrn A xs 37 * x0 / 10000)) 36 = (zLrn A xs) 36 from by first | rfl | simp [zO, zU]]
          exact K5 ((zLrn A xs) 36) (by omega)
        · refine lv_lload hx hb dX6_anchored_146 (lv_at hl 0 rfl) ?_
          refine lv_goto (tgt := 158) hx hb dX6_anchored_148 (by decide) ?_
          exact K5 ((((zLrn A xs) 37) * x1) / 10000) (by omega)
      refine zr_lcmp_le (tgt := 119) hx hb dX6_anchored_110 dX6_anchored_111 (by decide) (by omega) (by omega) (fun c8 => ?_) (fun c8 => ?_)
      · refine lv_aload_n hx hb dX6_anchored_119 rfl (lv_at hl 2 rfl) ?_
        refine va_get (D := D) (ci := 6) (v := .ref (o 1)) (C := RX6) (T := TX6) (N := 10) hx hb hts hiX6 hown hK hP 0 rfl rfl 0 (by decide) (hts (.fieldLink RX6 7 "ChargeEstimatorModel" "all" "[J") (List.mem_of_getElem? (i := 1) rfl)) (fun _ h9 => h9) rfl dX6_anchored_120 ?_
        refine zr_bipush hx hb dX6_anchored_123 (by decide) ?_
        refine zr_lald (D := D) (g := zLrn A xs) hx hb hK hP 1 2 rfl rfl (by decide) (by decide) dX6_anchored_125 ?_
        exact K3 ((zLrn A xs) 35) (by omega)
      · refine lv_lload hx hb dX6_anchored_114 (lv_at hl 1 rfl) ?_
        refine lv_goto (tgt := 126) hx hb dX6_anchored_116 (by decide) ?_
        exact K3 ((((zLrn A xs) 37) * x0) / 10000) (by omega)
    · refine lv_aload_n hx hb dX6_anchored_63 rfl (lv_at hl 2 rfl) ?_
      refine va_get (D := D) (ci := 6) (v := .ref (o 1)) (C := RX6) (T := TX6) (N := 10) hx hb hts hiX6 hown hK hP 0 rfl rfl 0 (by decide) (hts (.fieldLink RX6 7 "ChargeEstimatorModel" "all" "[J") (List.mem_of_getElem? (i := 1) rfl)) (fun _ h9 => h9) rfl dX6_anchored_64 ?_
      refine zr_bipush hx hb dX6_anchored_67 (by decide) ?_
      refine lv_dup2_11 hx hb dX6_anchored_69 rfl rfl ?_
      refine zr_lald (D := D) (g := zLrn A xs) hx hb hK hP 1 2 rfl rfl (by decide) (by decide) dX6_anchored_70 ?_
      refine zr_lconst1 hx hb dX6_anchored_71 ?_
      refine zr_ladd hx hb dX6_anchored_72 ?_
      refine zr_last (D := D) (g := zLrn A xs) hx hb hK hP hD hS 1 2 rfl rfl (by decide) (by decide) dX6_anchored_73 (fun H locs hP hD hS => ?_)
      have hP : va_P D vwCl (zmod cs o (zU (zLrn A xs) 50 (((zLrn A xs) 50) + 1)) S T xsm xth xam f xtl xpl g) H := hP
      have hD : va_D A0 (zmod cs o (zU (zLrn A xs) 50 (((zLrn A xs) 50) + 1)) S T xsm xth xam f xtl xpl g) := zD_addr hD rfl
      refine lv_aload_n hx hb dX6_anchored_74 rfl (lv_at hl 2 rfl) ?_
      refine va_get (D := D) (ci := 6) (v := .ref (o 1)) (C := RX6) (T := TX6) (N := 10) hx hb hts hiX6 hown hK hP 0 rfl rfl 0 (by decide) (hts (.fieldLink RX6 7 "ChargeEstimatorModel" "all" "[J") (List.mem_of_getElem? (i := 1) rfl)) (fun _ h9 => h9) rfl dX6_anchored_75 ?_
      refine zr_bipush hx hb dX6_anchored_78 (by decide) ?_
      refine lv_lload hx hb dX6_anchored_80 (lv_at hl 1 rfl) ?_
      refine zr_last (D := D) (g := zU (zLrn A xs) 50 (((zLrn A xs) 50) + 1)) hx hb hK hP hD hS 1 2 rfl rfl (by decide) (by decide) dX6_anchored_82 (fun H locs hP hD hS => ?_)
      have hP : va_P D vwCl (zmod cs o (zU (zU (zLrn A xs) 50 (((zLrn A xs) 50) + 1)) 35 ((((zLrn A xs) 37) * x0) / 10000)) S T xsm xth xam f xtl xpl g) H := hP
      have hD : va_D A0 (zmod cs o (zU (zU (zLrn A xs) 50 (((zLrn A xs) 50) + 1)) 35 ((((zLrn A xs) 37) * x0) / 10000)) S T xsm xth xam f xtl xpl g) := zD_addr hD rfl
      refine lv_aload_n hx hb dX6_anchored_83 rfl (lv_at hl 2 rfl) ?_
      refine va_get (D := D) (ci := 6) (v := .ref (o 1)) (C := RX6) (T := TX6) (N := 10) hx hb hts hiX6 hown hK hP 0 rfl rfl 0 (by decide) (hts (.fieldLink RX6 7 "ChargeEstimatorModel" "all" "[J") (List.mem_of_getElem? (i := 1) rfl)) (fun _ h9 => h9) rfl dX6_anchored_84 ?_
      refine zr_bipush hx hb dX6_anchored_87 (by decide) ?_
      refine lv_lload hx hb dX6_anchored_89 (lv_at hl 0 rfl) ?_
      refine zr_last (D := D) (g := zU (zU (zLrn A xs) 50 (((zLrn A xs) 50) + 1)) 35 ((((zLrn A xs) 37) * x0) / 10000)) hx hb hK hP hD hS 1 2 rfl rfl (by decide) (by decide) dX6_anchored_91 (fun H locs hP hD hS => ?_)
      have hP : va_P D vwCl (zmod cs o (zU (zU (zU (zLrn A xs) 50 (((zLrn A xs) 50) + 1)) 35 ((((zLrn A xs) 37) * x0) / 10000)) 36 ((((zLrn A xs) 37) * x1) / 10000)) S T xsm xth xam f xtl xpl g) H := hP
      have hD : va_D A0 (zmod cs o (zU (zU (zU (zLrn A xs) 50 (((zLrn A xs) 50) + 1)) 35 ((((zLrn A xs) 37) * x0) / 10000)) 36 ((((zLrn A xs) 37) * x1) / 10000)) S T xsm xth xam f xtl xpl g) := zD_addr hD rfl
      refine lv_goto (tgt := 159) hx hb dX6_anchored_92 (by decide) ?_
      have hP : va_P D vwCl (zmod cs o (zBnd (zLrn A xs) x0 x1) S T xsm xth xam f xtl xpl g) H := by first | (rw [zBnd_t (by omega)]; exact hP) | (rw [zBnd_f (by omega)]; exact hP)
      have hD : va_D A0 (zmod cs o (zBnd (zLrn A xs) x0 x1) S T xsm xth xam f xtl xpl g) := zD_addr hD rfl
      refine lv_aload_n hx hb dX6_anchored_159 rfl (lv_at hl 2 rfl) ?_
      refine va_get (D := D) (ci := 6) (v := .ref (o 1)) (C := RX6) (T := TX6) (N := 10) hx hb hts hiX6 hown hK hP 0 rfl rfl 0 (by decide) (hts (.fieldLink RX6 7 "ChargeEstimatorModel" "all" "[J") (List.mem_of_getElem? (i := 1) rfl)) (fun _ h9 => h9) rfl dX6_anchored_160 ?_
      refine zr_bipush hx hb dX6_anchored_163 (by decide) ?_
      refine lv_aload_n hx hb dX6_anchored_165 rfl (lv_at hl 2 rfl) ?_
      refine va_get (D := D) (ci := 6) (v := .ref (o 1)) (C := RX6) (T := TX6) (N := 10) hx hb hts hiX6 hown hK hP 0 rfl rfl 0 (by decide) (hts (.fieldLink RX6 7 "ChargeEstimatorModel" "all" "[J") (List.mem_of_getElem? (i := 1) rfl)) (fun _ h9 => h9) rfl dX6_anchored_166 ?_
      refine zr_bipush hx hb dX6_anchored_169 (by decide) ?_
      refine zr_lald (D := D) (g := zBnd (zLrn A xs) x0 x1) hx hb hK hP 1 2 rfl rfl (by decide) (by decide) dX6_anchored_171 ?_
      refine lv_aload_n hx hb dX6_anchored_172 rfl (lv_at hl 2 rfl) ?_
      refine va_get (D := D) (ci := 6) (v := .ref (o 1)) (C := RX6) (T := TX6) (N := 10) hx hb hts hiX6 hown hK hP 0 rfl rfl 0 (by decide) (hts (.fieldLink RX6 7 "ChargeEstimatorModel" "all" "[J") (List.mem_of_getElem? (i := 1) rfl)) (fun _ h9 => h9) rfl dX6_anchored_173 ?_
      refine zr_bipush hx hb dX6_anchored_176 (by decide) ?_
      refine zr_lald (D := D) (g := zBnd (zLrn A xs) x0 x1) hx hb hK hP 1 2 rfl rfl (by decide) (by decide) dX6_anchored_178 ?_
      refine lv_aload_n hx hb dX6_anchored_179 rfl (lv_at hl 2 rfl) ?_
      refine va_get (D := D) (ci := 6) (v := .ref (o 1)) (C := RX6) (T := TX6) (N := 10) hx hb hts hiX6 hown hK hP 0 rfl rfl 0 (by decide) (hts (.fieldLink RX6 7 "ChargeEstimatorModel" "all" "[J") (List.mem_of_getElem? (i := 1) rfl)) (fun _ h9 => h9) rfl dX6_anchored_180 ?_
      refine zr_bipush hx hb dX6_anchored_183 (by decide) ?_
      refine zr_lald (D := D) (g := zBnd (zLrn A xs) x0 x1) hx hb hK hP 1 2 rfl rfl (by decide) (by decide) dX6_anchored_185 ?_
      refine zc_rl (va_runS (As := [.long (zL ((zBnd (zLrn A xs) x0 x1) 34)), .long (zL ((zBnd (zLrn A xs) x0 x1) 35)), .long (zL ((zBnd (zLrn A xs) x0 x1) 36))]) (rest := [.int (zI 34), .ref (o 1)]) ⟨hx, hb, hml, hown, hts⟩ (met_X6_clamp l ((zBnd (zLrn A xs) x0 x1) 34) ((zBnd (zLrn A xs) x0 x1) 35) ((zBnd (zLrn A xs) x0 x1) 36) (by first | assumption | omega) (by first | assumption | omega) (by first | assumption | omega)) (va_cwS 3 hts gX6_anchored_X6_clamp rfl rfl rfl (by decide +kernel) ⟨Nat.le_of_ble_eq_true rfl, Nat.le_of_ble_eq_true rfl⟩) ⟨zTrue.blind, fun U hU hW => ⟨rfl, trivial⟩⟩ rfl rfl hl.1 rfl (lv_room (Nat.le_of_ble_eq_true rfl)) dX6_anchored_186 ⟨Nat.le_of_ble_eq_true rfl, Nat.le_of_ble_eq_true rfl⟩) ?_
      refine zr_last (D := D) (g := zBnd (zLrn A xs) x0 x1) hx hb hK hP hD hS 1 2 rfl rfl (by decide) (by decide) dX6_anchored_189 (fun H locs hP hD hS => ?_)
      have hP : va_P D vwCl (zmod cs o (zU (zBnd (zLrn A xs) x0 x1) 34 (zclamp ((zBnd (zLrn A xs) x0 x1) 34) ((zBnd (zLrn A xs) x0 x1) 35) ((zBnd (zLrn A xs) x0 x1) 36))) S T xsm xth xam f xtl xpl g) H := hP
      have hD : va_D A0 (zmod cs o (zU (zBnd (zLrn A xs) x0 x1) 34 (zclamp ((zBnd (zLrn A xs) x0 x1) 34) ((zBnd (zLrn A xs) x0 x1) 35) ((zBnd (zLrn A xs) x0 x1) 36))) S T xsm xth xam f xtl xpl g) := zD_addr hD rfl
      refine lv_aload_n hx hb dX6_anchored_190 rfl (lv_at hl 2 rfl) ?_
      refine va_get (D := D) (ci := 6) (v := .ref (o 1)) (C := RX6) (T := TX6) (N := 10) hx hb hts hiX6 hown hK hP 0 rfl rfl 0 (by decide) (hts (.fieldLink RX6 7 "ChargeEstimatorModel" "all" "[J") (List.mem_of_getElem? (i := 1) rfl)) (fun _ h9 => h9) rfl dX6_anchored_191 ?_
      refine zr_bipush hx hb dX6_anchored_194 (by decide) ?_
      refine zr_lconst0 hx hb dX6_anchored_196 ?_
      refine zr_last (D := D) (g := zU (zBnd (zLrn A xs) x0 x1) 34 (zclamp ((zBnd (zLrn A xs) x0 x1) 34) ((zBnd (zLrn A xs) x0 x1) 35) ((zBnd (zLrn A xs) x0 x1) 36))) hx hb hK hP hD hS 1 2 rfl rfl (by decide) (by decide) dX6_anchored_197 (fun H locs hP hD hS => ?_)
      have hP : va_P D vwCl (zmod cs o (zU (zU (zBnd (zLrn A xs) x0 x1) 34 (zclamp ((zBnd (zLrn A xs) x0 x1) 34) ((zBnd (zLrn A xs) x0 x1) 35) ((zBnd (zLrn A xs) x0 x1) 36))) 40 0) S T xsm xth xam f xtl xpl g) H := hP
      have hD : va_D A0 (zmod cs o (zU (zU (zBnd (zLrn A xs) x0 x1) 34 (zclamp ((zBnd (zLrn A xs) x0 x1) 34) ((zBnd (zLrn A xs) x0 x1) 35) ((zBnd (zLrn A xs) x0 x1) 36))) 40 0) S T xsm xth xam f xtl xpl g) := zD_addr hD rfl
      refine lv_aload_n hx hb dX6_anchored_198 rfl (lv_at hl 2 rfl) ?_
      refine va_get (D := D) (ci := 6) (v := .ref (o 1)) (C := RX6) (T := TX6) (N := 10) hx hb hts hiX6 hown hK hP 0 rfl rfl 0 (by decide) (hts (.fieldLink RX6 7 "ChargeEstimatorModel" "all" "[J") (List.mem_of_getElem? (i := 1) rfl)) (fun _ h9 => h9) rfl dX6_anchored_199 ?_
      refine zr_bipush hx hb dX6_anchored_202 (by decide) ?_
      refine zr_lconst1 hx hb dX6_anchored_204 ?_
      refine zr_last (D := D) (g := zU (zU (zBnd (zLrn A xs) x0 x1) 34 (zclamp ((zBnd (zLrn A xs) x0 x1) 34) ((zBnd (zLrn A xs) x0 x1) 35) ((zBnd (zLrn A xs) x0 x1) 36))) 40 0) hx hb hK hP hD hS 1 2 rfl rfl (by decide) (by decide) dX6_anchored_205 (fun H locs hP hD hS => ?_)
      have hP : va_P D vwCl (zmod cs o (zU (zU (zU (zBnd (zLrn A xs) x0 x1) 34 (zclamp ((zBnd (zLrn A xs) x0 x1) 34) ((zBnd (zLrn A xs) x0 x1) 35) ((zBnd (zLrn A xs) x0 x1) 36))) 40 0) 48 1) S T xsm xth xam f xtl xpl g) H := hP
      have hD : va_D A0 (zmod cs o (zU (zU (zU (zBnd (zLrn A xs) x0 x1) 34 (zclamp ((zBnd (zLrn A xs) x0 x1) 34) ((zBnd (zLrn A xs) x0 x1) 35) ((zBnd (zLrn A xs) x0 x1) 36))) 40 0) 48 1) S T xsm xth xam f xtl xpl g) := zD_addr hD rfl
      refine lv_aload_n hx hb dX6_anchored_206 rfl (lv_at hl 2 rfl) ?_
      refine va_get (D := D) (ci := 6) (v := .ref (o 1)) (C := RX6) (T := TX6) (N := 10) hx hb hts hiX6 hown hK hP 0 rfl rfl 0 (by decide) (hts (.fieldLink RX6 7 "ChargeEstimatorModel" "all" "[J") (List.mem_of_getElem? (i := 1) rfl)) (fun _ h9 => h9) rfl dX6_anchored_207 ?_
      refine zr_bipush hx hb dX6_anchored_210 (by decide) ?_
      refine lv_lload_n hx hb dX6_anchored_212 rfl (lv_at hl 4 rfl) ?_
      refine zr_last (D := D) (g := zU (zU (zU (zBnd (zLrn A xs) x0 x1) 34 (zclamp ((zBnd (zLrn A xs) x0 x1) 34) ((zBnd (zLrn A xs) x0 x1) 35) ((zBnd (zLrn A xs) x0 x1) 36))) 40 0) 48 1) hx hb hK hP hD hS 1 2 rfl rfl (by decide) (by decide) dX6_anchored_213 (fun H locs hP hD hS => ?_)
      have hP : va_P D vwCl (zmod cs o (zU (zU (zU (zU (zBnd (zLrn A xs) x0 x1) 34 (zclamp ((zBnd (zLrn A xs) x0 x1) 34) ((zBnd (zLrn A xs) x0 x1) 35) ((zBnd (zLrn A xs) x0 x1) 36))) 40 0) 48 1) 49 xs) S T xsm xth xam f xtl xpl g) H := hP
      have hD : va_D A0 (zmod cs o (zU (zU (zU (zU (zBnd (zLrn A xs) x0 x1) 34 (zclamp ((zBnd (zLrn A xs) x0 x1) 34) ((zBnd (zLrn A xs) x0 x1) 35) ((zBnd (zLrn A xs) x0 x1) 36))) 40 0) 48 1) 49 xs) S T xsm xth xam f xtl xpl g) := zD_addr hD rfl
      have hP : va_P D vwCl (zmod cs o (zQcl (zBnd (zLrn A xs) x0 x1) xs) S T xsm xth xam f xtl xpl g) H := hP
      have hD : va_D A0 (zmod cs o (zQcl (zBnd (zLrn A xs) x0 x1) xs) S T xsm xth xam f xtl xpl g) := zD_addr hD rfl
      refine lv_aload_n hx hb dX6_anchored_214 rfl (lv_at hl 2 rfl) ?_
      refine lv_dup hx hb dX6_anchored_215 rfl ?_
      refine va_get (D := D) (ci := 6) (v := .int (zI xam)) (C := RX6) (T := TX6) (N := 10) hx hb hts hiX6 hown hK hP 0 rfl rfl 5 (by decide) (hts (.fieldLink RX6 167 "ChargeEstimatorModel" "anchorsMade" "I") (List.mem_of_getElem? (i := 3) rfl)) (fun _ h9 => h9) rfl dX6_anchored_216 ?_
      refine zr_iconst hx hb dX6_anchored_219 ?_
      refine zr_iadd hx hb dX6_anchored_220 ?_
      refine va_put (D := D) (ci := 6) (v := .int (zI (xam + 1))) (ty := .int) (C := RX6) (T := TX6) (N := 10) hx hb hts hiX6 tyX6 tyX6_ok nmX6 hown hK hP hD hS 0 rfl rfl 5 (by decide) (hts (.fieldLink RX6 167 "ChargeEstimatorModel" "anchorsMade" "I") (List.mem_of_getElem? (i := 3) rfl)) (fun _ h9 => h9) rfl (by decide +kernel) rfl rfl (Nat.le_of_ble_eq_true rfl) dX6_anchored_221 (fun H locs hP hD hS => ?_)
      have hP : va_P D vwCl (zmod cs o (zQcl (zBnd (zLrn A xs) x0 x1) xs) S T xsm xth (xam + 1) f xtl xpl g) H := hP
      have hD : va_D A0 (zmod cs o (zQcl (zBnd (zLrn A xs) x0 x1) xs) S T xsm xth (xam + 1) f xtl xpl g) := zD_addr hD rfl
      refine lv_aload_n hx hb dX6_anchored_224 rfl (lv_at hl 2 rfl) ?_
      refine lv_iload_n hx hb dX6_anchored_225 rfl (lv_at hl 3 rfl) ?_
      refine lv_lload_n hx hb dX6_anchored_226 rfl (lv_at hl 4 rfl) ?_
      refine zc_v (va_runV (As := [.int (zI xk), .long (zL xs)]) (rest := []) ⟨hx, hb, hml, hown, hts⟩ (met_X6_logs l D cs o H.size (zQcl (zBnd (zLrn A xs) x0 x1) xs) S T xsm xth (xam + 1) f xtl xpl g xk xs (by exact e52) (by first | assumption | omega)) (cwV 2 hts gX6_anchored_X6_logs rfl rfl rfl (by decide +kernel) ⟨Nat.le_of_ble_eq_true rfl, Nat.le_of_ble_eq_true rfl⟩) ⟨zPreZ.blind, va_recv hK hP (ci := 6) (q0 := 0) rfl rfl, fun U hU hW => zp_Z hP hK hD hN hU hW⟩ rfl rfl hl.1 rfl (lv_room (Nat.le_of_ble_eq_true rfl)) dX6_anchored_227 ⟨Nat.le_of_ble_eq_true rfl, Nat.le_of_ble_eq_true rfl⟩) hS hD hA (fun H locs hP hD hS => ?_)
      have hP9 : va_P D vwCl (zmod cs o (zAnc A xk xs x0 x1) S T xsm xth (xam + 1) f xtl xpl g) H := hP
      have hD9 : va_D A0 (zmod cs o (zAnc A xk xs x0 x1) S T xsm xth (xam + 1) f xtl xpl g) := zD_addr hD rfl
      subst hAe
      exact W.vret hx hb hr (fun t ht hW => ⟨⟨(), rfl, trivial, by rw [ht]; exact hP9, hD9⟩, hS.F ht⟩) hS.2.2 dX6_anchored_230
