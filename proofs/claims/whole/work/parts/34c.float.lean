/-! floats: cycles and healthBits -/
set_option maxHeartbeats 4000000 in
set_option maxRecDepth 100000 in
theorem met_X5_healthBits_ok (l : Launch) (D : va_G) (cs : Nat → ClassId) (o : Nat → Nat → Nat) (A : Int → Int) (n : Int) (hI : zOK n A) (hn : 0 ≤ n ∧ n ≤ 3100000) : Met l yX5_healthBits wsX5_healthBits ({ frames := 1, cells := 0, slots := 0, locals := 23 }) (va_Pc [.ref ((o 0) 0)] (zPre D (zTy cs) ([((o 0) 0, .inr (5, [.ref ((o 1) 0), .ref ((o 2) 0), .ref ((o 3) 0), .ref ((o 8) 0)]))] ++ zbat cs (o 1) A))) (zRi (zI (zHB A))) 0 0 (fun _ => False) := by
  refine Met.ofW (cc := cX5_healthBits) (maxL := 1) (ret := (some .int)) (by decide) rfl ?_
  intro p e s m args below meth c s₁ B hml hv
  obtain ⟨rfl, hP, hK, hD0, hN⟩ := hv
  have hx := B.exec
  have hb := B.bytes
  have hr := B.returns
  have hts := atoms_spec (ws := wsX5_healthBits) B.pre
  have hown : s.vm.findClass RX5 = some m.cls := findClass_of_methodNamed B.named
  have hlocks := B.notSynchronized
  have hD := hD0
  have hl := lv_entry ([.ref ((o 0) 0)]) (n := 1) (Nat.le_of_ble_eq_true rfl)
  rw [lg_entry_eq]
  generalize (lg_sl ([.ref ((o 0) 0)]) ++ List.replicate (1 - (lg_sl ([.ref ((o 0) 0)])).length) Slot.unset).toArray = ls at hl ⊢
  have hl : lv_has ls 1 [(0, .ref ((o 0) 0))] := hl
  have hiX1 : ∀ w ∈ wsX10, w ∈ wsX5_healthBits := by decide +kernel
  have hiX5 : ∀ w ∈ wsX50, w ∈ wsX5_healthBits := by decide +kernel
  have q38 := (zOK_q hI).1
  have hC := zOK_C hI
  refine lv_aload_n hx hb dX5_healthBits_0 rfl (lv_at hl 0 rfl) ?_
  refine va_get (D := D) (ci := 5) (v := .ref ((o 1) 0)) (C := RX5) (T := TX5) (N := 4) hx hb hts hiX5 hown hK hP 0 rfl rfl 0 (by decide) (hts (.fieldLink RX5 10 "ChargeEstimator" "battery" "LChargeEstimator$Battery;") (List.mem_of_getElem? (i := 1) rfl)) (fun _ h9 => h9) rfl dX5_healthBits_1 ?_
  refine va_getN (D := D) (ci := 1) (v := .long (zL (A 38))) (C := RX1) (T := TX1) (N := 18) hx hb hts hiX1 hown hK hP 1 rfl rfl 3 (by decide) (va_Nw.use rfl (zn_RX5_141 hN)) (fun _ h9 => h9) rfl dX5_healthBits_4 ?_
  refine zr_lconst0 hx hb dX5_healthBits_7 ?_
  refine zr_lcmp_le (tgt := 35) hx hb dX5_healthBits_8 dX5_healthBits_9 (by decide) (by omega) (by decide) (fun c1 => ?_) (fun c1 => ?_)
  · exfalso; first | omega | (simp only [and_true, true_and] at c1; omega) | exact c1.2.elim
  · refine lv_aload_n hx hb dX5_healthBits_12 rfl (lv_at hl 0 rfl) ?_
    refine va_get (D := D) (ci := 5) (v := .ref ((o 1) 0)) (C := RX5) (T := TX5) (N := 4) hx hb hts hiX5 hown hK hP 0 rfl rfl 0 (by decide) (hts (.fieldLink RX5 10 "ChargeEstimator" "battery" "LChargeEstimator$Battery;") (List.mem_of_getElem? (i := 1) rfl)) (fun _ h9 => h9) rfl dX5_healthBits_13 ?_
    refine va_getN (D := D) (ci := 1) (v := .long (zL (A 37))) (C := RX1) (T := TX1) (N := 18) hx hb hts hiX1 hown hK hP 1 rfl rfl 4 (by decide) (va_Nw.use rfl (zn_RX5_144 hN)) (fun _ h9 => h9) rfl dX5_healthBits_16 ?_
    refine lv_l2f hx hb dX5_healthBits_19 ?_
    refine lv_aload_n hx hb dX5_healthBits_20 rfl (lv_at hl 0 rfl) ?_
    refine va_get (D := D) (ci := 5) (v := .ref ((o 1) 0)) (C := RX5) (T := TX5) (N := 4) hx hb hts hiX5 hown hK hP 0 rfl rfl 0 (by decide) (hts (.fieldLink RX5 10 "ChargeEstimator" "battery" "LChargeEstimator$Battery;") (List.mem_of_getElem? (i := 1) rfl)) (fun _ h9 => h9) rfl dX5_healthBits_21 ?_
    refine va_getN (D := D) (ci := 1) (v := .long (zL (A 38))) (C := RX1) (T := TX1) (N := 18) hx hb hts hiX1 hown hK hP 1 rfl rfl 3 (by decide) (va_Nw.use rfl (zn_RX5_141 hN)) (fun _ h9 => h9) rfl dX5_healthBits_24 ?_
    refine lv_l2f hx hb dX5_healthBits_27 ?_
    obtain ⟨ke, kt, hf, hke, hkt⟩ := zF_hA hI
    refine lv_fdiv hx hb dX5_healthBits_28 (by rw [hf]; exact zFb_v (by omega) hkt) ?_
    rw [hf]
    refine zc_ri (va_runS (As := [.float (zFb ke kt)]) (rest := []) ⟨hx, hb, hml, hown, hts⟩ (met_X5_bitsOf l ke kt (by omega) hkt) (va_cwS 1 hts gX5_healthBits_X5_bitsOf rfl rfl rfl (by decide +kernel) ⟨(Nat.le_of_ble_eq_true rfl), (Nat.le_of_ble_eq_true rfl)⟩) ⟨zTrue.blind, fun U hU hW => ⟨rfl, trivial⟩⟩ rfl rfl hl.1 rfl (lv_room (Nat.le_of_ble_eq_true rfl)) dX5_healthBits_29 ⟨(Nat.le_of_ble_eq_true rfl), (Nat.le_of_ble_eq_true rfl)⟩) ?_
    refine lv_goto (tgt := 36) hx hb dX5_healthBits_32 (by decide) ?_
    exact W.iret hx hb hr (fun t ht hW => ⟨_, rfl, (congrArg zI (show ((ke * 8388608 + kt : Nat) : Int) = zHB A from by show ((ke * 8388608 + kt : Nat) : Int) = zHB A; unfold zHB; rw [hf, zFb_n (by omega) hkt])), ht⟩) (fun q hq => absurd hq List.not_mem_nil) dX5_healthBits_36
set_option maxHeartbeats 4000000 in
set_option maxRecDepth 100000 in
theorem met_X5_cycles_ok (l : Launch) (D : va_G) (cs : Nat → ClassId) (o : Nat → Nat → Nat) (A : Int → Int) (n : Int) (hI : zOK n A) (hn : 0 ≤ n ∧ n ≤ 3100000) : Met l yX5_cycles wsX5_cycles ({ frames := 0, cells := 0, slots := 0, locals := 0 }) (va_Pc [.ref ((o 0) 0)] (zPre D (zTy cs) ([((o 0) 0, .inr (5, [.ref ((o 1) 0), .ref ((o 2) 0), .ref ((o 3) 0), .ref ((o 8) 0)]))] ++ zbat cs (o 1) A))) (zRdd (zCy A)) 0 0 (fun _ => False) := by
  refine Met.ofW (cc := cX5_cycles) (maxL := 3) (ret := (some .double)) (by decide) rfl ?_
  intro p e s m args below meth c s₁ B hml hv
  obtain ⟨rfl, hP, hK, hD0, hN⟩ := hv
  have hx := B.exec
  have hb := B.bytes
  have hr := B.returns
  have hts := atoms_spec (ws := wsX5_cycles) B.pre
  have hown : s.vm.findClass RX5 = some m.cls := findClass_of_methodNamed B.named
  have hlocks := B.notSynchronized
  have hD := hD0
  have hl := lv_entry ([.ref ((o 0) 0)]) (n := 3) (Nat.le_of_ble_eq_true rfl)
  rw [lg_entry_eq]
  generalize (lg_sl ([.ref ((o 0) 0)]) ++ List.replicate (3 - (lg_sl ([.ref ((o 0) 0)])).length) Slot.unset).toArray = ls at hl ⊢
  have hl : lv_has ls 3 [(0, .ref ((o 0) 0))] := hl
  have hiX1 : ∀ w ∈ wsX10, w ∈ wsX5_cycles := by decide +kernel
  have hiX5 : ∀ w ∈ wsX50, w ∈ wsX5_cycles := by decide +kernel
  have q38 := (zOK_q hI).1
  have hC := zOK_C hI
  refine zr_ldc2 (n := 2) hx hb hown (hts (.constantLong RX5 139 (2)) (List.mem_of_getElem? (i := 1) rfl)) rfl dX5_cycles_0 ?_
  refine lv_aload_n hx hb dX5_cycles_3 rfl (lv_at hl 0 rfl) ?_
  refine va_get (D := D) (ci := 5) (v := .ref ((o 1) 0)) (C := RX5) (T := TX5) (N := 4) hx hb hts hiX5 hown hK hP 0 rfl rfl 0 (by decide) (hts (.fieldLink RX5 10 "ChargeEstimator" "battery" "LChargeEstimator$Battery;") (List.mem_of_getElem? (i := 2) rfl)) (fun _ h9 => h9) rfl dX5_cycles_4 ?_
  refine va_getN (D := D) (ci := 1) (v := .long (zL (A 38))) (C := RX1) (T := TX1) (N := 18) hx hb hts hiX1 hown hK hP 1 rfl rfl 3 (by decide) (va_Nw.use rfl (zn_RX5_141 hN)) (fun _ h9 => h9) rfl dX5_cycles_7 ?_
  refine zr_lmul hx hb dX5_cycles_10 ?_
  refine lv_lstore_n (lv' := [(1, .long (zL (2 * (A 38)))), (0, .ref ((o 0) 0))]) hx hb dX5_cycles_11 rfl hl (by decide) rfl (fun ls hl => ?_)
  refine lv_lload_n hx hb dX5_cycles_12 rfl (lv_at hl 0 rfl) ?_
  refine zr_lconst0 hx hb dX5_cycles_13 ?_
  refine zr_lcmp_le (tgt := 32) hx hb dX5_cycles_14 dX5_cycles_15 (by decide) (by omega) (by decide) (fun c1 => ?_) (fun c1 => ?_)
  · exfalso; first | omega | (simp only [and_true, true_and] at c1; omega) | exact c1.2.elim
  · refine lv_aload_n hx hb dX5_cycles_18 rfl (lv_at hl 1 rfl) ?_
    refine va_get (D := D) (ci := 5) (v := .ref ((o 1) 0)) (C := RX5) (T := TX5) (N := 4) hx hb hts hiX5 hown hK hP 0 rfl rfl 0 (by decide) (hts (.fieldLink RX5 10 "ChargeEstimator" "battery" "LChargeEstimator$Battery;") (List.mem_of_getElem? (i := 2) rfl)) (fun _ h9 => h9) rfl dX5_cycles_19 ?_
    refine va_getN (D := D) (ci := 1) (v := .long (zL (A 41))) (C := RX1) (T := TX1) (N := 18) hx hb hts hiX1 hown hK hP 1 rfl rfl 9 (by decide) (va_Nw.use rfl (zn_RX5_135 hN)) (fun _ h9 => h9) rfl dX5_cycles_22 ?_
    refine lv_l2d hx hb dX5_cycles_25 ?_
    refine lv_lload_n hx hb dX5_cycles_26 rfl (lv_at hl 0 rfl) ?_
    refine lv_l2d hx hb dX5_cycles_27 ?_
    refine lv_ddiv hx hb dX5_cycles_28 (zD_vA hI hn) ?_
    refine lv_goto (tgt := 33) hx hb dX5_cycles_29 (by decide) ?_
    exact W.dret hx hb hr (fun t ht hW => ⟨rfl, ht⟩) (fun q hq => absurd hq List.not_mem_nil) dX5_cycles_33
set_option maxHeartbeats 4000000 in
set_option maxRecDepth 100000 in
theorem met_X6_cycles (l : Launch) (D : va_G) (cs : Nat → ClassId) (o : Nat → Nat) (sz : Nat) (A S T : Int → Int) (xsm xth xam : Int) (f : Int → Int) (xtl xpl : Int) (g : Int → Int) (n : Int) (hI : zOK n A) (hn : 0 ≤ n ∧ n ≤ 3100000) : Met l yX6_cycles wsX6_cycles ({ frames := 0, cells := 0, slots := 0, locals := 0 }) (va_Pc [.ref (o 0)] (zPreZ D (zTy cs) (zmod cs o A S T xsm xth xam f xtl xpl g) sz)) (zQdd D (zmod cs o A S T xsm xth xam f xtl xpl g) sz (zCy A) (zmod cs o A S T xsm 0 xam f xtl xpl g)) 0 0 (va_A (zmod cs o A S T xsm xth xam f xtl xpl g) sz) := by
  refine Met.ofW (cc := cX6_cycles) (maxL := 1) (ret := (some .double)) (by decide) rfl ?_
  intro p e s m args below meth c s₁ B hml hv
  obtain ⟨rfl, hsz, hP, hK, hD0, hN⟩ := hv
  have hx := B.exec
  have hb := B.bytes
  have hr := B.returns
  have hts := atoms_spec (ws := wsX6_cycles) B.pre
  have hown : s.vm.findClass RX6 = some m.cls := findClass_of_methodNamed B.named
  have hlocks := B.notSynchronized
  subst hsz
  obtain ⟨A0, hAe⟩ : ∃ A0, A0 = va_A (zmod cs o A S T xsm xth xam f xtl xpl g) s.heap.size := ⟨_, rfl⟩
  have hD := hD0.self (sz := s.heap.size)
  rw [← hAe] at hD
  have hA : ∀ q : Nat, s.heap.size ≤ q → A0 q := fun q h => by rw [hAe]; exact Or.inr h
  have hS : va_S A0 s.heap s.heap [] := va_S.rf
  have hP : va_P D vwCl (zmod cs o A S T xsm xth xam f xtl xpl g) s.heap := hP
  have hl := lv_entry ([.ref (o 0)]) (n := 1) (Nat.le_of_ble_eq_true rfl)
  rw [lg_entry_eq]
  generalize (lg_sl ([.ref (o 0)]) ++ List.replicate (1 - (lg_sl ([.ref (o 0)])).length) Slot.unset).toArray = ls at hl ⊢
  have hl : lv_has ls 1 [(0, .ref (o 0))] := hl
  have hiX6 : ∀ w ∈ wsX60, w ∈ wsX6_cycles := by decide +kernel
  have q38 := (zOK_q hI).1
  have hC := zOK_C hI
  refine lv_aload_n hx hb dX6_cycles_0 rfl (lv_at hl 0 rfl) ?_
  refine zr_iconst hx hb dX6_cycles_1 ?_
  refine va_put (D := D) (ci := 6) (v := .int (zI 0)) (ty := .int) (C := RX6) (T := TX6) (N := 10) hx hb hts hiX6 tyX6 tyX6_ok nmX6 hown hK hP hD hS 0 rfl rfl 4 (by decide) (hts (.fieldLink RX6 86 "ChargeEstimatorModel" "thrown" "I") (List.mem_of_getElem? (i := 1) rfl)) (fun _ h9 => h9) rfl (by decide +kernel) rfl rfl (Nat.le_of_ble_eq_true rfl) dX6_cycles_2 (fun H locs hP hD hS => ?_)
  have hP : va_P D vwCl (zmod cs o A S T xsm 0 xam f xtl xpl g) H := hP
  have hD : va_D A0 (zmod cs o A S T xsm 0 xam f xtl xpl g) := zD_addr hD rfl
  refine lv_aload_n hx hb dX6_cycles_5 rfl (lv_at hl 0 rfl) ?_
  refine va_get (D := D) (ci := 6) (v := .ref (o 1)) (C := RX6) (T := TX6) (N := 10) hx hb hts hiX6 hown hK hP 0 rfl rfl 0 (by decide) (hts (.fieldLink RX6 7 "ChargeEstimatorModel" "all" "[J") (List.mem_of_getElem? (i := 2) rfl)) (fun _ h9 => h9) rfl dX6_cycles_6 ?_
  refine zr_bipush hx hb dX6_cycles_9 (by decide) ?_
  refine zr_lald (D := D) (g := A) hx hb hK hP 1 2 rfl rfl (by decide) (by decide) dX6_cycles_11 ?_
  refine lv_l2d hx hb dX6_cycles_12 ?_
  refine zr_ldc2 (n := 2) hx hb hown (hts (.constantLong RX6 36 (2)) (List.mem_of_getElem? (i := 3) rfl)) rfl dX6_cycles_13 ?_
  refine lv_aload_n hx hb dX6_cycles_16 rfl (lv_at hl 0 rfl) ?_
  refine va_get (D := D) (ci := 6) (v := .ref (o 1)) (C := RX6) (T := TX6) (N := 10) hx hb hts hiX6 hown hK hP 0 rfl rfl 0 (by decide) (hts (.fieldLink RX6 7 "ChargeEstimatorModel" "all" "[J") (List.mem_of_getElem? (i := 2) rfl)) (fun _ h9 => h9) rfl dX6_cycles_17 ?_
  refine zr_bipush hx hb dX6_cycles_20 (by decide) ?_
  refine zr_lald (D := D) (g := A) hx hb hK hP 1 2 rfl rfl (by decide) (by decide) dX6_cycles_22 ?_
  refine zr_lmul hx hb dX6_cycles_23 ?_
  refine lv_l2d hx hb dX6_cycles_24 ?_
  refine lv_ddiv hx hb dX6_cycles_25 (zD_vA hI hn) ?_
  have hP9 : va_P D vwCl (zmod cs o A S T xsm 0 xam f xtl xpl g) H := hP
  have hD9 : va_D A0 (zmod cs o A S T xsm 0 xam f xtl xpl g) := zD_addr hD rfl
  rw [hAe] at hD9 hS
  exact W.dret hx hb hr (fun t ht hW => ⟨⟨_, (), rfl, rfl, by rw [ht]; exact hP9, hD9⟩, hS.F ht⟩) hS.2.2 dX6_cycles_26
set_option maxHeartbeats 4000000 in
set_option maxRecDepth 100000 in
theorem met_X6_healthBits (l : Launch) (D : va_G) (cs : Nat → ClassId) (o : Nat → Nat) (sz : Nat) (A S T : Int → Int) (xsm xth xam : Int) (f : Int → Int) (xtl xpl : Int) (g : Int → Int) (n : Int) (hI : zOK n A) (hn : 0 ≤ n ∧ n ≤ 3100000) : Met l yX6_healthBits wsX6_healthBits ({ frames := 2, cells := 0, slots := 0, locals := 40 }) (va_Pc [.ref (o 0)] (zPreZ D (zTy cs) (zmod cs o A S T xsm xth xam f xtl xpl g) sz)) (zQi D (zmod cs o A S T xsm xth xam f xtl xpl g) sz (zI (zHB A)) (zmod cs o A S T xsm 0 xam f xtl xpl g)) 0 0 (va_A (zmod cs o A S T xsm xth xam f xtl xpl g) sz) := by
  refine Met.ofW (cc := cX6_healthBits) (maxL := 1) (ret := (some .int)) (by decide) rfl ?_
  intro p e s m args below meth c s₁ B hml hv
  obtain ⟨rfl, hsz, hP, hK, hD0, hN⟩ := hv
  have hx := B.exec
  have hb := B.bytes
  have hr := B.returns
  have hts := atoms_spec (ws := wsX6_healthBits) B.pre
  have hown : s.vm.findClass RX6 = some m.cls := findClass_of_methodNamed B.named
  have hlocks := B.notSynchronized
  subst hsz
  obtain ⟨A0, hAe⟩ : ∃ A0, A0 = va_A (zmod cs o A S T xsm xth xam f xtl xpl g) s.heap.size := ⟨_, rfl⟩
  have hD := hD0.self (sz := s.heap.size)
  rw [← hAe] at hD
  have hA : ∀ q : Nat, s.heap.size ≤ q → A0 q := fun q h => by rw [hAe]; exact Or.inr h
  have hS : va_S A0 s.heap s.heap [] := va_S.rf
  have hP : va_P D vwCl (zmod cs o A S T xsm xth xam f xtl xpl g) s.heap := hP
  have hl := lv_entry ([.ref (o 0)]) (n := 1) (Nat.le_of_ble_eq_true rfl)
  rw [lg_entry_eq]
  generalize (lg_sl ([.ref (o 0)]) ++ List.replicate (1 - (lg_sl ([.ref (o 0)])).length) Slot.unset).toArray = ls at hl ⊢
  have hl : lv_has ls 1 [(0, .ref (o 0))] := hl
  have hiX6 : ∀ w ∈ wsX60, w ∈ wsX6_healthBits := by decide +kernel
  have q38 := (zOK_q hI).1
  have hC := zOK_C hI
  refine lv_aload_n hx hb dX6_healthBits_0 rfl (lv_at hl 0 rfl) ?_
  refine zr_iconst hx hb dX6_healthBits_1 ?_
  refine va_put (D := D) (ci := 6) (v := .int (zI 0)) (ty := .int) (C := RX6) (T := TX6) (N := 10) hx hb hts hiX6 tyX6 tyX6_ok nmX6 hown hK hP hD hS 0 rfl rfl 4 (by decide) (hts (.fieldLink RX6 86 "ChargeEstimatorModel" "thrown" "I") (List.mem_of_getElem? (i := 1) rfl)) (fun _ h9 => h9) rfl (by decide +kernel) rfl rfl (Nat.le_of_ble_eq_true rfl) dX6_healthBits_2 (fun H locs hP hD hS => ?_)
  have hP : va_P D vwCl (zmod cs o A S T xsm 0 xam f xtl xpl g) H := hP
  have hD : va_D A0 (zmod cs o A S T xsm 0 xam f xtl xpl g) := zD_addr hD rfl
  refine lv_aload_n hx hb dX6_healthBits_5 rfl (lv_at hl 0 rfl) ?_
  refine va_get (D := D) (ci := 6) (v := .ref (o 1)) (C := RX6) (T := TX6) (N := 10) hx hb hts hiX6 hown hK hP 0 rfl rfl 0 (by decide) (hts (.fieldLink RX6 7 "ChargeEstimatorModel" "all" "[J") (List.mem_of_getElem? (i := 2) rfl)) (fun _ h9 => h9) rfl dX6_healthBits_6 ?_
  refine zr_bipush hx hb dX6_healthBits_9 (by decide) ?_
  refine zr_lald (D := D) (g := A) hx hb hK hP 1 2 rfl rfl (by decide) (by decide) dX6_healthBits_11 ?_
  refine lv_l2f hx hb dX6_healthBits_12 ?_
  refine lv_aload_n hx hb dX6_healthBits_13 rfl (lv_at hl 0 rfl) ?_
  refine va_get (D := D) (ci := 6) (v := .ref (o 1)) (C := RX6) (T := TX6) (N := 10) hx hb hts hiX6 hown hK hP 0 rfl rfl 0 (by decide) (hts (.fieldLink RX6 7 "ChargeEstimatorModel" "all" "[J") (List.mem_of_getElem? (i := 2) rfl)) (fun _ h9 => h9) rfl dX6_healthBits_14 ?_
  refine zr_bipush hx hb dX6_healthBits_17 (by decide) ?_
  refine zr_lald (D := D) (g := A) hx hb hK hP 1 2 rfl rfl (by decide) (by decide) dX6_healthBits_19 ?_
  refine lv_l2f hx hb dX6_healthBits_20 ?_
  obtain ⟨ke, kt, hf, hke, hkt⟩ := zF_hA hI
  refine lv_fdiv hx hb dX6_healthBits_21 (by rw [hf]; exact zFb_v (by omega) hkt) ?_
  rw [hf]
  refine zc_ri (va_runS (As := [.float (zFb ke kt)]) (rest := []) ⟨hx, hb, hml, hown, hts⟩ (met_Jxf58ca_floatToIntBits_5c35a l ke kt (by omega) hkt) (va_cwS 1 hts gX6_healthBits_Jxf58ca_floatToIntBits_5c35a rfl rfl rfl (by decide +kernel) ⟨(Nat.le_of_ble_eq_true rfl), (Nat.le_of_ble_eq_true rfl)⟩) ⟨zTrue.blind, fun U hU hW => ⟨rfl, trivial⟩⟩ rfl rfl hl.1 rfl (lv_room (Nat.le_of_ble_eq_true rfl)) dX6_healthBits_22 ⟨(Nat.le_of_ble_eq_true rfl), (Nat.le_of_ble_eq_true rfl)⟩) ?_
  have hP9 : va_P D vwCl (zmod cs o A S T xsm 0 xam f xtl xpl g) H := hP
  have hD9 : va_D A0 (zmod cs o A S T xsm 0 xam f xtl xpl g) := zD_addr hD rfl
  subst hAe
  exact W.iret hx hb hr (fun t ht hW => ⟨⟨_, (), rfl, (congrArg zI (show ((ke * 8388608 + kt : Nat) : Int) = zHB A from by show ((ke * 8388608 + kt : Nat) : Int) = zHB A; unfold zHB; rw [hf, zFb_n (by omega) hkt])), by rw [ht]; exact hP9, hD9⟩, hS.F ht⟩) hS.2.2 dX6_healthBits_25
