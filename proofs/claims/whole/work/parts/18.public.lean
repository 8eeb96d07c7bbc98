/-! the reference: what the calls answer -/
def zGo (P Q : Prop) [Decidable P] [Decidable Q] : Int := if P then (if Q then 0 else 2) else 1
theorem zGo_0 {P Q : Prop} [Decidable P] [Decidable Q] (hp : P) (hq : Q) : zGo P Q = 0 := by unfold zGo; rw [if_pos hp, if_pos hq]
theorem zGo_1 {P Q : Prop} [Decidable P] [Decidable Q] (hp : ¬ P) : zGo P Q = 1 := by unfold zGo; rw [if_neg hp]
theorem zGo_2 {P Q : Prop} [Decidable P] [Decidable Q] (hp : P) (hq : ¬ Q) : zGo P Q = 2 := by unfold zGo; rw [if_pos hp, if_neg hq]
set_option maxHeartbeats 4000000 in
set_option maxRecDepth 100000 in
theorem met_X6_goes (l : Launch) (D : va_G) (cs : Nat → ClassId) (o : Nat → Nat) (sz : Nat) (A S T : Int → Int) (xsm xth xam : Int) (f : Int → Int) (xtl xpl : Int) (g : Int → Int) (xp xq : Prop) [Decidable xp] [Decidable xq]  : Met l yX6_goes wsX6_goes ({ frames := 0, cells := 0, slots := 0, locals := 0 }) (va_Pc [.ref (o 0), .int (zI (zB (xp))), .int (zI (zB (xq)))] (zPreZ D (zTy cs) (zmod cs o A S T xsm xth xam f xtl xpl g) sz)) (zQi D (zmod cs o A S T xsm xth xam f xtl xpl g) sz (zI (zB (xp ∧ xq))) (zmod cs o A S T xsm (zGo xp xq) xam f xtl xpl g)) 0 0 (va_A (zmod cs o A S T xsm xth xam f xtl xpl g) sz) := by
  refine Met.ofW (cc := cX6_goes) (maxL := 3) (ret := (some .boolean)) (by decide) rfl ?_
  intro p e s m args below meth c s₁ B hml hv
  obtain ⟨rfl, hsz, hP, hK, hD0, hN⟩ := hv
  have hx := B.exec
  have hb := B.bytes
  have hr := B.returns
  have hts := atoms_spec (ws := wsX6_goes) B.pre
  have hown : s.vm.findClass RX6 = some m.cls := findClass_of_methodNamed B.named
  have hlocks := B.notSynchronized
  subst hsz
  obtain ⟨A0, hAe⟩ : ∃ A0, A0 = va_A (zmod cs o A S T xsm xth xam f xtl xpl g) s.heap.size := ⟨_, rfl⟩
  have hD := hD0.self (sz := s.heap.size)
  rw [← hAe] at hD
  have hA : ∀ q : Nat, s.heap.size ≤ q → A0 q := fun q h => by rw [hAe]; exact Or.inr h
  have hS : va_S A0 s.heap s.heap [] := va_S.rf
  have hP : va_P D vwCl (zmod cs o A S T xsm xth xam f xtl xpl g) s.heap := hP
  have hl := lv_entry ([.ref (o 0), .int (zI (zB (xp))), .int (zI (zB (xq)))]) (n := 3) (Nat.le_of_ble_eq_true rfl)
  rw [lg_entry_eq]
  generalize (lg_sl ([.ref (o 0), .int (zI (zB (xp))), .int (zI (zB (xq)))]) ++ List.replicate (3 - (lg_sl ([.ref (o 0), .int (zI (zB (xp))), .int (zI (zB (xq)))])).length) Slot.unset).toArray = ls at hl ⊢
  have hl : lv_has ls 3 [(0, .ref (o 0)), (1, .int (zI (zB (xp)))), (2, .int (zI (zB (xq))))] := hl
  have hiX6 : ∀ w ∈ wsX60, w ∈ wsX6_goes := by decide +kernel
  refine lv_aload_n hx hb dX6_goes_0 rfl (lv_at hl 0 rfl) ?_
  refine lv_iload_n hx hb dX6_goes_1 rfl (lv_at hl 1 rfl) ?_
  refine zr_ifb_ne (tgt := 9) hx hb dX6_goes_2 (by decide) (fun c1 => ?_) (fun c1 => ?_)
  · refine lv_iload_n hx hb dX6_goes_9 rfl (lv_at hl 2 rfl) ?_
    refine zr_ifb_ne (tgt := 17) hx hb dX6_goes_10 (by decide) (fun c2 => ?_) (fun c2 => ?_)
    · refine zr_iconst hx hb dX6_goes_17 ?_
      refine va_put (D := D) (ci := 6) (v := .int (zI 0)) (ty := .int) (C := RX6) (T := TX6) (N := 10) hx hb hts hiX6 tyX6 tyX6_ok nmX6 hown hK hP hD hS 0 rfl rfl 4 (by decide) (hts (.fieldLink RX6 86 "ChargeEstimatorModel" "thrown" "I") (List.mem_of_getElem? (i := 1) rfl)) (fun _ h9 => h9) rfl (by decide +kernel) rfl rfl (Nat.le_of_ble_eq_true rfl) dX6_goes_18 (fun H locs hP hD hS => ?_)
      have hP : va_P D vwCl (zmod cs o A S T xsm 0 xam f xtl xpl g) H := hP
      have hD : va_D A0 (zmod cs o A S T xsm 0 xam f xtl xpl g) := zD_addr hD rfl
      refine lv_aload_n hx hb dX6_goes_21 rfl (lv_at hl 0 rfl) ?_
      refine va_get (D := D) (ci := 6) (v := .int (zI 0)) (C := RX6) (T := TX6) (N := 10) hx hb hts hiX6 hown hK hP 0 rfl rfl 4 (by decide) (hts (.fieldLink RX6 86 "ChargeEstimatorModel" "thrown" "I") (List.mem_of_getElem? (i := 1) rfl)) (fun _ h9 => h9) rfl dX6_goes_22 ?_
      refine zr_if_ne (tgt := 32) hx hb dX6_goes_25 (by decide) (by decide) (fun c3 => ?_) (fun c3 => ?_)
      · exact absurd c3 (by decide)
      · refine zr_iconst hx hb dX6_goes_28 ?_
        refine lv_goto (tgt := 33) hx hb dX6_goes_29 (by decide) ?_
        have hP8 : va_P D vwCl (zmod cs o A S T xsm (zGo xp xq) xam f xtl xpl g) H := by first | (rw [zGo_1 (by assumption)]; exact hP) | (rw [zGo_0 (by assumption) (by assumption)]; exact hP) | (rw [zGo_2 (by assumption) (by assumption)]; exact hP)
        have hP9 : va_P D vwCl (zmod cs o A S T xsm (zGo xp xq) xam f xtl xpl g) H := hP8
        have hD9 : va_D A0 (zmod cs o A S T xsm (zGo xp xq) xam f xtl xpl g) := zD_addr hD rfl
        subst hAe
        exact W.zret hx hb hr (zbool_n (by first | decide | exact zB_r _)) (fun t ht hW => ⟨⟨_, (), rfl, (congrArg zI (show 1 = zB (xp ∧ xq) from by first | exact (zB_t ⟨by assumption, by assumption⟩).symm | exact (zB_f (fun h => absurd h.1 (by assumption))).symm | exact (zB_f (fun h => absurd h.2 (by assumption))).symm)), by rw [ht]; exact hP9, hD9⟩, hS.F ht⟩) hS.2.2 dX6_goes_33
    · refine zr_iconst hx hb dX6_goes_13 ?_
      refine lv_goto (tgt := 18) hx hb dX6_goes_14 (by decide) ?_
      refine va_put (D := D) (ci := 6) (v := .int (zI 2)) (ty := .int) (C := RX6) (T := TX6) (N := 10) hx hb hts hiX6 tyX6 tyX6_ok nmX6 hown hK hP hD hS 0 rfl rfl 4 (by decide) (hts (.fieldLink RX6 86 "ChargeEstimatorModel" "thrown" "I") (List.mem_of_getElem? (i := 1) rfl)) (fun _ h9 => h9) rfl (by decide +kernel) rfl rfl (Nat.le_of_ble_eq_true rfl) dX6_goes_18 (fun H locs hP hD hS => ?_)
      have hP : va_P D vwCl (zmod cs o A S T xsm 2 xam f xtl xpl g) H := hP
      have hD : va_D A0 (zmod cs o A S T xsm 2 xam f xtl xpl g) := zD_addr hD rfl
      refine lv_aload_n hx hb dX6_goes_21 rfl (lv_at hl 0 rfl) ?_
      refine va_get (D := D) (ci := 6) (v := .int (zI 2)) (C := RX6) (T := TX6) (N := 10) hx hb hts hiX6 hown hK hP 0 rfl rfl 4 (by decide) (hts (.fieldLink RX6 86 "ChargeEstimatorModel" "thrown" "I") (List.mem_of_getElem? (i := 1) rfl)) (fun _ h9 => h9) rfl dX6_goes_22 ?_
      refine zr_if_ne (tgt := 32) hx hb dX6_goes_25 (by decide) (by decide) (fun c4 => ?_) (fun c4 => ?_)
      · refine zr_iconst hx hb dX6_goes_32 ?_
        have hP8 : va_P D vwCl (zmod cs o A S T xsm (zGo xp xq) xam f xtl xpl g) H := by first | (rw [zGo_1 (by assumption)]; exact hP) | (rw [zGo_0 (by assumption) (by assumption)]; exact hP) | (rw [zGo_2 (by assumption) (by assumption)]; exact hP)
        have hP9 : va_P D vwCl (zmod cs o A S T xsm (zGo xp xq) xam f xtl xpl g) H := hP8
        have hD9 : va_D A0 (zmod cs o A S T xsm (zGo xp xq) xam f xtl xpl g) := zD_addr hD rfl
        subst hAe
        exact W.zret hx hb hr (zbool_n (by first | decide | exact zB_r _)) (fun t ht hW => ⟨⟨_, (), rfl, (congrArg zI (show 0 = zB (xp ∧ xq) from by first | exact (zB_t ⟨by assumption, by assumption⟩).symm | exact (zB_f (fun h => absurd h.1 (by assumption))).symm | exact (zB_f (fun h => absurd h.2 (by assumption))).symm)), by rw [ht]; exact hP9, hD9⟩, hS.F ht⟩) hS.2.2 dX6_goes_33
      · exact absurd c4 (by decide)
  · refine zr_iconst hx hb dX6_goes_5 ?_
    refine lv_goto (tgt := 18) hx hb dX6_goes_6 (by decide) ?_
    refine va_put (D := D) (ci := 6) (v := .int (zI 1)) (ty := .int) (C := RX6) (T := TX6) (N := 10) hx hb hts hiX6 tyX6 tyX6_ok nmX6 hown hK hP hD hS 0 rfl rfl 4 (by decide) (hts (.fieldLink RX6 86 "ChargeEstimatorModel" "thrown" "I") (List.mem_of_getElem? (i := 1) rfl)) (fun _ h9 => h9) rfl (by decide +kernel) rfl rfl (Nat.le_of_ble_eq_true rfl) dX6_goes_18 (fun H locs hP hD hS => ?_)
    have hP : va_P D vwCl (zmod cs o A S T xsm 1 xam f xtl xpl g) H := hP
    have hD : va_D A0 (zmod cs o A S T xsm 1 xam f xtl xpl g) := zD_addr hD rfl
    refine lv_aload_n hx hb dX6_goes_21 rfl (lv_at hl 0 rfl) ?_
    refine va_get (D := D) (ci := 6) (v := .int (zI 1)) (C := RX6) (T := TX6) (N := 10) hx hb hts hiX6 hown hK hP 0 rfl rfl 4 (by decide) (hts (.fieldLink RX6 86 "ChargeEstimatorModel" "thrown" "I") (List.mem_of_getElem? (i := 1) rfl)) (fun _ h9 => h9) rfl dX6_goes_22 ?_
    refine zr_if_ne (tgt := 32) hx hb dX6_goes_25 (by decide) (by decide) (fun c5 => ?_) (fun c5 => ?_)
    · refine zr_iconst hx hb dX6_goes_32 ?_
      have hP8 : va_P D vwCl (zmod cs o A S T xsm (zGo xp xq) xam f xtl xpl g) H := by first | (rw [zGo_1 (by assumption)]; exact hP) | (rw [zGo_0 (by assumption) (by assumption)]; exact hP) | (rw [zGo_2 (by assumption) (by assumption)]; exact hP)
      have hP9 : va_P D vwCl (zmod cs o A S T xsm (zGo xp xq) xam f xtl xpl g) H := hP8
      have hD9 : va_D A0 (zmod cs o A S T xsm (zGo xp xq) xam f xtl xpl g) := zD_addr hD rfl
      subst hAe
      exact W.zret hx hb hr (zbool_n (by first | decide | exact zB_r _)) (fun t ht hW => ⟨⟨_, (), rfl, (congrArg zI (show 0 = zB (xp ∧ xq) from by first | exact (zB_t ⟨by assumption, by assumption⟩).symm | exact (zB_f (fun h => absurd h.1 (by assumption))).symm | exact (zB_f (fun h => absurd h.2 (by assumption))).symm)), by rw [ht]; exact hP9, hD9⟩, hS.F ht⟩) hS.2.2 dX6_goes_33
    · exact absurd c5 (by decide)
set_option maxHeartbeats 4000000 in
set_option maxRecDepth 100000 in
theorem met_X6_thrown (l : Launch) (D : va_G) (cs : Nat → ClassId) (o : Nat → Nat) (A S T : Int → Int) (xsm xth xam : Int) (f : Int → Int) (xtl xpl : Int) (g : Int → Int)  : Met l yX6_thrown wsX6_thrown ({ frames := 0, cells := 0, slots := 0, locals := 0 }) (va_Pc [.ref (o 0)] (zPre D (zTy cs) (zmod cs o A S T xsm xth xam f xtl xpl g))) (zRi (zI (xth))) 0 0 (fun _ => False) := by
  refine Met.ofW (cc := cX6_thrown) (maxL := 1) (ret := (some .int)) (by decide) rfl ?_
  intro p e s m args below meth c s₁ B hml hv
  obtain ⟨rfl, hP, hK, hD0, hN⟩ := hv
  have hx := B.exec
  have hb := B.bytes
  have hr := B.returns
  have hts := atoms_spec (ws := wsX6_thrown) B.pre
  have hown : s.vm.findClass RX6 = some m.cls := findClass_of_methodNamed B.named
  have hlocks := B.notSynchronized
  have hD := hD0
  have hl := lv_entry ([.ref (o 0)]) (n := 1) (Nat.le_of_ble_eq_true rfl)
  rw [lg_entry_eq]
  generalize (lg_sl ([.ref (o 0)]) ++ List.replicate (1 - (lg_sl ([.ref (o 0)])).length) Slot.unset).toArray = ls at hl ⊢
  have hl : lv_has ls 1 [(0, .ref (o 0))] := hl
  have hiX6 : ∀ w ∈ wsX60, w ∈ wsX6_thrown := by decide +kernel
  refine lv_aload_n hx hb dX6_thrown_0 rfl (lv_at hl 0 rfl) ?_
  refine va_get (D := D) (ci := 6) (v := .int (zI xth)) (C := RX6) (T := TX6) (N := 10) hx hb hts hiX6 hown hK hP 0 rfl rfl 4 (by decide) (hts (.fieldLink RX6 86 "ChargeEstimatorModel" "thrown" "I") (List.mem_of_getElem? (i := 1) rfl)) (fun _ h9 => h9) rfl dX6_thrown_1 ?_
  exact W.iret hx hb hr (fun t ht hW => ⟨_, rfl, (congrArg zI (show xth = xth from by rfl)), ht⟩) (fun q hq => absurd hq List.not_mem_nil) dX6_thrown_4
set_option maxHeartbeats 4000000 in
set_option maxRecDepth 100000 in
theorem met_X6_value_ok (l : Launch) (D : va_G) (cs : Nat → ClassId) (o : Nat → Nat) (sz : Nat) (A S T : Int → Int) (xsm xth xam : Int) (f : Int → Int) (xtl xpl : Int) (g : Int → Int) (xw : Int) (rxw : -2147483648 ≤ xw ∧ xw ≤ 2147483647) (kok : 0 ≤ xw ∧ xw ≤ 11) : Met l yX6_value wsX6_value ({ frames := 1, cells := 0, slots := 0, locals := 25 }) (va_Pc [.ref (o 0), .int (zI xw)] (zPreZ D (zTy cs) (zmod cs o A S T xsm xth xam f xtl xpl g) sz)) (zQi D (zmod cs o A S T xsm xth xam f xtl xpl g) sz (zI (A xw)) (zmod cs o A S T xsm 0 xam f xtl xpl g)) 0 0 (va_A (zmod cs o A S T xsm xth xam f xtl xpl g) sz) := by
  refine Met.ofW (cc := cX6_value) (maxL := 2) (ret := (some .int)) (by decide) rfl ?_
  intro p e s m args below meth c s₁ B hml hv
  obtain ⟨rfl, hsz, hP, hK, hD0, hN⟩ := hv
  have hx := B.exec
  have hb := B.bytes
  have hr := B.returns
  have hts := atoms_spec (ws := wsX6_value) B.pre
  have hown : s.vm.findClass RX6 = some m.cls := findClass_of_methodNamed B.named
  have hlocks := B.notSynchronized
  subst hsz
  obtain ⟨A0, hAe⟩ : ∃ A0, A0 = va_A (zmod cs o A S T xsm xth xam f xtl xpl g) s.heap.size := ⟨_, rfl⟩
  have hD := hD0.self (sz := s.heap.size)
  rw [← hAe] at hD
  have hA : ∀ q : Nat, s.heap.size ≤ q → A0 q := fun q h => by rw [hAe]; exact Or.inr h
  have hS : va_S A0 s.heap s.heap [] := va_S.rf
  have hP : va_P D vwCl (zmod cs o A S T xsm xth xam f xtl xpl g) s.heap := hP
  have hl := lv_entry ([.ref (o 0), .int (zI xw)]) (n := 2) (Nat.le_of_ble_eq_true rfl)
  rw [lg_entry_eq]
  generalize (lg_sl ([.ref (o 0), .int (zI xw)]) ++ List.replicate (2 - (lg_sl ([.ref (o 0), .int (zI xw)])).length) Slot.unset).toArray = ls at hl ⊢
  have hl : lv_has ls 2 [(0, .ref (o 0)), (1, .int (zI xw))] := hl
  have hiX6 : ∀ w ∈ wsX60, w ∈ wsX6_value := by decide +kernel
  refine lv_aload_n hx hb dX6_value_0 rfl (lv_at hl 0 rfl) ?_
  refine lv_iload_n hx hb dX6_value_1 rfl (lv_at hl 1 rfl) ?_
  refine zr_i2l hx hb dX6_value_2 (by omega) ?_
  refine zr_lconst0 hx hb dX6_value_3 ?_
  refine zr_ldc2 (n := 11) hx hb hown (hts (.constantLong RX6 122 (11)) (List.mem_of_getElem? (i := 1) rfl)) rfl dX6_value_4 ?_
  refine zc_ri (va_runS (As := [.long (zL xw), .long (zL 0), .long (zL 11)]) (rest := [.ref (o 0)]) ⟨hx, hb, hml, hown, hts⟩ (met_X6_in l xw 0 11 (by first | assumption | omega) (by first | assumption | omega) (by first | assumption | omega)) (va_cwS 3 hts gX6_value_X6_in rfl rfl rfl (by decide +kernel) ⟨Nat.le_of_ble_eq_true rfl, Nat.le_of_ble_eq_true rfl⟩) ⟨zTrue.blind, fun U hU hW => ⟨rfl, trivial⟩⟩ rfl rfl hl.1 rfl (lv_room (Nat.le_of_ble_eq_true rfl)) dX6_value_7 ⟨Nat.le_of_ble_eq_true rfl, Nat.le_of_ble_eq_true rfl⟩) ?_
  refine zr_iconst hx hb dX6_value_10 ?_
  refine zc_i (va_runV (As := [.int (zI (zB (0 ≤ xw ∧ xw ≤ 11))), .int (zI 1)]) (rest := []) ⟨hx, hb, hml, hown, hts⟩ (met_X6_goes l D cs o s.heap.size A S T xsm xth xam f xtl xpl g (0 ≤ xw ∧ xw ≤ 11) True ) (cwV 2 hts gX6_value_X6_goes rfl rfl rfl (by decide +kernel) ⟨Nat.le_of_ble_eq_true rfl, Nat.le_of_ble_eq_true rfl⟩) ⟨zPreZ.blind, va_recv hK hP (ci := 6) (q0 := 0) rfl rfl, fun U hU hW => zp_Z hP hK hD hN hU hW⟩ rfl rfl hl.1 rfl (lv_room (Nat.le_of_ble_eq_true rfl)) dX6_value_11 ⟨Nat.le_of_ble_eq_true rfl, Nat.le_of_ble_eq_true rfl⟩) hS hD hA (fun H locs hP hD hS => ?_)
  have hP : va_P D vwCl (zmod cs o A S T xsm 0 xam f xtl xpl g) H := by rw [show zGo (0 ≤ xw ∧ xw ≤ 11) True = 0 from zGo_0 (by first | trivial | omega | (simp only [not_true, not_false_eq_true]) | (intro h; omega)) (by first | trivial | omega | (simp only [not_true, not_false_eq_true]) | (intro h; omega))] at hP; exact hP
  have hD : va_D A0 (zmod cs o A S T xsm 0 xam f xtl xpl g) := zD_addr hD rfl
  refine zr_ifb_eq (tgt := 29) hx hb dX6_value_14 (by decide) (fun c1 => ?_) (fun c1 => ?_)
  · exfalso; first | omega | (simp only [and_true, true_and] at c1; omega) | exact c1.2.elim
  · refine lv_aload_n hx hb dX6_value_17 rfl (lv_at hl 0 rfl) ?_
    refine va_get (D := D) (ci := 6) (v := .ref (o 1)) (C := RX6) (T := TX6) (N := 10) hx hb hts hiX6 hown hK hP 0 rfl rfl 0 (by decide) (hts (.fieldLink RX6 7 "ChargeEstimatorModel" "all" "[J") (List.mem_of_getElem? (i := 2) rfl)) (fun _ h9 => h9) rfl dX6_value_18 ?_
    refine zr_iconst hx hb dX6_value_21 ?_
    refine lv_iload_n hx hb dX6_value_22 rfl (lv_at hl 1 rfl) ?_
    refine zr_iadd hx hb dX6_value_23 ?_
    refine zr_lald (D := D) (g := A) hx hb hK hP 1 2 rfl rfl (by decide) (by omega) dX6_value_24 ?_
    refine zr_l2i hx hb dX6_value_25 ?_
    refine lv_goto (tgt := 30) hx hb dX6_value_26 (by decide) ?_
    have hP9 : va_P D vwCl (zmod cs o A S T xsm 0 xam f xtl xpl g) H := hP
    have hD9 : va_D A0 (zmod cs o A S T xsm 0 xam f xtl xpl g) := zD_addr hD rfl
    subst hAe
    exact W.iret hx hb hr (fun t ht hW => ⟨⟨_, (), rfl, (congrArg zI (show A (0 + xw) = A xw from by congr 1; omega)), by rw [ht]; exact hP9, hD9⟩, hS.F ht⟩) hS.2.2 dX6_value_30
set_option maxHeartbeats 4000000 in
set_option maxRecDepth 100000 in
theorem met_X6_value_no1 (l : Launch) (D : va_G) (cs : Nat → ClassId) (o : Nat → Nat) (sz : Nat) (A S T : Int → Int) (xsm xth xam : Int) (f : Int → Int) (xtl xpl : Int) (g : Int → Int) (xw : Int) (rxw : -2147483648 ≤ xw ∧ xw ≤ 2147483647) (kno : ¬ (0 ≤ xw ∧ xw ≤ 11)) : Met l yX6_value wsX6_value ({ frames := 1, cells := 0, slots := 0, locals := 25 }) (va_Pc [.ref (o 0), .int (zI xw)] (zPreZ D (zTy cs) (zmod cs o A S T xsm xth xam f xtl xpl g) sz)) (zQi D (zmod cs o A S T xsm xth xam f xtl xpl g) sz (zI (0)) (zmod cs o A S T xsm 1 xam f xtl xpl g)) 0 0 (va_A (zmod cs o A S T xsm xth xam f xtl xpl g) sz) := by
  refine Met.ofW (cc := cX6_value) (maxL := 2) (ret := (some .int)) (by decide) rfl ?_
  intro p e s m args below meth c s₁ B hml hv
  obtain ⟨rfl, hsz, hP, hK, hD0, hN⟩ := hv
  have hx := B.exec
  have hb := B.bytes
  have hr := B.returns
  have hts := atoms_spec (ws := wsX6_value) B.pre
  have hown : s.vm.findClass RX6 = some m.cls := findClass_of_methodNamed B.named
  have hlocks := B.notSynchronized
  subst hsz
  obtain ⟨A0, hAe⟩ : ∃ A0, A0 = va_A (zmod cs o A S T xsm xth xam f xtl xpl g) s.heap.size := ⟨_, rfl⟩
  have hD := hD0.self (sz := s.heap.size)
  rw [← hAe] at hD
  have hA : ∀ q : Nat, s.heap.size ≤ q → A0 q := fun q h => by rw [hAe]; exact Or.inr h
  have hS : va_S A0 s.heap s.heap [] := va_S.rf
  have hP : va_P D vwCl (zmod cs o A S T xsm xth xam f xtl xpl g) s.heap := hP
  have hl := lv_entry ([.ref (o 0), .int (zI xw)]) (n := 2) (Nat.le_of_ble_eq_true rfl)
  rw [lg_entry_eq]
  generalize (lg_sl ([.ref (o 0), .int (zI xw)]) ++ List.replicate (2 - (lg_sl ([.ref (o 0), .int (zI xw)])).length) Slot.unset).toArray = ls at hl ⊢
  have hl : lv_has ls 2 [(0, .ref (o 0)), (1, .int (zI xw))] := hl
  refine lv_aload_n hx hb dX6_value_0 rfl (lv_at hl 0 rfl) ?_
  refine lv_iload_n hx hb dX6_value_1 rfl (lv_at hl 1 rfl) ?_
  refine zr_i2l hx hb dX6_value_2 (by omega) ?_
  refine zr_lconst0 hx hb dX6_value_3 ?_
  refine zr_ldc2 (n := 11) hx hb hown (hts (.constantLong RX6 122 (11)) (List.mem_of_getElem? (i := 1) rfl)) rfl dX6_value_4 ?_
  refine zc_ri (va_runS (As := [.long (zL xw), .long (zL 0), .long (zL 11)]) (rest := [.ref (o 0)]) ⟨hx, hb, hml, hown, hts⟩ (met_X6_in l xw 0 11 (by first | assumption | omega) (by first | assumption | omega) (by first | assumption | omega)) (va_cwS 3 hts gX6_value_X6_in rfl rfl rfl (by decide +kernel) ⟨Nat.le_of_ble_eq_true rfl, Nat.le_of_ble_eq_true rfl⟩) ⟨zTrue.blind, fun U hU hW => ⟨rfl, trivial⟩⟩ rfl rfl hl.1 rfl (lv_room (Nat.le_of_ble_eq_true rfl)) dX6_value_7 ⟨Nat.le_of_ble_eq_true rfl, Nat.le_of_ble_eq_true rfl⟩) ?_
  refine zr_iconst hx hb dX6_value_10 ?_
  refine zc_i (va_runV (As := [.int (zI (zB (0 ≤ xw ∧ xw ≤ 11))), .int (zI 1)]) (rest := []) ⟨hx, hb, hml, hown, hts⟩ (met_X6_goes l D cs o s.heap.size A S T xsm xth xam f xtl xpl g (0 ≤ xw ∧ xw ≤ 11) True ) (cwV 2 hts gX6_value_X6_goes rfl rfl rfl (by decide +kernel) ⟨Nat.le_of_ble_eq_true rfl, Nat.le_of_ble_eq_true rfl⟩) ⟨zPreZ.blind, va_recv hK hP (ci := 6) (q0 := 0) rfl rfl, fun U hU hW => zp_Z hP hK hD hN hU hW⟩ rfl rfl hl.1 rfl (lv_room (Nat.le_of_ble_eq_true rfl)) dX6_value_11 ⟨Nat.le_of_ble_eq_true rfl, Nat.le_of_ble_eq_true rfl⟩) hS hD hA (fun H locs hP hD hS => ?_)
  have hP : va_P D vwCl (zmod cs o A S T xsm 1 xam f xtl xpl g) H := by rw [show zGo (0 ≤ xw ∧ xw ≤ 11) True = 1 from zGo_1 (by first | trivial | omega | (simp only [not_true, not_false_eq_true]) | (intro h; omega))] at hP; exact hP
  have hD : va_D A0 (zmod cs o A S T xsm 1 xam f xtl xpl g) := zD_addr hD rfl
  refine zr_ifb_eq (tgt := 29) hx hb dX6_value_14 (by decide) (fun c1 => ?_) (fun c1 => ?_)
  · refine zr_iconst hx hb dX6_value_29 ?_
    have hP9 : va_P D vwCl (zmod cs o A S T xsm 1 xam f xtl xpl g) H := hP
    have hD9 : va_D A0 (zmod cs o A S T xsm 1 xam f xtl xpl g) := zD_addr hD rfl
    subst hAe
    exact W.iret hx hb hr (fun t ht hW => ⟨⟨_, (), rfl, (congrArg zI (show 0 = 0 from by rfl)), by rw [ht]; exact hP9, hD9⟩, hS.F ht⟩) hS.2.2 dX6_value_30
  · exfalso; first | omega | (simp only [and_true, true_and] at c1; omega) | exact c1.2.elim
set_option maxHeartbeats 4000000 in
set_option maxRecDepth 100000 in
theorem met_X6_charge_ok (l : Launch) (D : va_G) (cs : Nat → ClassId) (o : Nat → Nat) (sz : Nat) (A S T : Int → Int) (xsm xth xam : Int) (f : Int → Int) (xtl xpl : Int) (g : Int → Int) (xw : Int) (rxw : -2147483648 ≤ xw ∧ xw ≤ 2147483647) (kok : 0 ≤ xw ∧ xw ≤ 6) : Met l yX6_charge wsX6_charge ({ frames := 1, cells := 0, slots := 0, locals := 25 }) (va_Pc [.ref (o 0), .int (zI xw)] (zPreZ D (zTy cs) (zmod cs o A S T xsm xth xam f xtl xpl g) sz)) (zQl D (zmod cs o A S T xsm xth xam f xtl xpl g) sz (zL (A (34 + xw))) (zmod cs o A S T xsm 0 xam f xtl xpl g)) 0 0 (va_A (zmod cs o A S T xsm xth xam f xtl xpl g) sz) := by
  refine Met.ofW (cc := cX6_charge) (maxL := 2) (ret := (some .long)) (by decide) rfl ?_
  intro p e s m args below meth c s₁ B hml hv
  obtain ⟨rfl, hsz, hP, hK, hD0, hN⟩ := hv
  have hx := B.exec
  have hb := B.bytes
  have hr := B.returns
  have hts := atoms_spec (ws := wsX6_charge) B.pre
  have hown : s.vm.findClass RX6 = some m.cls := findClass_of_methodNamed B.named
  have hlocks := B.notSynchronized
  subst hsz
  obtain ⟨A0, hAe⟩ : ∃ A0, A0 = va_A (zmod cs o A S T xsm xth xam f xtl xpl g) s.heap.size := ⟨_, rfl⟩
  have hD := hD0.self (sz := s.heap.size)
  rw [← hAe] at hD
  have hA : ∀ q : Nat, s.heap.size ≤ q → A0 q := fun q h => by rw [hAe]; exact Or.inr h
  have hS : va_S A0 s.heap s.heap [] := va_S.rf
  have hP : va_P D vwCl (zmod cs o A S T xsm xth xam f xtl xpl g) s.heap := hP
  have hl := lv_entry ([.ref (o 0), .int (zI xw)]) (n := 2) (Nat.le_of_ble_eq_true rfl)
  rw [lg_entry_eq]
  generalize (lg_sl ([.ref (o 0), .int (zI xw)]) ++ List.replicate (2 - (lg_sl ([.ref (o 0), .int (zI xw)])).length) Slot.unset).toArray = ls at hl ⊢
  have hl : lv_has ls 2 [(0, .ref (o 0)), (1, .int (zI xw))] := hl
  have hiX6 : ∀ w ∈ wsX60, w ∈ wsX6_charge := by decide +kernel
  refine lv_aload_n hx hb dX6_charge_0 rfl (lv_at hl 0 rfl) ?_
  refine lv_iload_n hx hb dX6_charge_1 rfl (lv_at hl 1 rfl) ?_
  refine zr_i2l hx hb dX6_charge_2 (by omega) ?_
  refine zr_lconst0 hx hb dX6_charge_3 ?_
  refine zr_ldc2 (n := 6) hx hb hown (hts (.constantLong RX6 214 (6)) (List.mem_of_getElem? (i := 1) rfl)) rfl dX6_charge_4 ?_
  refine zc_ri (va_runS (As := [.long (zL xw), .long (zL 0), .long (zL 6)]) (rest := [.ref (o 0)]) ⟨hx, hb, hml, hown, hts⟩ (met_X6_in l xw 0 6 (by first | assumption | omega) (by first | assumption | omega) (by first | assumption | omega)) (va_cwS 3 hts gX6_charge_X6_in rfl rfl rfl (by decide +kernel) ⟨Nat.le_of_ble_eq_true rfl, Nat.le_of_ble_eq_true rfl⟩) ⟨zTrue.blind, fun U hU hW => ⟨rfl, trivial⟩⟩ rfl rfl hl.1 rfl (lv_room (Nat.le_of_ble_eq_true rfl)) dX6_charge_7 ⟨Nat.le_of_ble_eq_true rfl, Nat.le_of_ble_eq_true rfl⟩) ?_
  refine zr_iconst hx hb dX6_charge_10 ?_
  refine zc_i (va_runV (As := [.int (zI (zB (0 ≤ xw ∧ xw ≤ 6))), .int (zI 1)]) (rest := []) ⟨hx, hb, hml, hown, hts⟩ (met_X6_goes l D cs o s.heap.size A S T xsm xth xam f xtl xpl g (0 ≤ xw ∧ xw ≤ 6) True ) (cwV 2 hts gX6_charge_X6_goes rfl rfl rfl (by decide +kernel) ⟨Nat.le_of_ble_eq_true rfl, Nat.le_of_ble_eq_true rfl⟩) ⟨zPreZ.blind, va_recv hK hP (ci := 6) (q0 := 0) rfl rfl, fun U hU hW => zp_Z hP hK hD hN hU hW⟩ rfl rfl hl.1 rfl (lv_room (Nat.le_of_ble_eq_true rfl)) dX6_charge_11 ⟨Nat.le_of_ble_eq_true rfl, Nat.le_of_ble_eq_true rfl⟩) hS hD hA (fun H locs hP hD hS => ?_)
  have hP : va_P D vwCl (zmod cs o A S T xsm 0 xam f xtl xpl g) H := by rw [show zGo (0 ≤ xw ∧ xw ≤ 6) True = 0 from zGo_0 (by first | trivial | omega | (simp only [not_true, not_false_eq_true]) | (intro h; omega)) (by first | trivial | omega | (simp only [not_true, not_false_eq_true]) | (intro h; omega))] at hP; exact hP
  have hD : va_D A0 (zmod cs o A S T xsm 0 xam f xtl xpl g) := zD_addr hD rfl
  refine zr_ifb_eq (tgt := 29) hx hb dX6_charge_14 (by decide) (fun c1 => ?_) (fun c1 => ?_)
  · exfalso; first | omega | (simp only [and_true, true_and] at c1; omega) | exact c1.2.elim
  · refine lv_aload_n hx hb dX6_charge_17 rfl (lv_at hl 0 rfl) ?_
    refine va_get (D := D) (ci := 6) (v := .ref (o 1)) (C := RX6) (T := TX6) (N := 10) hx hb hts hiX6 hown hK hP 0 rfl rfl 0 (by decide) (hts (.fieldLink RX6 7 "ChargeEstimatorModel" "all" "[J") (List.mem_of_getElem? (i := 2) rfl)) (fun _ h9 => h9) rfl dX6_charge_18 ?_
    refine zr_bipush hx hb dX6_charge_21 (by decide) ?_
    refine lv_iload_n hx hb dX6_charge_23 rfl (lv_at hl 1 rfl) ?_
    refine zr_iadd hx hb dX6_charge_24 ?_
    refine zr_lald (D := D) (g := A) hx hb hK hP 1 2 rfl rfl (by decide) (by omega) dX6_charge_25 ?_
    refine lv_goto (tgt := 30) hx hb dX6_charge_26 (by decide) ?_
    have hP9 : va_P D vwCl (zmod cs o A S T xsm 0 xam f xtl xpl g) H := hP
    have hD9 : va_D A0 (zmod cs o A S T xsm 0 xam f xtl xpl g) := zD_addr hD rfl
    subst hAe
    exact W.lret hx hb hr (fun t ht hW => ⟨⟨_, (), rfl, (congrArg zL (show A (34 + xw) = A (34 + xw) from by rfl)), by rw [ht]; exact hP9, hD9⟩, hS.F ht⟩) hS.2.2 dX6_charge_30
set_option maxHeartbeats 4000000 in
set_option maxRecDepth 100000 in
theorem met_X6_charge_no1 (l : Launch) (D : va_G) (cs : Nat → ClassId) (o : Nat → Nat) (sz : Nat) (A S T : Int → Int) (xsm xth xam : Int) (f : Int → Int) (xtl xpl : Int) (g : Int → Int) (xw : Int) (rxw : -2147483648 ≤ xw ∧ xw ≤ 2147483647) (kno : ¬ (0 ≤ xw ∧ xw ≤ 6)) : Met l yX6_charge wsX6_charge ({ frames := 1, cells := 0, slots := 0, locals := 25 }) (va_Pc [.ref (o 0), .int (zI xw)] (zPreZ D (zTy cs) (zmod cs o A S T xsm xth xam f xtl xpl g) sz)) (zQl D (zmod cs o A S T xsm xth xam f xtl xpl g) sz (zL (0)) (zmod cs o A S T xsm 1 xam f xtl xpl g)) 0 0 (va_A (zmod cs o A S T xsm xth xam f xtl xpl g) sz) := by
  refine Met.ofW (cc := cX6_charge) (maxL := 2) (ret := (some .long)) (by decide) rfl ?_
  intro p e s m args below meth c s₁ B hml hv
  obtain ⟨rfl, hsz, hP, hK, hD0, hN⟩ := hv
  have hx := B.exec
  have hb := B.bytes
  have hr := B.returns
  have hts := atoms_spec (ws := wsX6_charge) B.pre
  have hown : s.vm.findClass RX6 = some m.cls := findClass_of_methodNamed B.named
  have hlocks := B.notSynchronized
  subst hsz
  obtain ⟨A0, hAe⟩ : ∃ A0, A0 = va_A (zmod cs o A S T xsm xth xam f xtl xpl g) s.heap.size := ⟨_, rfl⟩
  have hD := hD0.self (sz := s.heap.size)
  rw [← hAe] at hD
  have hA : ∀ q : Nat, s.heap.size ≤ q → A0 q := fun q h => by rw [hAe]; exact Or.inr h
  have hS : va_S A0 s.heap s.heap [] := va_S.rf
  have hP : va_P D vwCl (zmod cs o A S T xsm xth xam f xtl xpl g) s.heap := hP
  have hl := lv_entry ([.ref (o 0), .int (zI xw)]) (n := 2) (Nat.le_of_ble_eq_true rfl)
  rw [lg_entry_eq]
  generalize (lg_sl ([.ref (o 0), .int (zI xw)]) ++ List.replicate (2 - (lg_sl ([.ref (o 0), .int (zI xw)])).length) Slot.unset).toArray = ls at hl ⊢
  have hl : lv_has ls 2 [(0, .ref (o 0)), (1, .int (zI xw))] := hl
  refine lv_aload_n hx hb dX6_charge_0 rfl (lv_at hl 0 rfl) ?_
  refine lv_iload_n hx hb dX6_charge_1 rfl (lv_at hl 1 rfl) ?_
  refine zr_i2l hx hb dX6_charge_2 (by omega) ?_
  refine zr_lconst0 hx hb dX6_charge_3 ?_
  refine zr_ldc2 (n := 6) hx hb hown (hts (.constantLong RX6 214 (6)) (List.mem_of_getElem? (i := 1) rfl)) rfl dX6_charge_4 ?_
  refine zc_ri (va_runS (As := [.long (zL xw), .long (zL 0), .long (zL 6)]) (rest := [.ref (o 0)]) ⟨hx, hb, hml, hown, hts⟩ (met_X6_in l xw 0 6 (by first | assumption | omega) (by first | assumption | omega) (by first | assumption | omega)) (va_cwS 3 hts gX6_charge_X6_in rfl rfl rfl (by decide +kernel) ⟨Nat.le_of_ble_eq_true rfl, Nat.le_of_ble_eq_true rfl⟩) ⟨zTrue.blind, fun U hU hW => ⟨rfl, trivial⟩⟩ rfl rfl hl.1 rfl (lv_room (Nat.le_of_ble_eq_true rfl)) dX6_charge_7 ⟨Nat.le_of_ble_eq_true rfl, Nat.le_of_ble_eq_true rfl⟩) ?_
  refine zr_iconst hx hb dX6_charge_10 ?_
  refine zc_i (va_runV (As := [.int (zI (zB (0 ≤ xw ∧ xw ≤ 6))), .int (zI 1)]) (rest := []) ⟨hx, hb, hml, hown, hts⟩ (met_X6_goes l D cs o s.heap.size A S T xsm xth xam f xtl xpl g (0 ≤ xw ∧ xw ≤ 6) True ) (cwV 2 hts gX6_charge_X6_goes rfl rfl rfl (by decide +kernel) ⟨Nat.le_of_ble_eq_true rfl, Nat.le_of_ble_eq_true rfl⟩) ⟨zPreZ.blind, va_recv hK hP (ci := 6) (q0 := 0) rfl rfl, fun U hU hW => zp_Z hP hK hD hN hU hW⟩ rfl rfl hl.1 rfl (lv_room (Nat.le_of_ble_eq_true rfl)) dX6_charge_11 ⟨Nat.le_of_ble_eq_true rfl, Nat.le_of_ble_eq_true rfl⟩) hS hD hA (fun H locs hP hD hS => ?_)
  have hP : va_P D vwCl (zmod cs o A S T xsm 1 xam f xtl xpl g) H := by rw [show zGo (0 ≤ xw ∧ xw ≤ 6) True = 1 from zGo_1 (by first | trivial | omega | (simp only [not_true, not_false_eq_true]) | (intro h; omega))] at hP; exact hP
  have hD : va_D A0 (zmod cs o A S T xsm 1 xam f xtl xpl g) := zD_addr hD rfl
  refine zr_ifb_eq (tgt := 29) hx hb dX6_charge_14 (by decide) (fun c1 => ?_) (fun c1 => ?_)
  · refine zr_lconst0 hx hb dX6_charge_29 ?_
    have hP9 : va_P D vwCl (zmod cs o A S T xsm 1 xam f xtl xpl g) H := hP
    have hD9 : va_D A0 (zmod cs o A S T xsm 1 xam f xtl xpl g) := zD_addr hD rfl
    subst hAe
    exact W.lret hx hb hr (fun t ht hW => ⟨⟨_, (), rfl, (congrArg zL (show 0 = 0 from by rfl)), by rw [ht]; exact hP9, hD9⟩, hS.F ht⟩) hS.2.2 dX6_charge_30
  · exfalso; first | omega | (simp only [and_true, true_and] at c1; omega) | exact c1.2.elim
set_option maxHeartbeats 4000000 in
set_option maxRecDepth 100000 in
theorem met_X6_socOf (l : Launch) (D : va_G) (cs : Nat → ClassId) (o : Nat → Nat) (A S T : Int → Int) (xsm xth xam : Int) (f : Int → Int) (xtl xpl : Int) (g : Int → Int) (n : Int) (xw : Int) (hI : zOK n A) (hn : 0 ≤ n ∧ n ≤ 3100000) (kxw : 0 ≤ xw ∧ xw ≤ 2) : Met l yX6_socOf wsX6_socOf ({ frames := 0, cells := 0, slots := 0, locals := 0 }) (va_Pc [.ref (o 0), .int (zI xw)] (zPre D (zTy cs) (zmod cs o A S T xsm xth xam f xtl xpl g))) (zRi (zI (A (34 + xw) * 10000 / A 37))) 0 0 (fun _ => False) := by
  refine Met.ofW (cc := cX6_socOf) (maxL := 2) (ret := (some .int)) (by decide) rfl ?_
  intro p e s m args below meth c s₁ B hml hv
  obtain ⟨rfl, hP, hK, hD0, hN⟩ := hv
  have hx := B.exec
  have hb := B.bytes
  have hr := B.returns
  have hts := atoms_spec (ws := wsX6_socOf) B.pre
  have hown : s.vm.findClass RX6 = some m.cls := findClass_of_methodNamed B.named
  have hlocks := B.notSynchronized
  have hD := hD0
  have hl := lv_entry ([.ref (o 0), .int (zI xw)]) (n := 2) (Nat.le_of_ble_eq_true rfl)
  rw [lg_entry_eq]
  generalize (lg_sl ([.ref (o 0), .int (zI xw)]) ++ List.replicate (2 - (lg_sl ([.ref (o 0), .int (zI xw)])).length) Slot.unset).toArray = ls at hl ⊢
  have hl : lv_has ls 2 [(0, .ref (o 0)), (1, .int (zI xw))] := hl
  have hiX6 : ∀ w ∈ wsX60, w ∈ wsX6_socOf := by decide +kernel
  obtain ⟨qN, qC, qQ, qL, qH, q40, q41, q42, q43, q44, q45, q46, q47, q48, q49, q50, q51, q52, qhad, qlast, qrow⟩ := zOK_q hI
  have hC := zOK_C hI
  have hv : 0 ≤ A (34 + xw) ∧ A (34 + xw) ≤ A 37 := by
    rcases (show xw = 0 ∨ xw = 1 ∨ xw = 2 by omega) with rfl | rfl | rfl
    · exact qQ
    · exact ⟨qL.1, Int.le_trans qL.2.1 qL.2.2⟩
    · exact ⟨Int.le_trans qL.1 qL.2.1, qL.2.2⟩
  refine lv_aload_n hx hb dX6_socOf_0 rfl (lv_at hl 0 rfl) ?_
  refine va_get (D := D) (ci := 6) (v := .ref (o 1)) (C := RX6) (T := TX6) (N := 10) hx hb hts hiX6 hown hK hP 0 rfl rfl 0 (by decide) (hts (.fieldLink RX6 7 "ChargeEstimatorModel" "all" "[J") (List.mem_of_getElem? (i := 1) rfl)) (fun _ h9 => h9) rfl dX6_socOf_1 ?_
  refine zr_bipush hx hb dX6_socOf_4 (by decide) ?_
  refine lv_iload_n hx hb dX6_socOf_6 rfl (lv_at hl 1 rfl) ?_
  refine zr_iadd hx hb dX6_socOf_7 ?_
  refine zr_lald (D := D) (g := A) hx hb hK hP 1 2 rfl rfl (by decide) (by omega) dX6_socOf_8 ?_
  refine zr_ldc2 (n := 10000) hx hb hown (hts (.constantLong RX6 93 (10000)) (List.mem_of_getElem? (i := 2) rfl)) rfl dX6_socOf_9 ?_
  refine zr_lmul hx hb dX6_socOf_12 ?_
  refine lv_aload_n hx hb dX6_socOf_13 rfl (lv_at hl 0 rfl) ?_
  refine va_get (D := D) (ci := 6) (v := .ref (o 1)) (C := RX6) (T := TX6) (N := 10) hx hb hts hiX6 hown hK hP 0 rfl rfl 0 (by decide) (hts (.fieldLink RX6 7 "ChargeEstimatorModel" "all" "[J") (List.mem_of_getElem? (i := 1) rfl)) (fun _ h9 => h9) rfl dX6_socOf_14 ?_
  refine zr_bipush hx hb dX6_socOf_17 (by decide) ?_
  refine zr_lald (D := D) (g := A) hx hb hK hP 1 2 rfl rfl (by decide) (by decide) dX6_socOf_19 ?_
  refine zr_ldiv hx hb dX6_socOf_20 (by omega) (by omega) ?_
  refine zr_l2i hx hb dX6_socOf_21 ?_
  exact W.iret hx hb hr (fun t ht hW => ⟨_, rfl, (congrArg zI (show ((A (34 + xw)) * 10000) / (A 37) = A (34 + xw) * 10000 / A 37 from by rfl)), ht⟩) (fun q hq => absurd hq List.not_mem_nil) dX6_socOf_22
set_option maxHeartbeats 4000000 in
set_option maxRecDepth 100000 in
theorem met_X6_soc_ok (l : Launch) (D : va_G) (cs : Nat → ClassId) (o : Nat → Nat) (sz : Nat) (A S T : Int → Int) (xsm xth xam : Int) (f : Int → Int) (xtl xpl : Int) (g : Int → Int) (n : Int) (xw : Int) (hI : zOK n A) (hn : 0 ≤ n ∧ n ≤ 3100000) (rxw : -2147483648 ≤ xw ∧ xw ≤ 2147483647) (kok : 0 ≤ xw ∧ xw ≤ 2) : Met l yX6_soc wsX6_soc ({ frames := 1, cells := 0, slots := 0, locals := 25 }) (va_Pc [.ref (o 0), .int (zI xw)] (zPreZ D (zTy cs) (zmod cs o A S T xsm xth xam f xtl xpl g) sz)) (zQi D (zmod cs o A S T xsm xth xam f xtl xpl g) sz (zI (A (34 + xw) * 10000 / A 37)) (zmod cs o A S T xsm 0 xam f xtl xpl g)) 0 0 (va_A (zmod cs o A S T xsm xth xam f xtl xpl g) sz) := by
  refine Met.ofW (cc := cX6_soc) (maxL := 2) (ret := (some .int)) (by decide) rfl ?_
  intro p e s m args below meth c s₁ B hml hv
  obtain ⟨rfl, hsz, hP, hK, hD0, hN⟩ := hv
  have hx := B.exec
  have hb := B.bytes
  have hr := B.returns
  have hts := atoms_spec (ws := wsX6_soc) B.pre
  have hown : s.vm.findClass RX6 = some m.cls := findClass_of_methodNamed B.named
  have hlocks := B.notSynchronized
  subst hsz
  obtain ⟨A0, hAe⟩ : ∃ A0, A0 = va_A (zmod cs o A S T xsm xth xam f xtl xpl g) s.heap.size := ⟨_, rfl⟩
  have hD := hD0.self (sz := s.heap.size)
  rw [← hAe] at hD
  have hA : ∀ q : Nat, s.heap.size ≤ q → A0 q := fun q h => by rw [hAe]; exact Or.inr h
  have hS : va_S A0 s.heap s.heap [] := va_S.rf
  have hP : va_P D vwCl (zmod cs o A S T xsm xth xam f xtl xpl g) s.heap := hP
  have hl := lv_entry ([.ref (o 0), .int (zI xw)]) (n := 2) (Nat.le_of_ble_eq_true rfl)
  rw [lg_entry_eq]
  generalize (lg_sl ([.ref (o 0), .int (zI xw)]) ++ List.replicate (2 - (lg_sl ([.ref (o 0), .int (zI xw)])).length) Slot.unset).toArray = ls at hl ⊢
  have hl : lv_has ls 2 [(0, .ref (o 0)), (1, .int (zI xw))] := hl
  refine lv_aload_n hx hb dX6_soc_0 rfl (lv_at hl 0 rfl) ?_
  refine lv_iload_n hx hb dX6_soc_1 rfl (lv_at hl 1 rfl) ?_
  refine zr_i2l hx hb dX6_soc_2 (by omega) ?_
  refine zr_lconst0 hx hb dX6_soc_3 ?_
  refine zr_ldc2 (n := 2) hx hb hown (hts (.constantLong RX6 36 (2)) (List.mem_of_getElem? (i := 1) rfl)) rfl dX6_soc_4 ?_
  refine zc_ri (va_runS (As := [.long (zL xw), .long (zL 0), .long (zL 2)]) (rest := [.ref (o 0)]) ⟨hx, hb, hml, hown, hts⟩ (met_X6_in l xw 0 2 (by first | assumption | omega) (by first | assumption | omega) (by first | assumption | omega)) (va_cwS 3 hts gX6_soc_X6_in rfl rfl rfl (by decide +kernel) ⟨Nat.le_of_ble_eq_true rfl, Nat.le_of_ble_eq_true rfl⟩) ⟨zTrue.blind, fun U hU hW => ⟨rfl, trivial⟩⟩ rfl rfl hl.1 rfl (lv_room (Nat.le_of_ble_eq_true rfl)) dX6_soc_7 ⟨Nat.le_of_ble_eq_true rfl, Nat.le_of_ble_eq_true rfl⟩) ?_
  refine zr_iconst hx hb dX6_soc_10 ?_
  refine zc_i (va_runV (As := [.int (zI (zB (0 ≤ xw ∧ xw ≤ 2))), .int (zI 1)]) (rest := []) ⟨hx, hb, hml, hown, hts⟩ (met_X6_goes l D cs o s.heap.size A S T xsm xth xam f xtl xpl g (0 ≤ xw ∧ xw ≤ 2) True ) (cwV 2 hts gX6_soc_X6_goes rfl rfl rfl (by decide +kernel) ⟨Nat.le_of_ble_eq_true rfl, Nat.le_of_ble_eq_true rfl⟩) ⟨zPreZ.blind, va_recv hK hP (ci := 6) (q0 := 0) rfl rfl, fun U hU hW => zp_Z hP hK hD hN hU hW⟩ rfl rfl hl.1 rfl (lv_room (Nat.le_of_ble_eq_true rfl)) dX6_soc_11 ⟨Nat.le_of_ble_eq_true rfl, Nat.le_of_ble_eq_true rfl⟩) hS hD hA (fun H locs hP hD hS => ?_)
  have hP : va_P D vwCl (zmod cs o A S T xsm 0 xam f xtl xpl g) H := by rw [show zGo (0 ≤ xw ∧ xw ≤ 2) True = 0 from zGo_0 (by first | trivial | omega | (simp only [not_true, not_false_eq_true]) | (intro h; omega)) (by first | trivial | omega | (simp only [not_true, not_false_eq_true]) | (intro h; omega))] at hP; exact hP
  have hD : va_D A0 (zmod cs o A S T xsm 0 xam f xtl xpl g) := zD_addr hD rfl
  refine zr_ifb_eq (tgt := 25) hx hb dX6_soc_14 (by decide) (fun c1 => ?_) (fun c1 => ?_)
  · exfalso; first | omega | (simp only [and_true, true_and] at c1; omega) | exact c1.2.elim
  · refine lv_aload_n hx hb dX6_soc_17 rfl (lv_at hl 0 rfl) ?_
    refine lv_iload_n hx hb dX6_soc_18 rfl (lv_at hl 1 rfl) ?_
    refine zc_ri (va_runV (As := [.int (zI xw)]) (rest := []) ⟨hx, hb, hml, hown, hts⟩ (met_X6_socOf l D cs o A S T xsm 0 xam f xtl xpl g _ xw (by assumption) (by assumption) (by first | assumption | omega)) (cwV 1 hts gX6_soc_X6_socOf rfl rfl rfl (by decide +kernel) ⟨Nat.le_of_ble_eq_true rfl, Nat.le_of_ble_eq_true rfl⟩) ⟨zPre.blind, va_recv hK hP (ci := 6) (q0 := 0) rfl rfl, fun U hU hW => zp_R hP hK hD hN hU hW⟩ rfl rfl hl.1 rfl (lv_room (Nat.le_of_ble_eq_true rfl)) dX6_soc_19 ⟨Nat.le_of_ble_eq_true rfl, Nat.le_of_ble_eq_true rfl⟩) ?_
    refine lv_goto (tgt := 26) hx hb dX6_soc_22 (by decide) ?_
    have hP9 : va_P D vwCl (zmod cs o A S T xsm 0 xam f xtl xpl g) H := hP
    have hD9 : va_D A0 (zmod cs o A S T xsm 0 xam f xtl xpl g) := zD_addr hD rfl
    subst hAe
    exact W.iret hx hb hr (fun t ht hW => ⟨⟨_, (), rfl, (congrArg zI (show A (34 + xw) * 10000 / A 37 = A (34 + xw) * 10000 / A 37 from by rfl)), by rw [ht]; exact hP9, hD9⟩, hS.F ht⟩) hS.2.2 dX6_soc_26
set_option maxHeartbeats 4000000 in
set_option maxRecDepth 100000 in
theorem met_X6_soc_no1 (l : Launch) (D : va_G) (cs : Nat → ClassId) (o : Nat → Nat) (sz : Nat) (A S T : Int → Int) (xsm xth xam : Int) (f : Int → Int) (xtl xpl : Int) (g : Int → Int) (xw : Int) (rxw : -2147483648 ≤ xw ∧ xw ≤ 2147483647) (kno : ¬ (0 ≤ xw ∧ xw ≤ 2)) : Met l yX6_soc wsX6_soc ({ frames := 1, cells := 0, slots := 0, locals := 25 }) (va_Pc [.ref (o 0), .int (zI xw)] (zPreZ D (zTy cs) (zmod cs o A S T xsm xth xam f xtl xpl g) sz)) (zQi D (zmod cs o A S T xsm xth xam f xtl xpl g) sz (zI (0)) (zmod cs o A S T xsm 1 xam f xtl xpl g)) 0 0 (va_A (zmod cs o A S T xsm xth xam f xtl xpl g) sz) := by
  refine Met.ofW (cc := cX6_soc) (maxL := 2) (ret := (some .int)) (by decide) rfl ?_
  intro p e s m args below meth c s₁ B hml hv
  obtain ⟨rfl, hsz, hP, hK, hD0, hN⟩ := hv
  have hx := B.exec
  have hb := B.bytes
  have hr := B.returns
  have hts := atoms_spec (ws := wsX6_soc) B.pre
  have hown : s.vm.findClass RX6 = some m.cls := findClass_of_methodNamed B.named
  have hlocks := B.notSynchronized
  subst hsz
  obtain ⟨A0, hAe⟩ : ∃ A0, A0 = va_A (zmod cs o A S T xsm xth xam f xtl xpl g) s.heap.size := ⟨_, rfl⟩
  have hD := hD0.self (sz := s.heap.size)
  rw [← hAe] at hD
  have hA : ∀ q : Nat, s.heap.size ≤ q → A0 q := fun q h => by rw [hAe]; exact Or.inr h
  have hS : va_S A0 s.heap s.heap [] := va_S.rf
  have hP : va_P D vwCl (zmod cs o A S T xsm xth xam f xtl xpl g) s.heap := hP
  have hl := lv_entry ([.ref (o 0), .int (zI xw)]) (n := 2) (Nat.le_of_ble_eq_true rfl)
  rw [lg_entry_eq]
  generalize (lg_sl ([.ref (o 0), .int (zI xw)]) ++ List.replicate (2 - (lg_sl ([.ref (o 0), .int (zI xw)])).length) Slot.unset).toArray = ls at hl ⊢
  have hl : lv_has ls 2 [(0, .ref (o 0)), (1, .int (zI xw))] := hl
  refine lv_aload_n hx hb dX6_soc_0 rfl (lv_at hl 0 rfl) ?_
  refine lv_iload_n hx hb dX6_soc_1 rfl (lv_at hl 1 rfl) ?_
  refine zr_i2l hx hb dX6_soc_2 (by omega) ?_
  refine zr_lconst0 hx hb dX6_soc_3 ?_
  refine zr_ldc2 (n := 2) hx hb hown (hts (.constantLong RX6 36 (2)) (List.mem_of_getElem? (i := 1) rfl)) rfl dX6_soc_4 ?_
  refine zc_ri (va_runS (As := [.long (zL xw), .long (zL 0), .long (zL 2)]) (rest := [.ref (o 0)]) ⟨hx, hb, hml, hown, hts⟩ (met_X6_in l xw 0 2 (by first | assumption | omega) (by first | assumption | omega) (by first | assumption | omega)) (va_cwS 3 hts gX6_soc_X6_in rfl rfl rfl (by decide +kernel) ⟨Nat.le_of_ble_eq_true rfl, Nat.le_of_ble_eq_true rfl⟩) ⟨zTrue.blind, fun U hU hW => ⟨rfl, trivial⟩⟩ rfl rfl hl.1 rfl (lv_room (Nat.le_of_ble_eq_true rfl)) dX6_soc_7 ⟨Nat.le_of_ble_eq_true rfl, Nat.le_of_ble_eq_true rfl⟩) ?_
  refine zr_iconst hx hb dX6_soc_10 ?_
  refine zc_i (va_runV (As := [.int (zI (zB (0 ≤ xw ∧ xw ≤ 2))), .int (zI 1)]) (rest := []) ⟨hx, hb, hml, hown, hts⟩ (met_X6_goes l D cs o s.heap.size A S T xsm xth xam f xtl xpl g (0 ≤ xw ∧ xw ≤ 2) True ) (cwV 2 hts gX6_soc_X6_goes rfl rfl rfl (by decide +kernel) ⟨Nat.le_of_ble_eq_true rfl, Nat.le_of_ble_eq_true rfl⟩) ⟨zPreZ.blind, va_recv hK hP (ci := 6) (q0 := 0) rfl rfl, fun U hU hW => zp_Z hP hK hD hN hU hW⟩ rfl rfl hl.1 rfl (lv_room (Nat.le_of_ble_eq_true rfl)) dX6_soc_11 ⟨Nat.le_of_ble_eq_true rfl, Nat.le_of_ble_eq_true rfl⟩) hS hD hA (fun H locs hP hD hS => ?_)
  have hP : va_P D vwCl (zmod cs o A S T xsm 1 xam f xtl xpl g) H := by rw [show zGo (0 ≤ xw ∧ xw ≤ 2) True = 1 from zGo_1 (by first | trivial | omega | (simp only [not_true, not_false_eq_true]) | (intro h; omega))] at hP; exact hP
  have hD : va_D A0 (zmod cs o A S T xsm 1 xam f xtl xpl g) := zD_addr hD rfl
  refine zr_ifb_eq (tgt := 25) hx hb dX6_soc_14 (by decide) (fun c1 => ?_) (fun c1 => ?_)
  · refine zr_iconst hx hb dX6_soc_25 ?_
    have hP9 : va_P D vwCl (zmod cs o A S T xsm 1 xam f xtl xpl g) H := hP
    have hD9 : va_D A0 (zmod cs o A S T xsm 1 xam f xtl xpl g) := zD_addr hD rfl
    subst hAe
    exact W.iret hx hb hr (fun t ht hW => ⟨⟨_, (), rfl, (congrArg zI (show 0 = 0 from by rfl)), by rw [ht]; exact hP9, hD9⟩, hS.F ht⟩) hS.2.2 dX6_soc_26
  · exfalso; first | omega | (simp only [and_true, true_and] at c1; omega) | exact c1.2.elim
set_option maxHeartbeats 4000000 in
set_option maxRecDepth 100000 in
theorem met_X6_statusNow (l : Launch) (D : va_G) (cs : Nat → ClassId) (o : Nat → Nat) (A S T : Int → Int) (xsm xth xam : Int) (f : Int → Int) (xtl xpl : Int) (g : Int → Int) (n : Int) (xw : Int) (hI : zOK n A) (hn : 0 ≤ n ∧ n ≤ 3100000) (kxw : 0 ≤ xw ∧ xw ≤ 5) : Met l yX6_statusNow wsX6_statusNow ({ frames := 2, cells := 0, slots := 0, locals := 40 }) (va_Pc [.ref (o 0), .int (zI xw)] (zPre D (zTy cs) (zmod cs o A S T xsm xth xam f xtl xpl g))) (zRi (zI (zStt A xw))) 0 0 (fun _ => False) := by
  refine Met.ofW (cc := cX6_statusNow) (maxL := 2) (ret := (some .int)) (by decide) rfl ?_
  intro p e s m args below meth c s₁ B hml hv
  obtain ⟨rfl, hP, hK, hD0, hN⟩ := hv
  have hx := B.exec
  have hb := B.bytes
  have hr := B.returns
  have hts := atoms_spec (ws := wsX6_statusNow) B.pre
  have hown : s.vm.findClass RX6 = some m.cls := findClass_of_methodNamed B.named
  have hlocks := B.notSynchronized
  have hD := hD0
  have hl := lv_entry ([.ref (o 0), .int (zI xw)]) (n := 2) (Nat.le_of_ble_eq_true rfl)
  rw [lg_entry_eq]
  generalize (lg_sl ([.ref (o 0), .int (zI xw)]) ++ List.replicate (2 - (lg_sl ([.ref (o 0), .int (zI xw)])).length) Slot.unset).toArray = ls at hl ⊢
  have hl : lv_has ls 2 [(0, .ref (o 0)), (1, .int (zI xw))] := hl
  have hiX6 : ∀ w ∈ wsX60, w ∈ wsX6_statusNow := by decide +kernel
  refine lv_iload_n hx hb dX6_statusNow_0 rfl (lv_at hl 1 rfl) ?_
  rcases (show xw = 0 ∨ xw = 1 ∨ xw = 2 ∨ xw = 3 ∨ xw = 4 ∨ (xw < 0 ∨ 4 < xw) by omega) with c1 | c1 | c1 | c1 | c1 | c1
  · refine zr_tsIn (tgt := 36) (off := 35) hx hb dX6_statusNow_1 c1 (by decide) (by decide) (by decide) rfl (by decide) ?_
    refine lv_aload_n hx hb dX6_statusNow_36 rfl (lv_at hl 0 rfl) ?_
    refine va_get (D := D) (ci := 6) (v := .ref (o 1)) (C := RX6) (T := TX6) (N := 10) hx hb hts hiX6 hown hK hP 0 rfl rfl 0 (by decide) (hts (.fieldLink RX6 7 "ChargeEstimatorModel" "all" "[J") (List.mem_of_getElem? (i := 1) rfl)) (fun _ h9 => h9) rfl dX6_statusNow_37 ?_
    refine zr_bipush hx hb dX6_statusNow_40 (by decide) ?_
    refine zr_lald (D := D) (g := A) hx hb hK hP 1 2 rfl rfl (by decide) (by decide) dX6_statusNow_42 ?_
    refine zr_l2i hx hb dX6_statusNow_43 ?_
    exact W.iret hx hb hr (fun t ht hW => ⟨_, rfl, (congrArg zI (show A 43 = zStt A xw from by unfold zStt; (repeat' split) <;> first | rfl | omega)), ht⟩) (fun q hq => absurd hq List.not_mem_nil) dX6_statusNow_44
  · refine zr_tsIn (tgt := 45) (off := 44) hx hb dX6_statusNow_1 c1 (by decide) (by decide) (by decide) rfl (by decide) ?_
    refine lv_aload_n hx hb dX6_statusNow_45 rfl (lv_at hl 0 rfl) ?_
    refine va_get (D := D) (ci := 6) (v := .ref (o 1)) (C := RX6) (T := TX6) (N := 10) hx hb hts hiX6 hown hK hP 0 rfl rfl 0 (by decide) (hts (.fieldLink RX6 7 "ChargeEstimatorModel" "all" "[J") (List.mem_of_getElem? (i := 1) rfl)) (fun _ h9 => h9) rfl dX6_statusNow_46 ?_
    refine zr_bipush hx hb dX6_statusNow_49 (by decide) ?_
    refine zr_lald (D := D) (g := A) hx hb hK hP 1 2 rfl rfl (by decide) (by decide) dX6_statusNow_51 ?_
    refine zr_l2i hx hb dX6_statusNow_52 ?_
    exact W.iret hx hb hr (fun t ht hW => ⟨_, rfl, (congrArg zI (show A 44 = zStt A xw from by unfold zStt; (repeat' split) <;> first | rfl | omega)), ht⟩) (fun q hq => absurd hq List.not_mem_nil) dX6_statusNow_53
  · refine zr_tsIn (tgt := 54) (off := 53) hx hb dX6_statusNow_1 c1 (by decide) (by decide) (by decide) rfl (by decide) ?_
    refine lv_aload_n hx hb dX6_statusNow_54 rfl (lv_at hl 0 rfl) ?_
    refine zc_rl (va_runV (As := []) (rest := []) ⟨hx, hb, hml, hown, hts⟩ (met_X6_hysteresis l D cs o A S T xsm xth xam f xtl xpl g _ (by assumption) (by assumption)) (cwV 0 hts gX6_statusNow_X6_hysteresis rfl rfl rfl (by decide +kernel) ⟨Nat.le_of_ble_eq_true rfl, Nat.le_of_ble_eq_true rfl⟩) ⟨zPre.blind, va_recv hK hP (ci := 6) (q0 := 0) rfl rfl, fun U hU hW => zp_R hP hK hD hN hU hW⟩ rfl rfl hl.1 rfl (lv_room (Nat.le_of_ble_eq_true rfl)) dX6_statusNow_55 ⟨Nat.le_of_ble_eq_true rfl, Nat.le_of_ble_eq_true rfl⟩) ?_
    refine zr_l2i hx hb dX6_statusNow_58 ?_
    exact W.iret hx hb hr (fun t ht hW => ⟨_, rfl, (congrArg zI (show zHys A = zStt A xw from by unfold zStt; (repeat' split) <;> first | rfl | omega)), ht⟩) (fun q hq => absurd hq List.not_mem_nil) dX6_statusNow_59
  · refine zr_tsIn (tgt := 60) (off := 59) hx hb dX6_statusNow_1 c1 (by decide) (by decide) (by decide) rfl (by decide) ?_
    refine lv_aload_n hx hb dX6_statusNow_60 rfl (lv_at hl 0 rfl) ?_
    refine va_get (D := D) (ci := 6) (v := .ref (o 1)) (C := RX6) (T := TX6) (N := 10) hx hb hts hiX6 hown hK hP 0 rfl rfl 0 (by decide) (hts (.fieldLink RX6 7 "ChargeEstimatorModel" "all" "[J") (List.mem_of_getElem? (i := 1) rfl)) (fun _ h9 => h9) rfl dX6_statusNow_61 ?_
    refine zr_bipush hx hb dX6_statusNow_64 (by decide) ?_
    refine zr_lald (D := D) (g := A) hx hb hK hP 1 2 rfl rfl (by decide) (by decide) dX6_statusNow_66 ?_
    refine zr_l2i hx hb dX6_statusNow_67 ?_
    exact W.iret hx hb hr (fun t ht hW => ⟨_, rfl, (congrArg zI (show A 50 = zStt A xw from by unfold zStt; (repeat' split) <;> first | rfl | omega)), ht⟩) (fun q hq => absurd hq List.not_mem_nil) dX6_statusNow_68
  · refine zr_tsIn (tgt := 69) (off := 68) hx hb dX6_statusNow_1 c1 (by decide) (by decide) (by decide) rfl (by decide) ?_
    refine lv_aload_n hx hb dX6_statusNow_69 rfl (lv_at hl 0 rfl) ?_
    refine va_get (D := D) (ci := 6) (v := .ref (o 1)) (C := RX6) (T := TX6) (N := 10) hx hb hts hiX6 hown hK hP 0 rfl rfl 0 (by decide) (hts (.fieldLink RX6 7 "ChargeEstimatorModel" "all" "[J") (List.mem_of_getElem? (i := 1) rfl)) (fun _ h9 => h9) rfl dX6_statusNow_70 ?_
    refine zr_bipush hx hb dX6_statusNow_73 (by decide) ?_
    refine zr_lald (D := D) (g := A) hx hb hK hP 1 2 rfl rfl (by decide) (by decide) dX6_statusNow_75 ?_
    refine zr_l2i hx hb dX6_statusNow_76 ?_
    exact W.iret hx hb hr (fun t ht hW => ⟨_, rfl, (congrArg zI (show A 51 = zStt A xw from by unfold zStt; (repeat' split) <;> first | rfl | omega)), ht⟩) (fun q hq => absurd hq List.not_mem_nil) dX6_statusNow_77
  · refine zr_tsOut (tgt := 78) hx hb dX6_statusNow_1 (by omega) c1 (by decide) ?_
    refine lv_aload_n hx hb dX6_statusNow_78 rfl (lv_at hl 0 rfl) ?_
    refine va_get (D := D) (ci := 6) (v := .ref (o 1)) (C := RX6) (T := TX6) (N := 10) hx hb hts hiX6 hown hK hP 0 rfl rfl 0 (by decide) (hts (.fieldLink RX6 7 "ChargeEstimatorModel" "all" "[J") (List.mem_of_getElem? (i := 1) rfl)) (fun _ h9 => h9) rfl dX6_statusNow_79 ?_
    refine zr_bipush hx hb dX6_statusNow_82 (by decide) ?_
    refine zr_lald (D := D) (g := A) hx hb hK hP 1 2 rfl rfl (by decide) (by decide) dX6_statusNow_84 ?_
    refine zr_l2i hx hb dX6_statusNow_85 ?_
    exact W.iret hx hb hr (fun t ht hW => ⟨_, rfl, (congrArg zI (show A 42 = zStt A xw from by unfold zStt; (repeat' split) <;> first | rfl | omega)), ht⟩) (fun q hq => absurd hq List.not_mem_nil) dX6_statusNow_86
set_option maxHeartbeats 4000000 in
set_option maxRecDepth 100000 in
theorem met_X6_status_ok (l : Launch) (D : va_G) (cs : Nat → ClassId) (o : Nat → Nat) (sz : Nat) (A S T : Int → Int) (xsm xth xam : Int) (f : Int → Int) (xtl xpl : Int) (g : Int → Int) (n : Int) (xw : Int) (hI : zOK n A) (hn : 0 ≤ n ∧ n ≤ 3100000) (rxw : -2147483648 ≤ xw ∧ xw ≤ 2147483647) (kok : 0 ≤ xw ∧ xw ≤ 5) : Met l yX6_status wsX6_status ({ frames := 3, cells := 0, slots := 0, locals := 61 }) (va_Pc [.ref (o 0), .int (zI xw)] (zPreZ D (zTy cs) (zmod cs o A S T xsm xth xam f xtl xpl g) sz)) (zQi D (zmod cs o A S T xsm xth xam f xtl xpl g) sz (zI (zStt A xw)) (zmod cs o A S T xsm 0 xam f xtl xpl g)) 0 0 (va_A (zmod cs o A S T xsm xth xam f xtl xpl g) sz) := by
  refine Met.ofW (cc := cX6_status) (maxL := 2) (ret := (some .int)) (by decide) rfl ?_
  intro p e s m args below meth c s₁ B hml hv
  obtain ⟨rfl, hsz, hP, hK, hD0, hN⟩ := hv
  have hx := B.exec
  have hb := B.bytes
  have hr := B.returns
  have hts := atoms_spec (ws := wsX6_status) B.pre
  have hown : s.vm.findClass RX6 = some m.cls := findClass_of_methodNamed B.named
  have hlocks := B.notSynchronized
  subst hsz
  obtain ⟨A0, hAe⟩ : ∃ A0, A0 = va_A (zmod cs o A S T xsm xth xam f xtl xpl g) s.heap.size := ⟨_, rfl⟩
  have hD := hD0.self (sz := s.heap.size)
  rw [← hAe] at hD
  have hA : ∀ q : Nat, s.heap.size ≤ q → A0 q := fun q h => by rw [hAe]; exact Or.inr h
  have hS : va_S A0 s.heap s.heap [] := va_S.rf
  have hP : va_P D vwCl (zmod cs o A S T xsm xth xam f xtl xpl g) s.heap := hP
  have hl := lv_entry ([.ref (o 0), .int (zI xw)]) (n := 2) (Nat.le_of_ble_eq_true rfl)
  rw [lg_entry_eq]
  generalize (lg_sl ([.ref (o 0), .int (zI xw)]) ++ List.replicate (2 - (lg_sl ([.ref (o 0), .int (zI xw)])).length) Slot.unset).toArray = ls at hl ⊢
  have hl : lv_has ls 2 [(0, .ref (o 0)), (1, .int (zI xw))] := hl
  refine lv_aload_n hx hb dX6_status_0 rfl (lv_at hl 0 rfl) ?_
  refine lv_iload_n hx hb dX6_status_1 rfl (lv_at hl 1 rfl) ?_
  refine zr_i2l hx hb dX6_status_2 (by omega) ?_
  refine zr_lconst0 hx hb dX6_status_3 ?_
  refine zr_ldc2 (n := 5) hx hb hown (hts (.constantLong RX6 40 (5)) (List.mem_of_getElem? (i := 1) rfl)) rfl dX6_status_4 ?_
  refine zc_ri (va_runS (As := [.long (zL xw), .long (zL 0), .long (zL 5)]) (rest := [.ref (o 0)]) ⟨hx, hb, hml, hown, hts⟩ (met_X6_in l xw 0 5 (by first | assumption | omega) (by first | assumption | omega) (by first | assumption | omega)) (va_cwS 3 hts gX6_status_X6_in rfl rfl rfl (by decide +kernel) ⟨Nat.le_of_ble_eq_true rfl, Nat.le_of_ble_eq_true rfl⟩) ⟨zTrue.blind, fun U hU hW => ⟨rfl, trivial⟩⟩ rfl rfl hl.1 rfl (lv_room (Nat.le_of_ble_eq_true rfl)) dX6_status_7 ⟨Nat.le_of_ble_eq_true rfl, Nat.le_of_ble_eq_true rfl⟩) ?_
  refine zr_iconst hx hb dX6_status_10 ?_
  refine zc_i (va_runV (As := [.int (zI (zB (0 ≤ xw ∧ xw ≤ 5))), .int (zI 1)]) (rest := []) ⟨hx, hb, hml, hown, hts⟩ (met_X6_goes l D cs o s.heap.size A S T xsm xth xam f xtl xpl g (0 ≤ xw ∧ xw ≤ 5) True ) (cwV 2 hts gX6_status_X6_goes rfl rfl rfl (by decide +kernel) ⟨Nat.le_of_ble_eq_true rfl, Nat.le_of_ble_eq_true rfl⟩) ⟨zPreZ.blind, va_recv hK hP (ci := 6) (q0 := 0) rfl rfl, fun U hU hW => zp_Z hP hK hD hN hU hW⟩ rfl rfl hl.1 rfl (lv_room (Nat.le_of_ble_eq_true rfl)) dX6_status_11 ⟨Nat.le_of_ble_eq_true rfl, Nat.le_of_ble_eq_true rfl⟩) hS hD hA (fun H locs hP hD hS => ?_)
  have hP : va_P D vwCl (zmod cs o A S T xsm 0 xam f xtl xpl g) H := by rw [show zGo (0 ≤ xw ∧ xw ≤ 5) True = 0 from zGo_0 (by first | trivial | omega | (simp only [not_true, not_false_eq_true]) | (intro h; omega)) (by first | trivial | omega | (simp only [not_true, not_false_eq_true]) | (intro h; omega))] at hP; exact hP
  have hD : va_D A0 (zmod cs o A S T xsm 0 xam f xtl xpl g) := zD_addr hD rfl
  refine zr_ifb_eq (tgt := 25) hx hb dX6_status_14 (by decide) (fun c1 => ?_) (fun c1 => ?_)
  · exfalso; first | omega | (simp only [and_true, true_and] at c1; omega) | exact c1.2.elim
  · refine lv_aload_n hx hb dX6_status_17 rfl (lv_at hl 0 rfl) ?_
    refine lv_iload_n hx hb dX6_status_18 rfl (lv_at hl 1 rfl) ?_
    refine zc_ri (va_runV (As := [.int (zI xw)]) (rest := []) ⟨hx, hb, hml, hown, hts⟩ (met_X6_statusNow l D cs o A S T xsm 0 xam f xtl xpl g _ xw (by assumption) (by assumption) (by first | assumption | omega)) (cwV 1 hts gX6_status_X6_statusNow rfl rfl rfl (by decide +kernel) ⟨Nat.le_of_ble_eq_true rfl, Nat.le_of_ble_eq_true rfl⟩) ⟨zPre.blind, va_recv hK hP (ci := 6) (q0 := 0) rfl rfl, fun U hU hW => zp_R hP hK hD hN hU hW⟩ rfl rfl hl.1 rfl (lv_room (Nat.le_of_ble_eq_true rfl)) dX6_status_19 ⟨Nat.le_of_ble_eq_true rfl, Nat.le_of_ble_eq_true rfl⟩) ?_
    refine lv_goto (tgt := 26) hx hb dX6_status_22 (by decide) ?_
    have hP9 : va_P D vwCl (zmod cs o A S T xsm 0 xam f xtl xpl g) H := hP
    have hD9 : va_D A0 (zmod cs o A S T xsm 0 xam f xtl xpl g) := zD_addr hD rfl
    subst hAe
    exact W.iret hx hb hr (fun t ht hW => ⟨⟨_, (), rfl, (congrArg zI (show zStt A xw = zStt A xw from by rfl)), by rw [ht]; exact hP9, hD9⟩, hS.F ht⟩) hS.2.2 dX6_status_26
set_option maxHeartbeats 4000000 in
set_option maxRecDepth 100000 in
theorem met_X6_status_no1 (l : Launch) (D : va_G) (cs : Nat → ClassId) (o : Nat → Nat) (sz : Nat) (A S T : Int → Int) (xsm xth xam : Int) (f : Int → Int) (xtl xpl : Int) (g : Int → Int) (xw : Int) (rxw : -2147483648 ≤ xw ∧ xw ≤ 2147483647) (kno : ¬ (0 ≤ xw ∧ xw ≤ 5)) : Met l yX6_status wsX6_status ({ frames := 1, cells := 0, slots := 0, locals := 25 }) (va_Pc [.ref (o 0), .int (zI xw)] (zPreZ D (zTy cs) (zmod cs o A S T xsm xth xam f xtl xpl g) sz)) (zQi D (zmod cs o A S T xsm xth xam f xtl xpl g) sz (zI (0)) (zmod cs o A S T xsm 1 xam f xtl xpl g)) 0 0 (va_A (zmod cs o A S T xsm xth xam f xtl xpl g) sz) := by
  refine Met.ofW (cc := cX6_status) (maxL := 2) (ret := (some .int)) (by decide) rfl ?_
  intro p e s m args below meth c s₁ B hml hv
  obtain ⟨rfl, hsz, hP, hK, hD0, hN⟩ := hv
  have hx := B.exec
  have hb := B.bytes
  have hr := B.returns
  have hts := atoms_spec (ws := wsX6_status) B.pre
  have hown : s.vm.findClass RX6 = some m.cls := findClass_of_methodNamed B.named
  have hlocks := B.notSynchronized
  subst hsz
  obtain ⟨A0, hAe⟩ : ∃ A0, A0 = va_A (zmod cs o A S T xsm xth xam f xtl xpl g) s.heap.size := ⟨_, rfl⟩
  have hD := hD0.self (sz := s.heap.size)
  rw [← hAe] at hD
  have hA : ∀ q : Nat, s.heap.size ≤ q → A0 q := fun q h => by rw [hAe]; exact Or.inr h
  have hS : va_S A0 s.heap s.heap [] := va_S.rf
  have hP : va_P D vwCl (zmod cs o A S T xsm xth xam f xtl xpl g) s.heap := hP
  have hl := lv_entry ([.ref (o 0), .int (zI xw)]) (n := 2) (Nat.le_of_ble_eq_true rfl)
  rw [lg_entry_eq]
  generalize (lg_sl ([.ref (o 0), .int (zI xw)]) ++ List.replicate (2 - (lg_sl ([.ref (o 0), .int (zI xw)])).length) Slot.unset).toArray = ls at hl ⊢
  have hl : lv_has ls 2 [(0, .ref (o 0)), (1, .int (zI xw))] := hl
  refine lv_aload_n hx hb dX6_status_0 rfl (lv_at hl 0 rfl) ?_
  refine lv_iload_n hx hb dX6_status_1 rfl (lv_at hl 1 rfl) ?_
  refine zr_i2l hx hb dX6_status_2 (by omega) ?_
  refine zr_lconst0 hx hb dX6_status_3 ?_
  refine zr_ldc2 (n := 5) hx hb hown (hts (.constantLong RX6 40 (5)) (List.mem_of_getElem? (i := 1) rfl)) rfl dX6_status_4 ?_
  refine zc_ri (va_runS (As := [.long (zL xw), .long (zL 0), .long (zL 5)]) (rest := [.ref (o 0)]) ⟨hx, hb, hml, hown, hts⟩ (met_X6_in l xw 0 5 (by first | assumption | omega) (by first | assumption | omega) (by first | assumption | omega)) (va_cwS 3 hts gX6_status_X6_in rfl rfl rfl (by decide +kernel) ⟨Nat.le_of_ble_eq_true rfl, Nat.le_of_ble_eq_true rfl⟩) ⟨zTrue.blind, fun U hU hW => ⟨rfl, trivial⟩⟩ rfl rfl hl.1 rfl (lv_room (Nat.le_of_ble_eq_true rfl)) dX6_status_7 ⟨Nat.le_of_ble_eq_true rfl, Nat.le_of_ble_eq_true rfl⟩) ?_
  refine zr_iconst hx hb dX6_status_10 ?_
  refine zc_i (va_runV (As := [.int (zI (zB (0 ≤ xw ∧ xw ≤ 5))), .int (zI 1)]) (rest := []) ⟨hx, hb, hml, hown, hts⟩ (met_X6_goes l D cs o s.heap.size A S T xsm xth xam f xtl xpl g (0 ≤ xw ∧ xw ≤ 5) True ) (cwV 2 hts gX6_status_X6_goes rfl rfl rfl (by decide +kernel) ⟨Nat.le_of_ble_eq_true rfl, Nat.le_of_ble_eq_true rfl⟩) ⟨zPreZ.blind, va_recv hK hP (ci := 6) (q0 := 0) rfl rfl, fun U hU hW => zp_Z hP hK hD hN hU hW⟩ rfl rfl hl.1 rfl (lv_room (Nat.le_of_ble_eq_true rfl)) dX6_status_11 ⟨Nat.le_of_ble_eq_true rfl, Nat.le_of_ble_eq_true rfl⟩) hS hD hA (fun H locs hP hD hS => ?_)
  have hP : va_P D vwCl (zmod cs o A S T xsm 1 xam f xtl xpl g) H := by rw [show zGo (0 ≤ xw ∧ xw ≤ 5) True = 1 from zGo_1 (by first | trivial | omega | (simp only [not_true, not_false_eq_true]) | (intro h; omega))] at hP; exact hP
  have hD : va_D A0 (zmod cs o A S T xsm 1 xam f xtl xpl g) := zD_addr hD rfl
  refine zr_ifb_eq (tgt := 25) hx hb dX6_status_14 (by decide) (fun c1 => ?_) (fun c1 => ?_)
  · refine zr_iconst hx hb dX6_status_25 ?_
    have hP9 : va_P D vwCl (zmod cs o A S T xsm 1 xam f xtl xpl g) H := hP
    have hD9 : va_D A0 (zmod cs o A S T xsm 1 xam f xtl xpl g) := zD_addr hD rfl
    subst hAe
    exact W.iret hx hb hr (fun t ht hW => ⟨⟨_, (), rfl, (congrArg zI (show 0 = 0 from by rfl)), by rw [ht]; exact hP9, hD9⟩, hS.F ht⟩) hS.2.2 dX6_status_26
  · exfalso; first | omega | (simp only [and_true, true_and] at c1; omega) | exact c1.2.elim
set_option maxHeartbeats 4000000 in
set_option maxRecDepth 100000 in
theorem met_X6_throughput (l : Launch) (D : va_G) (cs : Nat → ClassId) (o : Nat → Nat) (sz : Nat) (A S T : Int → Int) (xsm xth xam : Int) (f : Int → Int) (xtl xpl : Int) (g : Int → Int)  : Met l yX6_throughput wsX6_throughput ({ frames := 0, cells := 0, slots := 0, locals := 0 }) (va_Pc [.ref (o 0)] (zPreZ D (zTy cs) (zmod cs o A S T xsm xth xam f xtl xpl g) sz)) (zQl D (zmod cs o A S T xsm xth xam f xtl xpl g) sz (zL (A 41)) (zmod cs o A S T xsm 0 xam f xtl xpl g)) 0 0 (va_A (zmod cs o A S T xsm xth xam f xtl xpl g) sz) := by
  refine Met.ofW (cc := cX6_throughput) (maxL := 1) (ret := (some .long)) (by decide) rfl ?_
  intro p e s m args below meth c s₁ B hml hv
  obtain ⟨rfl, hsz, hP, hK, hD0, hN⟩ := hv
  have hx := B.exec
  have hb := B.bytes
  have hr := B.returns
  have hts := atoms_spec (ws := wsX6_throughput) B.pre
  have hown : s.vm.findClass RX6 = some m.cls := findClass_of_methodNamed B.named
  have hlocks := B.notSynchronized
  subst hsz
  obtain ⟨A0, hAe⟩ : ∃ A0, A0 = va_A (zmod cs o A S T xsm xth xam f xtl xpl g) s.heap.size := ⟨_, rfl⟩
  have hD := hD0.self (sz := s.heap.size)
  rw [← hAe] at hD
  have hA : ∀ q : Nat, s.heap.size ≤ q → A0 q := fun q h => by rw [hAe]; exact Or.inr h
  have hS : va_S A0 s.heap s.heap [] := va_S.rf
  have hP : va_P D vwCl (zmod cs o A S T xsm xth xam f xtl xpl g) s.heap := hP
  have hl := lv_entry ([.ref (o 0)]) (n := 1) (Nat.le_of_ble_eq_true rfl)
  rw [lg_entry_eq]
  generalize (lg_sl ([.ref (o 0)]) ++ List.replicate (1 - (lg_sl ([.ref (o 0)])).length) Slot.unset).toArray = ls at hl ⊢
  have hl : lv_has ls 1 [(0, .ref (o 0))] := hl
  have hiX6 : ∀ w ∈ wsX60, w ∈ wsX6_throughput := by decide +kernel
  refine lv_aload_n hx hb dX6_throughput_0 rfl (lv_at hl 0 rfl) ?_
  refine zr_iconst hx hb dX6_throughput_1 ?_
  refine va_put (D := D) (ci := 6) (v := .int (zI 0)) (ty := .int) (C := RX6) (T := TX6) (N := 10) hx hb hts hiX6 tyX6 tyX6_ok nmX6 hown hK hP hD hS 0 rfl rfl 4 (by decide) (hts (.fieldLink RX6 86 "ChargeEstimatorModel" "thrown" "I") (List.mem_of_getElem? (i := 1) rfl)) (fun _ h9 => h9) rfl (by decide +kernel) rfl rfl (Nat.le_of_ble_eq_true rfl) dX6_throughput_2 (fun H locs hP hD hS => ?_)
  have hP : va_P D vwCl (zmod cs o A S T xsm 0 xam f xtl xpl g) H := hP
  have hD : va_D A0 (zmod cs o A S T xsm 0 xam f xtl xpl g) := zD_addr hD rfl
  refine lv_aload_n hx hb dX6_throughput_5 rfl (lv_at hl 0 rfl) ?_
  refine va_get (D := D) (ci := 6) (v := .ref (o 1)) (C := RX6) (T := TX6) (N := 10) hx hb hts hiX6 hown hK hP 0 rfl rfl 0 (by decide) (hts (.fieldLink RX6 7 "ChargeEstimatorModel" "all" "[J") (List.mem_of_getElem? (i := 2) rfl)) (fun _ h9 => h9) rfl dX6_throughput_6 ?_
  refine zr_bipush hx hb dX6_throughput_9 (by decide) ?_
  refine zr_lald (D := D) (g := A) hx hb hK hP 1 2 rfl rfl (by decide) (by decide) dX6_throughput_11 ?_
  have hP9 : va_P D vwCl (zmod cs o A S T xsm 0 xam f xtl xpl g) H := hP
  have hD9 : va_D A0 (zmod cs o A S T xsm 0 xam f xtl xpl g) := zD_addr hD rfl
  subst hAe
  exact W.lret hx hb hr (fun t ht hW => ⟨⟨_, (), rfl, (congrArg zL (show A 41 = A 41 from by rfl)), by rw [ht]; exact hP9, hD9⟩, hS.F ht⟩) hS.2.2 dX6_throughput_12
set_option maxHeartbeats 4000000 in
set_option maxRecDepth 100000 in
theorem met_X6_anchors (l : Launch) (D : va_G) (cs : Nat → ClassId) (o : Nat → Nat) (sz : Nat) (A S T : Int → Int) (xsm xth xam : Int) (f : Int → Int) (xtl xpl : Int) (g : Int → Int)  : Met l yX6_anchors wsX6_anchors ({ frames := 0, cells := 0, slots := 0, locals := 0 }) (va_Pc [.ref (o 0)] (zPreZ D (zTy cs) (zmod cs o A S T xsm xth xam f xtl xpl g) sz)) (zQi D (zmod cs o A S T xsm xth xam f xtl xpl g) sz (zI (A 52)) (zmod cs o A S T xsm 0 xam f xtl xpl g)) 0 0 (va_A (zmod cs o A S T xsm xth xam f xtl xpl g) sz) := by
  refine Met.ofW (cc := cX6_anchors) (maxL := 1) (ret := (some .int)) (by decide) rfl ?_
  intro p e s m args below meth c s₁ B hml hv
  obtain ⟨rfl, hsz, hP, hK, hD0, hN⟩ := hv
  have hx := B.exec
  have hb := B.bytes
  have hr := B.returns
  have hts := atoms_spec (ws := wsX6_anchors) B.pre
  have hown : s.vm.findClass RX6 = some m.cls := findClass_of_methodNamed B.named
  have hlocks := B.notSynchronized
  subst hsz
  obtain ⟨A0, hAe⟩ : ∃ A0, A0 = va_A (zmod cs o A S T xsm xth xam f xtl xpl g) s.heap.size := ⟨_, rfl⟩
  have hD := hD0.self (sz := s.heap.size)
  rw [← hAe] at hD
  have hA : ∀ q : Nat, s.heap.size ≤ q → A0 q := fun q h => by rw [hAe]; exact Or.inr h
  have hS : va_S A0 s.heap s.heap [] := va_S.rf
  have hP : va_P D vwCl (zmod cs o A S T xsm xth xam f xtl xpl g) s.heap := hP
  have hl := lv_entry ([.ref (o 0)]) (n := 1) (Nat.le_of_ble_eq_true rfl)
  rw [lg_entry_eq]
  generalize (lg_sl ([.ref (o 0)]) ++ List.replicate (1 - (lg_sl ([.ref (o 0)])).length) Slot.unset).toArray = ls at hl ⊢
  have hl : lv_has ls 1 [(0, .ref (o 0))] := hl
  have hiX6 : ∀ w ∈ wsX60, w ∈ wsX6_anchors := by decide +kernel
  refine lv_aload_n hx hb dX6_anchors_0 rfl (lv_at hl 0 rfl) ?_
  refine zr_iconst hx hb dX6_anchors_1 ?_
  refine va_put (D := D) (ci := 6) (v := .int (zI 0)) (ty := .int) (C := RX6) (T := TX6) (N := 10) hx hb hts hiX6 tyX6 tyX6_ok nmX6 hown hK hP hD hS 0 rfl rfl 4 (by decide) (hts (.fieldLink RX6 86 "ChargeEstimatorModel" "thrown" "I") (List.mem_of_getElem? (i := 1) rfl)) (fun _ h9 => h9) rfl (by decide +kernel) rfl rfl (Nat.le_of_ble_eq_true rfl) dX6_anchors_2 (fun H locs hP hD hS => ?_)
  have hP : va_P D vwCl (zmod cs o A S T xsm 0 xam f xtl xpl g) H := hP
  have hD : va_D A0 (zmod cs o A S T xsm 0 xam f xtl xpl g) := zD_addr hD rfl
  refine lv_aload_n hx hb dX6_anchors_5 rfl (lv_at hl 0 rfl) ?_
  refine va_get (D := D) (ci := 6) (v := .ref (o 1)) (C := RX6) (T := TX6) (N := 10) hx hb hts hiX6 hown hK hP 0 rfl rfl 0 (by decide) (hts (.fieldLink RX6 7 "ChargeEstimatorModel" "all" "[J") (List.mem_of_getElem? (i := 2) rfl)) (fun _ h9 => h9) rfl dX6_anchors_6 ?_
  refine zr_bipush hx hb dX6_anchors_9 (by decide) ?_
  refine zr_lald (D := D) (g := A) hx hb hK hP 1 2 rfl rfl (by decide) (by decide) dX6_anchors_11 ?_
  refine zr_l2i hx hb dX6_anchors_12 ?_
  have hP9 : va_P D vwCl (zmod cs o A S T xsm 0 xam f xtl xpl g) H := hP
  have hD9 : va_D A0 (zmod cs o A S T xsm 0 xam f xtl xpl g) := zD_addr hD rfl
  subst hAe
  exact W.iret hx hb hr (fun t ht hW => ⟨⟨_, (), rfl, (congrArg zI (show A 52 = A 52 from by rfl)), by rw [ht]; exact hP9, hD9⟩, hS.F ht⟩) hS.2.2 dX6_anchors_13
set_option maxHeartbeats 4000000 in
set_option maxRecDepth 100000 in
theorem met_X6_clearText (l : Launch) (D : va_G) (cs : Nat → ClassId) (o : Nat → Nat) (sz : Nat) (A S T : Int → Int) (xsm xth xam : Int) (f : Int → Int) (xtl xpl : Int) (g : Int → Int)  : Met l yX6_clearText wsX6_clearText ({ frames := 0, cells := 0, slots := 0, locals := 0 }) (va_Pc [.ref (o 0)] (zPreZ D (zTy cs) (zmod cs o A S T xsm xth xam f xtl xpl g) sz)) (zQi D (zmod cs o A S T xsm xth xam f xtl xpl g) sz (zI (xtl)) (zmod cs o A S T xsm 0 xam f 0 xpl g)) 0 0 (va_A (zmod cs o A S T xsm xth xam f xtl xpl g) sz) := by
  refine Met.ofW (cc := cX6_clearText) (maxL := 2) (ret := (some .int)) (by decide) rfl ?_
  intro p e s m args below meth c s₁ B hml hv
  obtain ⟨rfl, hsz, hP, hK, hD0, hN⟩ := hv
  have hx := B.exec
  have hb := B.bytes
  have hr := B.returns
  have hts := atoms_spec (ws := wsX6_clearText) B.pre
  have hown : s.vm.findClass RX6 = some m.cls := findClass_of_methodNamed B.named
  have hlocks := B.notSynchronized
  subst hsz
  obtain ⟨A0, hAe⟩ : ∃ A0, A0 = va_A (zmod cs o A S T xsm xth xam f xtl xpl g) s.heap.size := ⟨_, rfl⟩
  have hD := hD0.self (sz := s.heap.size)
  rw [← hAe] at hD
  have hA : ∀ q : Nat, s.heap.size ≤ q → A0 q := fun q h => by rw [hAe]; exact Or.inr h
  have hS : va_S A0 s.heap s.heap [] := va_S.rf
  have hP : va_P D vwCl (zmod cs o A S T xsm xth xam f xtl xpl g) s.heap := hP
  have hl := lv_entry ([.ref (o 0)]) (n := 2) (Nat.le_of_ble_eq_true rfl)
  rw [lg_entry_eq]
  generalize (lg_sl ([.ref (o 0)]) ++ List.replicate (2 - (lg_sl ([.ref (o 0)])).length) Slot.unset).toArray = ls at hl ⊢
  have hl : lv_has ls 2 [(0, .ref (o 0))] := hl
  have hiX6 : ∀ w ∈ wsX60, w ∈ wsX6_clearText := by decide +kernel
  refine lv_aload_n hx hb dX6_clearText_0 rfl (lv_at hl 0 rfl) ?_
  refine zr_iconst hx hb dX6_clearText_1 ?_
  refine va_put (D := D) (ci := 6) (v := .int (zI 0)) (ty := .int) (C := RX6) (T := TX6) (N := 10) hx hb hts hiX6 tyX6 tyX6_ok nmX6 hown hK hP hD hS 0 rfl rfl 4 (by decide) (hts (.fieldLink RX6 86 "ChargeEstimatorModel" "thrown" "I") (List.mem_of_getElem? (i := 1) rfl)) (fun _ h9 => h9) rfl (by decide +kernel) rfl rfl (Nat.le_of_ble_eq_true rfl) dX6_clearText_2 (fun H locs hP hD hS => ?_)
  have hP : va_P D vwCl (zmod cs o A S T xsm 0 xam f xtl xpl g) H := hP
  have hD : va_D A0 (zmod cs o A S T xsm 0 xam f xtl xpl g) := zD_addr hD rfl
  refine lv_aload_n hx hb dX6_clearText_5 rfl (lv_at hl 0 rfl) ?_
  refine va_get (D := D) (ci := 6) (v := .int (zI xtl)) (C := RX6) (T := TX6) (N := 10) hx hb hts hiX6 hown hK hP 0 rfl rfl 7 (by decide) (hts (.fieldLink RX6 237 "ChargeEstimatorModel" "textLong" "I") (List.mem_of_getElem? (i := 2) rfl)) (fun _ h9 => h9) rfl dX6_clearText_6 ?_
  refine lv_istore_n (lv' := [(1, .int (zI xtl)), (0, .ref (o 0))]) hx hb dX6_clearText_9 rfl hl (by decide) rfl (fun ls hl => ?_)
  refine lv_aload_n hx hb dX6_clearText_10 rfl (lv_at hl 1 rfl) ?_
  refine zr_iconst hx hb dX6_clearText_11 ?_
  refine va_put (D := D) (ci := 6) (v := .int (zI 0)) (ty := .int) (C := RX6) (T := TX6) (N := 10) hx hb hts hiX6 tyX6 tyX6_ok nmX6 hown hK hP hD hS 0 rfl rfl 7 (by decide) (hts (.fieldLink RX6 237 "ChargeEstimatorModel" "textLong" "I") (List.mem_of_getElem? (i := 2) rfl)) (fun _ h9 => h9) rfl (by decide +kernel) rfl rfl (Nat.le_of_ble_eq_true rfl) dX6_clearText_12 (fun H locs hP hD hS => ?_)
  have hP : va_P D vwCl (zmod cs o A S T xsm 0 xam f 0 xpl g) H := hP
  have hD : va_D A0 (zmod cs o A S T xsm 0 xam f 0 xpl g) := zD_addr hD rfl
  refine lv_iload_n hx hb dX6_clearText_15 rfl (lv_at hl 0 rfl) ?_
  have hP9 : va_P D vwCl (zmod cs o A S T xsm 0 xam f 0 xpl g) H := hP
  have hD9 : va_D A0 (zmod cs o A S T xsm 0 xam f 0 xpl g) := zD_addr hD rfl
  subst hAe
  exact W.iret hx hb hr (fun t ht hW => ⟨⟨_, (), rfl, (congrArg zI (show xtl = xtl from by rfl)), by rw [ht]; exact hP9, hD9⟩, hS.F ht⟩) hS.2.2 dX6_clearText_16
set_option maxHeartbeats 4000000 in
set_option maxRecDepth 100000 in
theorem met_X6_openVoltage_ok (l : Launch) (D : va_G) (cs : Nat → ClassId) (o : Nat → Nat) (sz : Nat) (A S T : Int → Int) (xsm xth xam : Int) (f : Int → Int) (xtl xpl : Int) (g : Int → Int) (n : Int) (xs xh : Int) (hI : zOK n A) (hn : 0 ≤ n ∧ n ≤ 3100000) (rxs : -2147483648 ≤ xs ∧ xs ≤ 2147483647) (rxh : -2147483648 ≤ xh ∧ xh ≤ 2147483647) (kok : (0 ≤ xs ∧ xs ≤ 10000) ∧ 0 ≤ xh ∧ xh ≤ 1000) : Met l yX6_openVoltage wsX6_openVoltage ({ frames := 2, cells := 0, slots := 0, locals := 50 }) (va_Pc [.ref (o 0), .int (zI xs), .int (zI xh)] (zPreZ D (zTy cs) (zmod cs o A S T xsm xth xam f xtl xpl g) sz)) (zQi D (zmod cs o A S T xsm xth xam f xtl xpl g) sz (zI (zV A xs xh)) (zmod cs o A S T xsm 0 xam f xtl xpl g)) 0 0 (va_A (zmod cs o A S T xsm xth xam f xtl xpl g) sz) := by
  refine Met.ofW (cc := cX6_openVoltage) (maxL := 3) (ret := (some .int)) (by decide) rfl ?_
  intro p e s m args below meth c s₁ B hml hv
  obtain ⟨rfl, hsz, hP, hK, hD0, hN⟩ := hv
  have hx := B.exec
  have hb := B.bytes
  have hr := B.returns
  have hts := atoms_spec (ws := wsX6_openVoltage) B.pre
  have hown : s.vm.findClass RX6 = some m.cls := findClass_of_methodNamed B.named
  have hlocks := B.notSynchronized
  subst hsz
  obtain ⟨A0, hAe⟩ : ∃ A0, A0 = va_A (zmod cs o A S T xsm xth xam f xtl xpl g) s.heap.size := ⟨_, rfl⟩
  have hD := hD0.self (sz := s.heap.size)
  rw [← hAe] at hD
  have hA : ∀ q : Nat, s.heap.size ≤ q → A0 q := fun q h => by rw [hAe]; exact Or.inr h
  have hS : va_S A0 s.heap s.heap [] := va_S.rf
  have hP : va_P D vwCl (zmod cs o A S T xsm xth xam f xtl xpl g) s.heap := hP
  have hl := lv_entry ([.ref (o 0), .int (zI xs), .int (zI xh)]) (n := 3) (Nat.le_of_ble_eq_true rfl)
  rw [lg_entry_eq]
  generalize (lg_sl ([.ref (o 0), .int (zI xs), .int (zI xh)]) ++ List.replicate (3 - (lg_sl ([.ref (o 0), .int (zI xs), .int (zI xh)])).length) Slot.unset).toArray = ls at hl ⊢
  have hl : lv_has ls 3 [(0, .ref (o 0)), (1, .int (zI xs)), (2, .int (zI xh))] := hl
  refine lv_aload_n hx hb dX6_openVoltage_0 rfl (lv_at hl 0 rfl) ?_
  refine lv_iload_n hx hb dX6_openVoltage_1 rfl (lv_at hl 1 rfl) ?_
  refine zr_i2l hx hb dX6_openVoltage_2 (by omega) ?_
  refine zr_lconst0 hx hb dX6_openVoltage_3 ?_
  refine zr_ldc2 (n := 10000) hx hb hown (hts (.constantLong RX6 93 (10000)) (List.mem_of_getElem? (i := 1) rfl)) rfl dX6_openVoltage_4 ?_
  refine zc_ri (va_runS (As := [.long (zL xs), .long (zL 0), .long (zL 10000)]) (rest := [.ref (o 0)]) ⟨hx, hb, hml, hown, hts⟩ (met_X6_in l xs 0 10000 (by first | assumption | omega) (by first | assumption | omega) (by first | assumption | omega)) (va_cwS 3 hts gX6_openVoltage_X6_in rfl rfl rfl (by decide +kernel) ⟨Nat.le_of_ble_eq_true rfl, Nat.le_of_ble_eq_true rfl⟩) ⟨zTrue.blind, fun U hU hW => ⟨rfl, trivial⟩⟩ rfl rfl hl.1 rfl (lv_room (Nat.le_of_ble_eq_true rfl)) dX6_openVoltage_7 ⟨Nat.le_of_ble_eq_true rfl, Nat.le_of_ble_eq_true rfl⟩) ?_
  refine zr_ifb_eq (tgt := 29) hx hb dX6_openVoltage_10 (by decide) (fun c1 => ?_) (fun c1 => ?_)
  · refine zr_iconst hx hb dX6_openVoltage_29 ?_
    refine zr_iconst hx hb dX6_openVoltage_30 ?_
    refine zc_i (va_runV (As := [.int (zI 0), .int (zI 1)]) (rest := []) ⟨hx, hb, hml, hown, hts⟩ (met_X6_goes l D cs o s.heap.size A S T xsm xth xam f xtl xpl g False True ) (cwV 2 hts gX6_openVoltage_X6_goes rfl rfl rfl (by decide +kernel) ⟨Nat.le_of_ble_eq_true rfl, Nat.le_of_ble_eq_true rfl⟩) ⟨zPreZ.blind, va_recv hK hP (ci := 6) (q0 := 0) rfl rfl, fun U hU hW => zp_Z hP hK hD hN hU hW⟩ rfl rfl hl.1 rfl (lv_room (Nat.le_of_ble_eq_true rfl)) dX6_openVoltage_31 ⟨Nat.le_of_ble_eq_true rfl, Nat.le_of_ble_eq_true rfl⟩) hS hD hA (fun H locs hP hD hS => ?_)
    have hP : va_P D vwCl (zmod cs o A S T xsm 0 xam f xtl xpl g) H := by rw [show zGo False True = 0 from zGo_0 (by first | trivial | omega | (simp only [not_true, not_false_eq_true]) | (intro h; omega)) (by first | trivial | omega | (simp only [not_true, not_false_eq_true]) | (intro h; omega))] at hP; exact hP
    have hD : va_D A0 (zmod cs o A S T xsm 0 xam f xtl xpl g) := zD_addr hD rfl
    refine zr_ifb_eq (tgt := 48) hx hb dX6_openVoltage_34 (by decide) (fun c2 => ?_) (fun c2 => ?_)
    · exfalso; first | omega | (simp only [and_true, true_and] at c2; omega) | exact c2.2.elim
    · first | exact absurd c2 (by decide) | exact absurd (by decide) c2
  · refine lv_iload_n hx hb dX6_openVoltage_13 rfl (lv_at hl 2 rfl) ?_
    refine zr_i2l hx hb dX6_openVoltage_14 (by omega) ?_
    refine zr_lconst0 hx hb dX6_openVoltage_15 ?_
    refine zr_ldc2 (n := 1000) hx hb hown (hts (.constantLong RX6 114 (1000)) (List.mem_of_getElem? (i := 2) rfl)) rfl dX6_openVoltage_16 ?_
    refine zc_ri (va_runS (As := [.long (zL xh), .long (zL 0), .long (zL 1000)]) (rest := [.ref (o 0)]) ⟨hx, hb, hml, hown, hts⟩ (met_X6_in l xh 0 1000 (by first | assumption | omega) (by first | assumption | omega) (by first | assumption | omega)) (va_cwS 3 hts gX6_openVoltage_X6_in rfl rfl rfl (by decide +kernel) ⟨Nat.le_of_ble_eq_true rfl, Nat.le_of_ble_eq_true rfl⟩) ⟨zTrue.blind, fun U hU hW => ⟨rfl, trivial⟩⟩ rfl rfl hl.1 rfl (lv_room (Nat.le_of_ble_eq_true rfl)) dX6_openVoltage_19 ⟨Nat.le_of_ble_eq_true rfl, Nat.le_of_ble_eq_true rfl⟩) ?_
    refine zr_ifb_eq (tgt := 29) hx hb dX6_openVoltage_22 (by decide) (fun c3 => ?_) (fun c3 => ?_)
    · refine zr_iconst hx hb dX6_openVoltage_29 ?_
      refine zr_iconst hx hb dX6_openVoltage_30 ?_
      refine zc_i (va_runV (As := [.int (zI 0), .int (zI 1)]) (rest := []) ⟨hx, hb, hml, hown, hts⟩ (met_X6_goes l D cs o s.heap.size A S T xsm xth xam f xtl xpl g False True ) (cwV 2 hts gX6_openVoltage_X6_goes rfl rfl rfl (by decide +kernel) ⟨Nat.le_of_ble_eq_true rfl, Nat.le_of_ble_eq_true rfl⟩) ⟨zPreZ.blind, va_recv hK hP (ci := 6) (q0 := 0) rfl rfl, fun U hU hW => zp_Z hP hK hD hN hU hW⟩ rfl rfl hl.1 rfl (lv_room (Nat.le_of_ble_eq_true rfl)) dX6_openVoltage_31 ⟨Nat.le_of_ble_eq_true rfl, Nat.le_of_ble_eq_true rfl⟩) hS hD hA (fun H locs hP hD hS => ?_)
      have hP : va_P D vwCl (zmod cs o A S T xsm 0 xam f xtl xpl g) H := by rw [show zGo False True = 0 from zGo_0 (by first | trivial | omega | (simp only [not_true, not_false_eq_true]) | (intro h; omega)) (by first | trivial | omega | (simp only [not_true, not_false_eq_true]) | (intro h; omega))] at hP; exact hP
      have hD : va_D A0 (zmod cs o A S T xsm 0 xam f xtl xpl g) := zD_addr hD rfl
      refine zr_ifb_eq (tgt := 48) hx hb dX6_openVoltage_34 (by decide) (fun c4 => ?_) (fun c4 => ?_)
      · exfalso; first | omega | (simp only [and_true, true_and] at c4; omega) | exact c4.2.elim
      · first | exact absurd c4 (by decide) | exact absurd (by decide) c4
    · refine zr_iconst hx hb dX6_openVoltage_25 ?_
      refine lv_goto (tgt := 30) hx hb dX6_openVoltage_26 (by decide) ?_
      refine zr_iconst hx hb dX6_openVoltage_30 ?_
      refine zc_i (va_runV (As := [.int (zI 1), .int (zI 1)]) (rest := []) ⟨hx, hb, hml, hown, hts⟩ (met_X6_goes l D cs o s.heap.size A S T xsm xth xam f xtl xpl g True True ) (cwV 2 hts gX6_openVoltage_X6_goes rfl rfl rfl (by decide +kernel) ⟨Nat.le_of_ble_eq_true rfl, Nat.le_of_ble_eq_true rfl⟩) ⟨zPreZ.blind, va_recv hK hP (ci := 6) (q0 := 0) rfl rfl, fun U hU hW => zp_Z hP hK hD hN hU hW⟩ rfl rfl hl.1 rfl (lv_room (Nat.le_of_ble_eq_true rfl)) dX6_openVoltage_31 ⟨Nat.le_of_ble_eq_true rfl, Nat.le_of_ble_eq_true rfl⟩) hS hD hA (fun H locs hP hD hS => ?_)
      have hP : va_P D vwCl (zmod cs o A S T xsm 0 xam f xtl xpl g) H := by rw [show zGo True True = 0 from zGo_0 (by first | trivial | omega | (simp only [not_true, not_false_eq_true]) | (intro h; omega)) (by first | trivial | omega | (simp only [not_true, not_false_eq_true]) | (intro h; omega))] at hP; exact hP
      have hD : va_D A0 (zmod cs o A S T xsm 0 xam f xtl xpl g) := zD_addr hD rfl
      refine zr_ifb_eq (tgt := 48) hx hb dX6_openVoltage_34 (by decide) (fun c5 => ?_) (fun c5 => ?_)
      · first | exact absurd c5 (by decide) | exact absurd (by decide) c5
      · refine lv_aload_n hx hb dX6_openVoltage_37 rfl (lv_at hl 0 rfl) ?_
        refine lv_iload_n hx hb dX6_openVoltage_38 rfl (lv_at hl 1 rfl) ?_
        refine lv_iload_n hx hb dX6_openVoltage_39 rfl (lv_at hl 2 rfl) ?_
        refine zr_i2l hx hb dX6_openVoltage_40 (by omega) ?_
        refine zc_rl (va_runV (As := [.int (zI xs), .long (zL xh)]) (rest := []) ⟨hx, hb, hml, hown, hts⟩ (met_X6_voltage l D cs o A S T xsm 0 xam f xtl xpl g _ xs xh (by assumption) (by assumption) (by first | assumption | omega) (by first | assumption | omega)) (cwV 2 hts gX6_openVoltage_X6_voltage rfl rfl rfl (by decide +kernel) ⟨Nat.le_of_ble_eq_true rfl, Nat.le_of_ble_eq_true rfl⟩) ⟨zPre.blind, va_recv hK hP (ci := 6) (q0 := 0) rfl rfl, fun U hU hW => zp_R hP hK hD hN hU hW⟩ rfl rfl hl.1 rfl (lv_room (Nat.le_of_ble_eq_true rfl)) dX6_openVoltage_41 ⟨Nat.le_of_ble_eq_true rfl, Nat.le_of_ble_eq_true rfl⟩) ?_
        refine zr_l2i hx hb dX6_openVoltage_44 ?_
        refine lv_goto (tgt := 49) hx hb dX6_openVoltage_45 (by decide) ?_
        have hP9 : va_P D vwCl (zmod cs o A S T xsm 0 xam f xtl xpl g) H := hP
        have hD9 : va_D A0 (zmod cs o A S T xsm 0 xam f xtl xpl g) := zD_addr hD rfl
        subst hAe
        exact W.iret hx hb hr (fun t ht hW => ⟨⟨_, (), rfl, (congrArg zI (show zV A xs xh = zV A xs xh from by rfl)), by rw [ht]; exact hP9, hD9⟩, hS.F ht⟩) hS.2.2 dX6_openVoltage_49
set_option maxHeartbeats 4000000 in
set_option maxRecDepth 100000 in
theorem met_X6_openVoltage_no1 (l : Launch) (D : va_G) (cs : Nat → ClassId) (o : Nat → Nat) (sz : Nat) (A S T : Int → Int) (xsm xth xam : Int) (f : Int → Int) (xtl xpl : Int) (g : Int → Int) (xs xh : Int) (rxs : -2147483648 ≤ xs ∧ xs ≤ 2147483647) (rxh : -2147483648 ≤ xh ∧ xh ≤ 2147483647) (kno : ¬ ((0 ≤ xs ∧ xs ≤ 10000) ∧ 0 ≤ xh ∧ xh ≤ 1000)) : Met l yX6_openVoltage wsX6_openVoltage ({ frames := 1, cells := 0, slots := 0, locals := 25 }) (va_Pc [.ref (o 0), .int (zI xs), .int (zI xh)] (zPreZ D (zTy cs) (zmod cs o A S T xsm xth xam f xtl xpl g) sz)) (zQi D (zmod cs o A S T xsm xth xam f xtl xpl g) sz (zI (0)) (zmod cs o A S T xsm 1 xam f xtl xpl g)) 0 0 (va_A (zmod cs o A S T xsm xth xam f xtl xpl g) sz) := by
  refine Met.ofW (cc := cX6_openVoltage) (maxL := 3) (ret := (some .int)) (by decide) rfl ?_
  intro p e s m args below meth c s₁ B hml hv
  obtain ⟨rfl, hsz, hP, hK, hD0, hN⟩ := hv
  have hx := B.exec
  have hb := B.bytes
  have hr := B.returns
  have hts := atoms_spec (ws := wsX6_openVoltage) B.pre
  have hown : s.vm.findClass RX6 = some m.cls := findClass_of_methodNamed B.named
  have hlocks := B.notSynchronized
  subst hsz
  obtain ⟨A0, hAe⟩ : ∃ A0, A0 = va_A (zmod cs o A S T xsm xth xam f xtl xpl g) s.heap.size := ⟨_, rfl⟩
  have hD := hD0.self (sz := s.heap.size)
  rw [← hAe] at hD
  have hA : ∀ q : Nat, s.heap.size ≤ q → A0 q := fun q h => by rw [hAe]; exact Or.inr h
  have hS : va_S A0 s.heap s.heap [] := va_S.rf
  have hP : va_P D vwCl (zmod cs o A S T xsm xth xam f xtl xpl g) s.heap := hP
  have hl := lv_entry ([.ref (o 0), .int (zI xs), .int (zI xh)]) (n := 3) (Nat.le_of_ble_eq_true rfl)
  rw [lg_entry_eq]
  generalize (lg_sl ([.ref (o 0), .int (zI xs), .int (zI xh)]) ++ List.replicate (3 - (lg_sl ([.ref (o 0), .int (zI xs), .int (zI xh)])).length) Slot.unset).toArray = ls at hl ⊢
  have hl : lv_has ls 3 [(0, .ref (o 0)), (1, .int (zI xs)), (2, .int (zI xh))] := hl
  refine lv_aload_n hx hb dX6_openVoltage_0 rfl (lv_at hl 0 rfl) ?_
  refine lv_iload_n hx hb dX6_openVoltage_1 rfl (lv_at hl 1 rfl) ?_
  refine zr_i2l hx hb dX6_openVoltage_2 (by omega) ?_
  refine zr_lconst0 hx hb dX6_openVoltage_3 ?_
  refine zr_ldc2 (n := 10000) hx hb hown (hts (.constantLong RX6 93 (10000)) (List.mem_of_getElem? (i := 1) rfl)) rfl dX6_openVoltage_4 ?_
  refine zc_ri (va_runS (As := [.long (zL xs), .long (zL 0), .long (zL 10000)]) (rest := [.ref (o 0)]) ⟨hx, hb, hml, hown, hts⟩ (met_X6_in l xs 0 10000 (by first | assumption | omega) (by first | assumption | omega) (by first | assumption | omega)) (va_cwS 3 hts gX6_openVoltage_X6_in rfl rfl rfl (by decide +kernel) ⟨Nat.le_of_ble_eq_true rfl, Nat.le_of_ble_eq_true rfl⟩) ⟨zTrue.blind, fun U hU hW => ⟨rfl, trivial⟩⟩ rfl rfl hl.1 rfl (lv_room (Nat.le_of_ble_eq_true rfl)) dX6_openVoltage_7 ⟨Nat.le_of_ble_eq_true rfl, Nat.le_of_ble_eq_true rfl⟩) ?_
  refine zr_ifb_eq (tgt := 29) hx hb dX6_openVoltage_10 (by decide) (fun c1 => ?_) (fun c1 => ?_)
  · refine zr_iconst hx hb dX6_openVoltage_29 ?_
    refine zr_iconst hx hb dX6_openVoltage_30 ?_
    refine zc_i (va_runV (As := [.int (zI 0), .int (zI 1)]) (rest := []) ⟨hx, hb, hml, hown, hts⟩ (met_X6_goes l D cs o s.heap.size A S T xsm xth xam f xtl xpl g False True ) (cwV 2 hts gX6_openVoltage_X6_goes rfl rfl rfl (by decide +kernel) ⟨Nat.le_of_ble_eq_true rfl, Nat.le_of_ble_eq_true rfl⟩) ⟨zPreZ.blind, va_recv hK hP (ci := 6) (q0 := 0) rfl rfl, fun U hU hW => zp_Z hP hK hD hN hU hW⟩ rfl rfl hl.1 rfl (lv_room (Nat.le_of_ble_eq_true rfl)) dX6_openVoltage_31 ⟨Nat.le_of_ble_eq_true rfl, Nat.le_of_ble_eq_true rfl⟩) hS hD hA (fun H locs hP hD hS => ?_)
    have hP : va_P D vwCl (zmod cs o A S T xsm 1 xam f xtl xpl g) H := by rw [show zGo False True = 1 from zGo_1 (by first | trivial | omega | (simp only [not_true, not_false_eq_true]) | (intro h; omega))] at hP; exact hP
    have hD : va_D A0 (zmod cs o A S T xsm 1 xam f xtl xpl g) := zD_addr hD rfl
    refine zr_ifb_eq (tgt := 48) hx hb dX6_openVoltage_34 (by decide) (fun c2 => ?_) (fun c2 => ?_)
    · refine zr_iconst hx hb dX6_openVoltage_48 ?_
      have hP9 : va_P D vwCl (zmod cs o A S T xsm 1 xam f xtl xpl g) H := hP
      have hD9 : va_D A0 (zmod cs o A S T xsm 1 xam f xtl xpl g) := zD_addr hD rfl
      subst hAe
      exact W.iret hx hb hr (fun t ht hW => ⟨⟨_, (), rfl, (congrArg zI (show 0 = 0 from by rfl)), by rw [ht]; exact hP9, hD9⟩, hS.F ht⟩) hS.2.2 dX6_openVoltage_49
    · first | exact absurd c2 (by decide) | exact absurd (by decide) c2
  · refine lv_iload_n hx hb dX6_openVoltage_13 rfl (lv_at hl 2 rfl) ?_
    refine zr_i2l hx hb dX6_openVoltage_14 (by omega) ?_
    refine zr_lconst0 hx hb dX6_openVoltage_15 ?_
    refine zr_ldc2 (n := 1000) hx hb hown (hts (.constantLong RX6 114 (1000)) (List.mem_of_getElem? (i := 2) rfl)) rfl dX6_openVoltage_16 ?_
    refine zc_ri (va_runS (As := [.long (zL xh), .long (zL 0), .long (zL 1000)]) (rest := [.ref (o 0)]) ⟨hx, hb, hml, hown, hts⟩ (met_X6_in l xh 0 1000 (by first | assumption | omega) (by first | assumption | omega) (by first | assumption | omega)) (va_cwS 3 hts gX6_openVoltage_X6_in rfl rfl rfl (by decide +kernel) ⟨Nat.le_of_ble_eq_true rfl, Nat.le_of_ble_eq_true rfl⟩) ⟨zTrue.blind, fun U hU hW => ⟨rfl, trivial⟩⟩ rfl rfl hl.1 rfl (lv_room (Nat.le_of_ble_eq_true rfl)) dX6_openVoltage_19 ⟨Nat.le_of_ble_eq_true rfl, Nat.le_of_ble_eq_true rfl⟩) ?_
    refine zr_ifb_eq (tgt := 29) hx hb dX6_openVoltage_22 (by decide) (fun c3 => ?_) (fun c3 => ?_)
    · refine zr_iconst hx hb dX6_openVoltage_29 ?_
      refine zr_iconst hx hb dX6_openVoltage_30 ?_
      refine zc_i (va_runV (As := [.int (zI 0), .int (zI 1)]) (rest := []) ⟨hx, hb, hml, hown, hts⟩ (met_X6_goes l D cs o s.heap.size A S T xsm xth xam f xtl xpl g False True ) (cwV 2 hts gX6_openVoltage_X6_goes rfl rfl rfl (by decide +kernel) ⟨Nat.le_of_ble_eq_true rfl, Nat.le_of_ble_eq_true rfl⟩) ⟨zPreZ.blind, va_recv hK hP (ci := 6) (q0 := 0) rfl rfl, fun U hU hW => zp_Z hP hK hD hN hU hW⟩ rfl rfl hl.1 rfl (lv_room (Nat.le_of_ble_eq_true rfl)) dX6_openVoltage_31 ⟨Nat.le_of_ble_eq_true rfl, Nat.le_of_ble_eq_true rfl⟩) hS hD hA (fun H locs hP hD hS => ?_)
      have hP : va_P D vwCl (zmod cs o A S T xsm 1 xam f xtl xpl g) H := by rw [show zGo False True = 1 from zGo_1 (by first | trivial | omega | (simp only [not_true, not_false_eq_true]) | (intro h; omega))] at hP; exact hP
      have hD : va_D A0 (zmod cs o A S T xsm 1 xam f xtl xpl g) := zD_addr hD rfl
      refine zr_ifb_eq (tgt := 48) hx hb dX6_openVoltage_34 (by decide) (fun c4 => ?_) (fun c4 => ?_)
      · refine zr_iconst hx hb dX6_openVoltage_48 ?_
        have hP9 : va_P D vwCl (zmod cs o A S T xsm 1 xam f xtl xpl g) H := hP
        have hD9 : va_D A0 (zmod cs o A S T xsm 1 xam f xtl xpl g) := zD_addr hD rfl
        subst hAe
        exact W.iret hx hb hr (fun t ht hW => ⟨⟨_, (), rfl, (congrArg zI (show 0 = 0 from by rfl)), by rw [ht]; exact hP9, hD9⟩, hS.F ht⟩) hS.2.2 dX6_openVoltage_49
      · first | exact absurd c4 (by decide) | exact absurd (by decide) c4
    · refine zr_iconst hx hb dX6_openVoltage_25 ?_
      refine lv_goto (tgt := 30) hx hb dX6_openVoltage_26 (by decide) ?_
      refine zr_iconst hx hb dX6_openVoltage_30 ?_
      refine zc_i (va_runV (As := [.int (zI 1), .int (zI 1)]) (rest := []) ⟨hx, hb, hml, hown, hts⟩ (met_X6_goes l D cs o s.heap.size A S T xsm xth xam f xtl xpl g True True ) (cwV 2 hts gX6_openVoltage_X6_goes rfl rfl rfl (by decide +kernel) ⟨Nat.le_of_ble_eq_true rfl, Nat.le_of_ble_eq_true rfl⟩) ⟨zPreZ.blind, va_recv hK hP (ci := 6) (q0 := 0) rfl rfl, fun U hU hW => zp_Z hP hK hD hN hU hW⟩ rfl rfl hl.1 rfl (lv_room (Nat.le_of_ble_eq_true rfl)) dX6_openVoltage_31 ⟨Nat.le_of_ble_eq_true rfl, Nat.le_of_ble_eq_true rfl⟩) hS hD hA (fun H locs hP hD hS => ?_)
      have hP : va_P D vwCl (zmod cs o A S T xsm 1 xam f xtl xpl g) H := by rw [show zGo True True = 1 from zGo_1 (by first | trivial | omega | (simp only [not_true, not_false_eq_true]) | (intro h; omega))] at hP; exact hP
      have hD : va_D A0 (zmod cs o A S T xsm 1 xam f xtl xpl g) := zD_addr hD rfl
      refine zr_ifb_eq (tgt := 48) hx hb dX6_openVoltage_34 (by decide) (fun c5 => ?_) (fun c5 => ?_)
      · first | exact absurd c5 (by decide) | exact absurd (by decide) c5
      · exfalso; first | omega | (simp only [and_true, true_and] at c5; omega) | exact c5.2.elim
set_option maxHeartbeats 4000000 in
set_option maxRecDepth 100000 in
theorem met_X6_invert_ok (l : Launch) (D : va_G) (cs : Nat → ClassId) (o : Nat → Nat) (sz : Nat) (A S T : Int → Int) (xsm xth xam : Int) (f : Int → Int) (xtl xpl : Int) (g : Int → Int) (n : Int) (xv xh : Int) (hI : zOK n A) (hn : 0 ≤ n ∧ n ≤ 3100000) (rxv : -2147483648 ≤ xv ∧ xv ≤ 2147483647) (rxh : -2147483648 ≤ xh ∧ xh ≤ 2147483647) (kok : (0 ≤ xv ∧ xv ≤ 6000) ∧ 0 ≤ xh ∧ xh ≤ 1000) : Met l yX6_invert wsX6_invert ({ frames := 3, cells := 0, slots := 0, locals := 75 }) (va_Pc [.ref (o 0), .int (zI xv), .int (zI xh)] (zPreZ D (zTy cs) (zmod cs o A S T xsm xth xam f xtl xpl g) sz)) (zQi D (zmod cs o A S T xsm xth xam f xtl xpl g) sz (zI (zInv A xv xh)) (zmod cs o A S T xsm 0 xam f xtl xpl g)) 0 0 (va_A (zmod cs o A S T xsm xth xam f xtl xpl g) sz) := by
  refine Met.ofW (cc := cX6_invert) (maxL := 3) (ret := (some .int)) (by decide) rfl ?_
  intro p e s m args below meth c s₁ B hml hv
  obtain ⟨rfl, hsz, hP, hK, hD0, hN⟩ := hv
  have hx := B.exec
  have hb := B.bytes
  have hr := B.returns
  have hts := atoms_spec (ws := wsX6_invert) B.pre
  have hown : s.vm.findClass RX6 = some m.cls := findClass_of_methodNamed B.named
  have hlocks := B.notSynchronized
  subst hsz
  obtain ⟨A0, hAe⟩ : ∃ A0, A0 = va_A (zmod cs o A S T xsm xth xam f xtl xpl g) s.heap.size := ⟨_, rfl⟩
  have hD := hD0.self (sz := s.heap.size)
  rw [← hAe] at hD
  have hA : ∀ q : Nat, s.heap.size ≤ q → A0 q := fun q h => by rw [hAe]; exact Or.inr h
  have hS : va_S A0 s.heap s.heap [] := va_S.rf
  have hP : va_P D vwCl (zmod cs o A S T xsm xth xam f xtl xpl g) s.heap := hP
  have hl := lv_entry ([.ref (o 0), .int (zI xv), .int (zI xh)]) (n := 3) (Nat.le_of_ble_eq_true rfl)
  rw [lg_entry_eq]
  generalize (lg_sl ([.ref (o 0), .int (zI xv), .int (zI xh)]) ++ List.replicate (3 - (lg_sl ([.ref (o 0), .int (zI xv), .int (zI xh)])).length) Slot.unset).toArray = ls at hl ⊢
  have hl : lv_has ls 3 [(0, .ref (o 0)), (1, .int (zI xv)), (2, .int (zI xh))] := hl
  refine lv_aload_n hx hb dX6_invert_0 rfl (lv_at hl 0 rfl) ?_
  refine lv_iload_n hx hb dX6_invert_1 rfl (lv_at hl 1 rfl) ?_
  refine zr_i2l hx hb dX6_invert_2 (by omega) ?_
  refine zr_lconst0 hx hb dX6_invert_3 ?_
  refine zr_ldc2 (n := 6000) hx hb hown (hts (.constantLong RX6 143 (6000)) (List.mem_of_getElem? (i := 1) rfl)) rfl dX6_invert_4 ?_
  refine zc_ri (va_runS (As := [.long (zL xv), .long (zL 0), .long (zL 6000)]) (rest := [.ref (o 0)]) ⟨hx, hb, hml, hown, hts⟩ (met_X6_in l xv 0 6000 (by first | assumption | omega) (by first | assumption | omega) (by first | assumption | omega)) (va_cwS 3 hts gX6_invert_X6_in rfl rfl rfl (by decide +kernel) ⟨Nat.le_of_ble_eq_true rfl, Nat.le_of_ble_eq_true rfl⟩) ⟨zTrue.blind, fun U hU hW => ⟨rfl, trivial⟩⟩ rfl rfl hl.1 rfl (lv_room (Nat.le_of_ble_eq_true rfl)) dX6_invert_7 ⟨Nat.le_of_ble_eq_true rfl, Nat.le_of_ble_eq_true rfl⟩) ?_
  refine zr_ifb_eq (tgt := 29) hx hb dX6_invert_10 (by decide) (fun c1 => ?_) (fun c1 => ?_)
  · refine zr_iconst hx hb dX6_invert_29 ?_
    refine zr_iconst hx hb dX6_invert_30 ?_
    refine zc_i (va_runV (As := [.int (zI 0), .int (zI 1)]) (rest := []) ⟨hx, hb, hml, hown, hts⟩ (met_X6_goes l D cs o s.heap.size A S T xsm xth xam f xtl xpl g False True ) (cwV 2 hts gX6_invert_X6_goes rfl rfl rfl (by decide +kernel) ⟨Nat.le_of_ble_eq_true rfl, Nat.le_of_ble_eq_true rfl⟩) ⟨zPreZ.blind, va_recv hK hP (ci := 6) (q0 := 0) rfl rfl, fun U hU hW => zp_Z hP hK hD hN hU hW⟩ rfl rfl hl.1 rfl (lv_room (Nat.le_of_ble_eq_true rfl)) dX6_invert_31 ⟨Nat.le_of_ble_eq_true rfl, Nat.le_of_ble_eq_true rfl⟩) hS hD hA (fun H locs hP hD hS => ?_)
    have hP : va_P D vwCl (zmod cs o A S T xsm 0 xam f xtl xpl g) H := by rw [show zGo False True = 0 from zGo_0 (by first | trivial | omega | (simp only [not_true, not_false_eq_true]) | (intro h; omega)) (by first | trivial | omega | (simp only [not_true, not_false_eq_true]) | (intro h; omega))] at hP; exact hP
    have hD : va_D A0 (zmod cs o A S T xsm 0 xam f xtl xpl g) := zD_addr hD rfl
    refine zr_ifb_eq (tgt := 48) hx hb dX6_invert_34 (by decide) (fun c2 => ?_) (fun c2 => ?_)
    · exfalso; first | omega | (simp only [and_true, true_and] at c2; omega) | exact c2.2.elim
    · first | exact absurd c2 (by decide) | exact absurd (by decide) c2
  · refine lv_iload_n hx hb dX6_invert_13 rfl (lv_at hl 2 rfl) ?_
    refine zr_i2l hx hb dX6_invert_14 (by omega) ?_
    refine zr_lconst0 hx hb dX6_invert_15 ?_
    refine zr_ldc2 (n := 1000) hx hb hown (hts (.constantLong RX6 114 (1000)) (List.mem_of_getElem? (i := 2) rfl)) rfl dX6_invert_16 ?_
    refine zc_ri (va_runS (As := [.long (zL xh), .long (zL 0), .long (zL 1000)]) (rest := [.ref (o 0)]) ⟨hx, hb, hml, hown, hts⟩ (met_X6_in l xh 0 1000 (by first | assumption | omega) (by first | assumption | omega) (by first | assumption | omega)) (va_cwS 3 hts gX6_invert_X6_in rfl rfl rfl (by decide +kernel) ⟨Nat.le_of_ble_eq_true rfl, Nat.le_of_ble_eq_true rfl⟩) ⟨zTrue.blind, fun U hU hW => ⟨rfl, trivial⟩⟩ rfl rfl hl.1 rfl (lv_room (Nat.le_of_ble_eq_true rfl)) dX6_invert_19 ⟨Nat.le_of_ble_eq_true rfl, Nat.le_of_ble_eq_true rfl⟩) ?_
    refine zr_ifb_eq (tgt := 29) hx hb dX6_invert_22 (by decide) (fun c3 => ?_) (fun c3 => ?_)
    · refine zr_iconst hx hb dX6_invert_29 ?_
      refine zr_iconst hx hb dX6_invert_30 ?_
      refine zc_i (va_runV (As := [.int (zI 0), .int (zI 1)]) (rest := []) ⟨hx, hb, hml, hown, hts⟩ (met_X6_goes l D cs o s.heap.size A S T xsm xth xam f xtl xpl g False True ) (cwV 2 hts gX6_invert_X6_goes rfl rfl rfl (by decide +kernel) ⟨Nat.le_of_ble_eq_true rfl, Nat.le_of_ble_eq_true rfl⟩) ⟨zPreZ.blind, va_recv hK hP (ci := 6) (q0 := 0) rfl rfl, fun U hU hW => zp_Z hP hK hD hN hU hW⟩ rfl rfl hl.1 rfl (lv_room (Nat.le_of_ble_eq_true rfl)) dX6_invert_31 ⟨Nat.le_of_ble_eq_true rfl, Nat.le_of_ble_eq_true rfl⟩) hS hD hA (fun H locs hP hD hS => ?_)
      have hP : va_P D vwCl (zmod cs o A S T xsm 0 xam f xtl xpl g) H := by rw [show zGo False True = 0 from zGo_0 (by first | trivial | omega | (simp only [not_true, not_false_eq_true]) | (intro h; omega)) (by first | trivial | omega | (simp only [not_true, not_false_eq_true]) | (intro h; omega))] at hP; exact hP
      have hD : va_D A0 (zmod cs o A S T xsm 0 xam f xtl xpl g) := zD_addr hD rfl
      refine zr_ifb_eq (tgt := 48) hx hb dX6_invert_34 (by decide) (fun c4 => ?_) (fun c4 => ?_)
      · exfalso; first | omega | (simp only [and_true, true_and] at c4; omega) | exact c4.2.elim
      · first | exact absurd c4 (by decide) | exact absurd (by decide) c4
    · refine zr_iconst hx hb dX6_invert_25 ?_
      refine lv_goto (tgt := 30) hx hb dX6_invert_26 (by decide) ?_
      refine zr_iconst hx hb dX6_invert_30 ?_
      refine zc_i (va_runV (As := [.int (zI 1), .int (zI 1)]) (rest := []) ⟨hx, hb, hml, hown, hts⟩ (met_X6_goes l D cs o s.heap.size A S T xsm xth xam f xtl xpl g True True ) (cwV 2 hts gX6_invert_X6_goes rfl rfl rfl (by decide +kernel) ⟨Nat.le_of_ble_eq_true rfl, Nat.le_of_ble_eq_true rfl⟩) ⟨zPreZ.blind, va_recv hK hP (ci := 6) (q0 := 0) rfl rfl, fun U hU hW => zp_Z hP hK hD hN hU hW⟩ rfl rfl hl.1 rfl (lv_room (Nat.le_of_ble_eq_true rfl)) dX6_invert_31 ⟨Nat.le_of_ble_eq_true rfl, Nat.le_of_ble_eq_true rfl⟩) hS hD hA (fun H locs hP hD hS => ?_)
      have hP : va_P D vwCl (zmod cs o A S T xsm 0 xam f xtl xpl g) H := by rw [show zGo True True = 0 from zGo_0 (by first | trivial | omega | (simp only [not_true, not_false_eq_true]) | (intro h; omega)) (by first | trivial | omega | (simp only [not_true, not_false_eq_true]) | (intro h; omega))] at hP; exact hP
      have hD : va_D A0 (zmod cs o A S T xsm 0 xam f xtl xpl g) := zD_addr hD rfl
      refine zr_ifb_eq (tgt := 48) hx hb dX6_invert_34 (by decide) (fun c5 => ?_) (fun c5 => ?_)
      · first | exact absurd c5 (by decide) | exact absurd (by decide) c5
      · refine lv_aload_n hx hb dX6_invert_37 rfl (lv_at hl 0 rfl) ?_
        refine lv_iload_n hx hb dX6_invert_38 rfl (lv_at hl 1 rfl) ?_
        refine zr_i2l hx hb dX6_invert_39 (by omega) ?_
        refine lv_iload_n hx hb dX6_invert_40 rfl (lv_at hl 2 rfl) ?_
        refine zr_i2l hx hb dX6_invert_41 (by omega) ?_
        refine zc_ri (va_runV (As := [.long (zL xv), .long (zL xh)]) (rest := []) ⟨hx, hb, hml, hown, hts⟩ (met_X6_inverted l D cs o A S T xsm 0 xam f xtl xpl g _ xv xh (by assumption) (by assumption) (by first | assumption | omega) (by first | assumption | omega)) (cwV 2 hts gX6_invert_X6_inverted rfl rfl rfl (by decide +kernel) ⟨Nat.le_of_ble_eq_true rfl, Nat.le_of_ble_eq_true rfl⟩) ⟨zPre.blind, va_recv hK hP (ci := 6) (q0 := 0) rfl rfl, fun U hU hW => zp_R hP hK hD hN hU hW⟩ rfl rfl hl.1 rfl (lv_room (Nat.le_of_ble_eq_true rfl)) dX6_invert_42 ⟨Nat.le_of_ble_eq_true rfl, Nat.le_of_ble_eq_true rfl⟩) ?_
        refine lv_goto (tgt := 49) hx hb dX6_invert_45 (by decide) ?_
        have hP9 : va_P D vwCl (zmod cs o A S T xsm 0 xam f xtl xpl g) H := hP
        have hD9 : va_D A0 (zmod cs o A S T xsm 0 xam f xtl xpl g) := zD_addr hD rfl
        subst hAe
        exact W.iret hx hb hr (fun t ht hW => ⟨⟨_, (), rfl, (congrArg zI (show zInv A xv xh = zInv A xv xh from by rfl)), by rw [ht]; exact hP9, hD9⟩, hS.F ht⟩) hS.2.2 dX6_invert_49
set_option maxHeartbeats 4000000 in
set_option maxRecDepth 100000 in
theorem met_X6_invert_no1 (l : Launch) (D : va_G) (cs : Nat → ClassId) (o : Nat → Nat) (sz : Nat) (A S T : Int → Int) (xsm xth xam : Int) (f : Int → Int) (xtl xpl : Int) (g : Int → Int) (xv xh : Int) (rxv : -2147483648 ≤ xv ∧ xv ≤ 2147483647) (rxh : -2147483648 ≤ xh ∧ xh ≤ 2147483647) (kno : ¬ ((0 ≤ xv ∧ xv ≤ 6000) ∧ 0 ≤ xh ∧ xh ≤ 1000)) : Met l yX6_invert wsX6_invert ({ frames := 1, cells := 0, slots := 0, locals := 25 }) (va_Pc [.ref (o 0), .int (zI xv), .int (zI xh)] (zPreZ D (zTy cs) (zmod cs o A S T xsm xth xam f xtl xpl g) sz)) (zQi D (zmod cs o A S T xsm xth xam f xtl xpl g) sz (zI (0)) (zmod cs o A S T xsm 1 xam f xtl xpl g)) 0 0 (va_A (zmod cs o A S T xsm xth xam f xtl xpl g) sz) := by
  refine Met.ofW (cc := cX6_invert) (maxL := 3) (ret := (some .int)) (by decide) rfl ?_
  intro p e s m args below meth c s₁ B hml hv
  obtain ⟨rfl, hsz, hP, hK, hD0, hN⟩ := hv
  have hx := B.exec
  have hb := B.bytes
  have hr := B.returns
  have hts := atoms_spec (ws := wsX6_invert) B.pre
  have hown : s.vm.findClass RX6 = some m.cls := findClass_of_methodNamed B.named
  have hlocks := B.notSynchronized
  subst hsz
  obtain ⟨A0, hAe⟩ : ∃ A0, A0 = va_A (zmod cs o A S T xsm xth xam f xtl xpl g) s.heap.size := ⟨_, rfl⟩
  have hD := hD0.self (sz := s.heap.size)
  rw [← hAe] at hD
  have hA : ∀ q : Nat, s.heap.size ≤ q → A0 q := fun q h => by rw [hAe]; exact Or.inr h
  have hS : va_S A0 s.heap s.heap [] := va_S.rf
  have hP : va_P D vwCl (zmod cs o A S T xsm xth xam f xtl xpl g) s.heap := hP
  have hl := lv_entry ([.ref (o 0), .int (zI xv), .int (zI xh)]) (n := 3) (Nat.le_of_ble_eq_true rfl)
  rw [lg_entry_eq]
  generalize (lg_sl ([.ref (o 0), .int (zI xv), .int (zI xh)]) ++ List.replicate (3 - (lg_sl ([.ref (o 0), .int (zI xv), .int (zI xh)])).length) Slot.unset).toArray = ls at hl ⊢
  have hl : lv_has ls 3 [(0, .ref (o 0)), (1, .int (zI xv)), (2, .int (zI xh))] := hl
  refine lv_aload_n hx hb dX6_invert_0 rfl (lv_at hl 0 rfl) ?_
  refine lv_iload_n hx hb dX6_invert_1 rfl (lv_at hl 1 rfl) ?_
  refine zr_i2l hx hb dX6_invert_2 (by omega) ?_
  refine zr_lconst0 hx hb dX6_invert_3 ?_
  refine zr_ldc2 (n := 6000) hx hb hown (hts (.constantLong RX6 143 (6000)) (List.mem_of_getElem? (i := 1) rfl)) rfl dX6_invert_4 ?_
  refine zc_ri (va_runS (As := [.long (zL xv), .long (zL 0), .long (zL 6000)]) (rest := [.ref (o 0)]) ⟨hx, hb, hml, hown, hts⟩ (met_X6_in l xv 0 6000 (by first | assumption | omega) (by first | assumption | omega) (by first | assumption | omega)) (va_cwS 3 hts gX6_invert_X6_in rfl rfl rfl (by decide +kernel) ⟨Nat.le_of_ble_eq_true rfl, Nat.le_of_ble_eq_true rfl⟩) ⟨zTrue.blind, fun U hU hW => ⟨rfl, trivial⟩⟩ rfl rfl hl.1 rfl (lv_room (Nat.le_of_ble_eq_true rfl)) dX6_invert_7 ⟨Nat.le_of_ble_eq_true rfl, Nat.le_of_ble_eq_true rfl⟩) ?_
  refine zr_ifb_eq (tgt := 29) hx hb dX6_invert_10 (by decide) (fun c1 => ?_) (fun c1 => ?_)
  · refine zr_iconst hx hb dX6_invert_29 ?_
    refine zr_iconst hx hb dX6_invert_30 ?_
    refine zc_i (va_runV (As := [.int (zI 0), .int (zI 1)]) (rest := []) ⟨hx, hb, hml, hown, hts⟩ (met_X6_goes l D cs o s.heap.size A S T xsm xth xam f xtl xpl g False True ) (cwV 2 hts gX6_invert_X6_goes rfl rfl rfl (by decide +kernel) ⟨Nat.le_of_ble_eq_true rfl, Nat.le_of_ble_eq_true rfl⟩) ⟨zPreZ.blind, va_recv hK hP (ci := 6) (q0 := 0) rfl rfl, fun U hU hW => zp_Z hP hK hD hN hU hW⟩ rfl rfl hl.1 rfl (lv_room (Nat.le_of_ble_eq_true rfl)) dX6_invert_31 ⟨Nat.le_of_ble_eq_true rfl, Nat.le_of_ble_eq_true rfl⟩) hS hD hA (fun H locs hP hD hS => ?_)
    have hP : va_P D vwCl (zmod cs o A S T xsm 1 xam f xtl xpl g) H := by rw [show zGo False True = 1 from zGo_1 (by first | trivial | omega | (simp only [not_true, not_false_eq_true]) | (intro h; omega))] at hP; exact hP
    have hD : va_D A0 (zmod cs o A S T xsm 1 xam f xtl xpl g) := zD_addr hD rfl
    refine zr_ifb_eq (tgt := 48) hx hb dX6_invert_34 (by decide) (fun c2 => ?_) (fun c2 => ?_)
    · refine zr_iconst hx hb dX6_invert_48 ?_
      have hP9 : va_P D vwCl (zmod cs o A S T xsm 1 xam f xtl xpl g) H := hP
      have hD9 : va_D A0 (zmod cs o A S T xsm 1 xam f xtl xpl g) := zD_addr hD rfl
      subst hAe
      exact W.iret hx hb hr (fun t ht hW => ⟨⟨_, (), rfl, (congrArg zI (show 0 = 0 from by rfl)), by rw [ht]; exact hP9, hD9⟩, hS.F ht⟩) hS.2.2 dX6_invert_49
    · first | exact absurd c2 (by decide) | exact absurd (by decide) c2
  · refine lv_iload_n hx hb dX6_invert_13 rfl (lv_at hl 2 rfl) ?_
    refine zr_i2l hx hb dX6_invert_14 (by omega) ?_
    refine zr_lconst0 hx hb dX6_invert_15 ?_
    refine zr_ldc2 (n := 1000) hx hb hown (hts (.constantLong RX6 114 (1000)) (List.mem_of_getElem? (i := 2) rfl)) rfl dX6_invert_16 ?_
    refine zc_ri (va_runS (As := [.long (zL xh), .long (zL 0), .long (zL 1000)]) (rest := [.ref (o 0)]) ⟨hx, hb, hml, hown, hts⟩ (met_X6_in l xh 0 1000 (by first | assumption | omega) (by first | assumption | omega) (by first | assumption | omega)) (va_cwS 3 hts gX6_invert_X6_in rfl rfl rfl (by decide +kernel) ⟨Nat.le_of_ble_eq_true rfl, Nat.le_of_ble_eq_true rfl⟩) ⟨zTrue.blind, fun U hU hW => ⟨rfl, trivial⟩⟩ rfl rfl hl.1 rfl (lv_room (Nat.le_of_ble_eq_true rfl)) dX6_invert_19 ⟨Nat.le_of_ble_eq_true rfl, Nat.le_of_ble_eq_true rfl⟩) ?_
    refine zr_ifb_eq (tgt := 29) hx hb dX6_invert_22 (by decide) (fun c3 => ?_) (fun c3 => ?_)
    · refine zr_iconst hx hb dX6_invert_29 ?_
      refine zr_iconst hx hb dX6_invert_30 ?_
      refine zc_i (va_runV (As := [.int (zI 0), .int (zI 1)]) (rest := []) ⟨hx, hb, hml, hown, hts⟩ (met_X6_goes l D cs o s.heap.size A S T xsm xth xam f xtl xpl g False True ) (cwV 2 hts gX6_invert_X6_goes rfl rfl rfl (by decide +kernel) ⟨Nat.le_of_ble_eq_true rfl, Nat.le_of_ble_eq_true rfl⟩) ⟨zPreZ.blind, va_recv hK hP (ci := 6) (q0 := 0) rfl rfl, fun U hU hW => zp_Z hP hK hD hN hU hW⟩ rfl rfl hl.1 rfl (lv_room (Nat.le_of_ble_eq_true rfl)) dX6_invert_31 ⟨Nat.le_of_ble_eq_true rfl, Nat.le_of_ble_eq_true rfl⟩) hS hD hA (fun H locs hP hD hS => ?_)
      have hP : va_P D vwCl (zmod cs o A S T xsm 1 xam f xtl xpl g) H := by rw [show zGo False True = 1 from zGo_1 (by first | trivial | omega | (simp only [not_true, not_false_eq_true]) | (intro h; omega))] at hP; exact hP
      have hD : va_D A0 (zmod cs o A S T xsm 1 xam f xtl xpl g) := zD_addr hD rfl
      refine zr_ifb_eq (tgt := 48) hx hb dX6_invert_34 (by decide) (fun c4 => ?_) (fun c4 => ?_)
      · refine zr_iconst hx hb dX6_invert_48 ?_
        have hP9 : va_P D vwCl (zmod cs o A S T xsm 1 xam f xtl xpl g) H := hP
        have hD9 : va_D A0 (zmod cs o A S T xsm 1 xam f xtl xpl g) := zD_addr hD rfl
        subst hAe
        exact W.iret hx hb hr (fun t ht hW => ⟨⟨_, (), rfl, (congrArg zI (show 0 = 0 from by rfl)), by rw [ht]; exact hP9, hD9⟩, hS.F ht⟩) hS.2.2 dX6_invert_49
      · first | exact absurd c4 (by decide) | exact absurd (by decide) c4
    · refine zr_iconst hx hb dX6_invert_25 ?_
      refine lv_goto (tgt := 30) hx hb dX6_invert_26 (by decide) ?_
      refine zr_iconst hx hb dX6_invert_30 ?_
      refine zc_i (va_runV (As := [.int (zI 1), .int (zI 1)]) (rest := []) ⟨hx, hb, hml, hown, hts⟩ (met_X6_goes l D cs o s.heap.size A S T xsm xth xam f xtl xpl g True True ) (cwV 2 hts gX6_invert_X6_goes rfl rfl rfl (by decide +kernel) ⟨Nat.le_of_ble_eq_true rfl, Nat.le_of_ble_eq_true rfl⟩) ⟨zPreZ.blind, va_recv hK hP (ci := 6) (q0 := 0) rfl rfl, fun U hU hW => zp_Z hP hK hD hN hU hW⟩ rfl rfl hl.1 rfl (lv_room (Nat.le_of_ble_eq_true rfl)) dX6_invert_31 ⟨Nat.le_of_ble_eq_true rfl, Nat.le_of_ble_eq_true rfl⟩) hS hD hA (fun H locs hP hD hS => ?_)
      have hP : va_P D vwCl (zmod cs o A S T xsm 1 xam f xtl xpl g) H := by rw [show zGo True True = 1 from zGo_1 (by first | trivial | omega | (simp only [not_true, not_false_eq_true]) | (intro h; omega))] at hP; exact hP
      have hD : va_D A0 (zmod cs o A S T xsm 1 xam f xtl xpl g) := zD_addr hD rfl
      refine zr_ifb_eq (tgt := 48) hx hb dX6_invert_34 (by decide) (fun c5 => ?_) (fun c5 => ?_)
      · first | exact absurd c5 (by decide) | exact absurd (by decide) c5
      · exfalso; first | omega | (simp only [and_true, true_and] at c5; omega) | exact c5.2.elim
set_option maxHeartbeats 4000000 in
set_option maxRecDepth 100000 in
theorem met_X6_append_ok (l : Launch) (D : va_G) (cs : Nat → ClassId) (o : Nat → Nat) (sz : Nat) (A S T : Int → Int) (xsm xth xam : Int) (f : Int → Int) (xtl xpl : Int) (g : Int → Int) (xv : Int) (ktl : 0 ≤ xtl ∧ xtl ≤ 120) (rxv : -2147483648 ≤ xv ∧ xv ≤ 2147483647) (kok : (0 ≤ xv ∧ xv ≤ 127) ∧ xtl < 120) : Met l yX6_append wsX6_append ({ frames := 1, cells := 0, slots := 0, locals := 25 }) (va_Pc [.ref (o 0), .int (zI xv)] (zPreZ D (zTy cs) (zmod cs o A S T xsm xth xam f xtl xpl g) sz)) (zQi D (zmod cs o A S T xsm xth xam f xtl xpl g) sz (zI (xtl + 1)) (zmod cs o A S T xsm 0 xam (zU f xtl xv) (xtl + 1) xpl g)) 0 0 (va_A (zmod cs o A S T xsm xth xam f xtl xpl g) sz) := by
  refine Met.ofW (cc := cX6_append) (maxL := 2) (ret := (some .int)) (by decide) rfl ?_
  intro p e s m args below meth c s₁ B hml hv
  obtain ⟨rfl, hsz, hP, hK, hD0, hN⟩ := hv
  have hx := B.exec
  have hb := B.bytes
  have hr := B.returns
  have hts := atoms_spec (ws := wsX6_append) B.pre
  have hown : s.vm.findClass RX6 = some m.cls := findClass_of_methodNamed B.named
  have hlocks := B.notSynchronized
  subst hsz
  obtain ⟨A0, hAe⟩ : ∃ A0, A0 = va_A (zmod cs o A S T xsm xth xam f xtl xpl g) s.heap.size := ⟨_, rfl⟩
  have hD := hD0.self (sz := s.heap.size)
  rw [← hAe] at hD
  have hA : ∀ q : Nat, s.heap.size ≤ q → A0 q := fun q h => by rw [hAe]; exact Or.inr h
  have hS : va_S A0 s.heap s.heap [] := va_S.rf
  have hP : va_P D vwCl (zmod cs o A S T xsm xth xam f xtl xpl g) s.heap := hP
  have hl := lv_entry ([.ref (o 0), .int (zI xv)]) (n := 2) (Nat.le_of_ble_eq_true rfl)
  rw [lg_entry_eq]
  generalize (lg_sl ([.ref (o 0), .int (zI xv)]) ++ List.replicate (2 - (lg_sl ([.ref (o 0), .int (zI xv)])).length) Slot.unset).toArray = ls at hl ⊢
  have hl : lv_has ls 2 [(0, .ref (o 0)), (1, .int (zI xv))] := hl
  have hiX6 : ∀ w ∈ wsX60, w ∈ wsX6_append := by decide +kernel
  refine lv_aload_n hx hb dX6_append_0 rfl (lv_at hl 0 rfl) ?_
  refine lv_iload_n hx hb dX6_append_1 rfl (lv_at hl 1 rfl) ?_
  refine zr_i2l hx hb dX6_append_2 (by omega) ?_
  refine zr_lconst0 hx hb dX6_append_3 ?_
  refine zr_ldc2 (n := 127) hx hb hown (hts (.constantLong RX6 235 (127)) (List.mem_of_getElem? (i := 1) rfl)) rfl dX6_append_4 ?_
  refine zc_ri (va_runS (As := [.long (zL xv), .long (zL 0), .long (zL 127)]) (rest := [.ref (o 0)]) ⟨hx, hb, hml, hown, hts⟩ (met_X6_in l xv 0 127 (by first | assumption | omega) (by first | assumption | omega) (by first | assumption | omega)) (va_cwS 3 hts gX6_append_X6_in rfl rfl rfl (by decide +kernel) ⟨Nat.le_of_ble_eq_true rfl, Nat.le_of_ble_eq_true rfl⟩) ⟨zTrue.blind, fun U hU hW => ⟨rfl, trivial⟩⟩ rfl rfl hl.1 rfl (lv_room (Nat.le_of_ble_eq_true rfl)) dX6_append_7 ⟨Nat.le_of_ble_eq_true rfl, Nat.le_of_ble_eq_true rfl⟩) ?_
  refine lv_aload_n hx hb dX6_append_10 rfl (lv_at hl 0 rfl) ?_
  refine va_get (D := D) (ci := 6) (v := .int (zI xtl)) (C := RX6) (T := TX6) (N := 10) hx hb hts hiX6 hown hK hP 0 rfl rfl 7 (by decide) (hts (.fieldLink RX6 237 "ChargeEstimatorModel" "textLong" "I") (List.mem_of_getElem? (i := 2) rfl)) (fun _ h9 => h9) rfl dX6_append_11 ?_
  refine zr_bipush hx hb dX6_append_14 (by decide) ?_
  refine zr_icmp_ge (tgt := 23) hx hb dX6_append_16 (by decide) (by omega) (by decide) (fun c1 => ?_) (fun c1 => ?_)
  · refine zr_iconst hx hb dX6_append_23 ?_
    refine zc_i (va_runV (As := [.int (zI (zB (0 ≤ xv ∧ xv ≤ 127))), .int (zI 0)]) (rest := []) ⟨hx, hb, hml, hown, hts⟩ (met_X6_goes l D cs o s.heap.size A S T xsm xth xam f xtl xpl g (0 ≤ xv ∧ xv ≤ 127) False ) (cwV 2 hts gX6_append_X6_goes rfl rfl rfl (by decide +kernel) ⟨Nat.le_of_ble_eq_true rfl, Nat.le_of_ble_eq_true rfl⟩) ⟨zPreZ.blind, va_recv hK hP (ci := 6) (q0 := 0) rfl rfl, fun U hU hW => zp_Z hP hK hD hN hU hW⟩ rfl rfl hl.1 rfl (lv_room (Nat.le_of_ble_eq_true rfl)) dX6_append_24 ⟨Nat.le_of_ble_eq_true rfl, Nat.le_of_ble_eq_true rfl⟩) hS hD hA (fun H locs hP hD hS => ?_)
    have hP : va_P D vwCl (zmod cs o A S T xsm 0 xam f xtl xpl g) H := by rw [show zGo (0 ≤ xv ∧ xv ≤ 127) False = 0 from zGo_0 (by first | trivial | omega | (simp only [not_true, not_false_eq_true]) | (intro h; omega)) (by first | trivial | omega | (simp only [not_true, not_false_eq_true]) | (intro h; omega))] at hP; exact hP
    have hD : va_D A0 (zmod cs o A S T xsm 0 xam f xtl xpl g) := zD_addr hD rfl
    refine zr_ifb_ne (tgt := 32) hx hb dX6_append_27 (by decide) (fun c2 => ?_) (fun c2 => ?_)
    · refine lv_aload_n hx hb dX6_append_32 rfl (lv_at hl 0 rfl) ?_
      refine va_get (D := D) (ci := 6) (v := .ref (o 4)) (C := RX6) (T := TX6) (N := 10) hx hb hts hiX6 hown hK hP 0 rfl rfl 6 (by decide) (hts (.fieldLink RX6 19 "ChargeEstimatorModel" "text" "[I") (List.mem_of_getElem? (i := 3) rfl)) (fun _ h9 => h9) rfl dX6_append_33 ?_
      refine lv_aload_n hx hb dX6_append_36 rfl (lv_at hl 0 rfl) ?_
      refine va_get (D := D) (ci := 6) (v := .int (zI xtl)) (C := RX6) (T := TX6) (N := 10) hx hb hts hiX6 hown hK hP 0 rfl rfl 7 (by decide) (hts (.fieldLink RX6 237 "ChargeEstimatorModel" "textLong" "I") (List.mem_of_getElem? (i := 2) rfl)) (fun _ h9 => h9) rfl dX6_append_37 ?_
      refine lv_iload_n hx hb dX6_append_40 rfl (lv_at hl 1 rfl) ?_
      refine zr_iast (D := D) (g := f) hx hb hK hP hD hS 4 0 rfl rfl (by decide) (by omega) dX6_append_41 (fun H locs hP hD hS => ?_)
      have hP : va_P D vwCl (zmod cs o A S T xsm 0 xam (zU f xtl xv) xtl xpl g) H := hP
      have hD : va_D A0 (zmod cs o A S T xsm 0 xam (zU f xtl xv) xtl xpl g) := zD_addr hD rfl
      refine lv_aload_n hx hb dX6_append_42 rfl (lv_at hl 0 rfl) ?_
      refine lv_dup hx hb dX6_append_43 rfl ?_
      refine va_get (D := D) (ci := 6) (v := .int (zI xtl)) (C := RX6) (T := TX6) (N := 10) hx hb hts hiX6 hown hK hP 0 rfl rfl 7 (by decide) (hts (.fieldLink RX6 237 "ChargeEstimatorModel" "textLong" "I") (List.mem_of_getElem? (i := 2) rfl)) (fun _ h9 => h9) rfl dX6_append_44 ?_
      refine zr_iconst hx hb dX6_append_47 ?_
      refine zr_iadd hx hb dX6_append_48 ?_
      refine va_put (D := D) (ci := 6) (v := .int (zI (xtl + 1))) (ty := .int) (C := RX6) (T := TX6) (N := 10) hx hb hts hiX6 tyX6 tyX6_ok nmX6 hown hK hP hD hS 0 rfl rfl 7 (by decide) (hts (.fieldLink RX6 237 "ChargeEstimatorModel" "textLong" "I") (List.mem_of_getElem? (i := 2) rfl)) (fun _ h9 => h9) rfl (by decide +kernel) rfl rfl (Nat.le_of_ble_eq_true rfl) dX6_append_49 (fun H locs hP hD hS => ?_)
      have hP : va_P D vwCl (zmod cs o A S T xsm 0 xam (zU f xtl xv) (xtl + 1) xpl g) H := hP
      have hD : va_D A0 (zmod cs o A S T xsm 0 xam (zU f xtl xv) (xtl + 1) xpl g) := zD_addr hD rfl
      refine lv_aload_n hx hb dX6_append_52 rfl (lv_at hl 0 rfl) ?_
      refine va_get (D := D) (ci := 6) (v := .int (zI (xtl + 1))) (C := RX6) (T := TX6) (N := 10) hx hb hts hiX6 hown hK hP 0 rfl rfl 7 (by decide) (hts (.fieldLink RX6 237 "ChargeEstimatorModel" "textLong" "I") (List.mem_of_getElem? (i := 2) rfl)) (fun _ h9 => h9) rfl dX6_append_53 ?_
      have hP9 : va_P D vwCl (zmod cs o A S T xsm 0 xam (zU f xtl xv) (xtl + 1) xpl g) H := hP
      have hD9 : va_D A0 (zmod cs o A S T xsm 0 xam (zU f xtl xv) (xtl + 1) xpl g) := zD_addr hD rfl
      subst hAe
      exact W.iret hx hb hr (fun t ht hW => ⟨⟨_, (), rfl, (congrArg zI (show xtl + 1 = xtl + 1 from by rfl)), by rw [ht]; exact hP9, hD9⟩, hS.F ht⟩) hS.2.2 dX6_append_56
    · exfalso; first | omega | (simp only [and_true, true_and] at c2; omega) | exact c2.2.elim
  · refine zr_iconst hx hb dX6_append_19 ?_
    refine lv_goto (tgt := 24) hx hb dX6_append_20 (by decide) ?_
    refine zc_i (va_runV (As := [.int (zI (zB (0 ≤ xv ∧ xv ≤ 127))), .int (zI 1)]) (rest := []) ⟨hx, hb, hml, hown, hts⟩ (met_X6_goes l D cs o s.heap.size A S T xsm xth xam f xtl xpl g (0 ≤ xv ∧ xv ≤ 127) True ) (cwV 2 hts gX6_append_X6_goes rfl rfl rfl (by decide +kernel) ⟨Nat.le_of_ble_eq_true rfl, Nat.le_of_ble_eq_true rfl⟩) ⟨zPreZ.blind, va_recv hK hP (ci := 6) (q0 := 0) rfl rfl, fun U hU hW => zp_Z hP hK hD hN hU hW⟩ rfl rfl hl.1 rfl (lv_room (Nat.le_of_ble_eq_true rfl)) dX6_append_24 ⟨Nat.le_of_ble_eq_true rfl, Nat.le_of_ble_eq_true rfl⟩) hS hD hA (fun H locs hP hD hS => ?_)
    have hP : va_P D vwCl (zmod cs o A S T xsm 0 xam f xtl xpl g) H := by rw [show zGo (0 ≤ xv ∧ xv ≤ 127) True = 0 from zGo_0 (by first | trivial | omega | (simp only [not_true, not_false_eq_true]) | (intro h; omega)) (by first | trivial | omega | (simp only [not_true, not_false_eq_true]) | (intro h; omega))] at hP; exact hP
    have hD : va_D A0 (zmod cs o A S T xsm 0 xam f xtl xpl g) := zD_addr hD rfl
    refine zr_ifb_ne (tgt := 32) hx hb dX6_append_27 (by decide) (fun c3 => ?_) (fun c3 => ?_)
    · refine lv_aload_n hx hb dX6_append_32 rfl (lv_at hl 0 rfl) ?_
      refine va_get (D := D) (ci := 6) (v := .ref (o 4)) (C := RX6) (T := TX6) (N := 10) hx hb hts hiX6 hown hK hP 0 rfl rfl 6 (by decide) (hts (.fieldLink RX6 19 "ChargeEstimatorModel" "text" "[I") (List.mem_of_getElem? (i := 3) rfl)) (fun _ h9 => h9) rfl dX6_append_33 ?_
      refine lv_aload_n hx hb dX6_append_36 rfl (lv_at hl 0 rfl) ?_
      refine va_get (D := D) (ci := 6) (v := .int (zI xtl)) (C := RX6) (T := TX6) (N := 10) hx hb hts hiX6 hown hK hP 0 rfl rfl 7 (by decide) (hts (.fieldLink RX6 237 "ChargeEstimatorModel" "textLong" "I") (List.mem_of_getElem? (i := 2) rfl)) (fun _ h9 => h9) rfl dX6_append_37 ?_
      refine lv_iload_n hx hb dX6_append_40 rfl (lv_at hl 1 rfl) ?_
      refine zr_iast (D := D) (g := f) hx hb hK hP hD hS 4 0 rfl rfl (by decide) (by omega) dX6_append_41 (fun H locs hP hD hS => ?_)
      have hP : va_P D vwCl (zmod cs o A S T xsm 0 xam (zU f xtl xv) xtl xpl g) H := hP
      have hD : va_D A0 (zmod cs o A S T xsm 0 xam (zU f xtl xv) xtl xpl g) := zD_addr hD rfl
      refine lv_aload_n hx hb dX6_append_42 rfl (lv_at hl 0 rfl) ?_
      refine lv_dup hx hb dX6_append_43 rfl ?_
      refine va_get (D := D) (ci := 6) (v := .int (zI xtl)) (C := RX6) (T := TX6) (N := 10) hx hb hts hiX6 hown hK hP 0 rfl rfl 7 (by decide) (hts (.fieldLink RX6 237 "ChargeEstimatorModel" "textLong" "I") (List.mem_of_getElem? (i := 2) rfl)) (fun _ h9 => h9) rfl dX6_append_44 ?_
      refine zr_iconst hx hb dX6_append_47 ?_
      refine zr_iadd hx hb dX6_append_48 ?_
      refine va_put (D := D) (ci := 6) (v := .int (zI (xtl + 1))) (ty := .int) (C := RX6) (T := TX6) (N := 10) hx hb hts hiX6 tyX6 tyX6_ok nmX6 hown hK hP hD hS 0 rfl rfl 7 (by decide) (hts (.fieldLink RX6 237 "ChargeEstimatorModel" "textLong" "I") (List.mem_of_getElem? (i := 2) rfl)) (fun _ h9 => h9) rfl (by decide +kernel) rfl rfl (Nat.le_of_ble_eq_true rfl) dX6_append_49 (fun H locs hP hD hS => ?_)
      have hP : va_P D vwCl (zmod cs o A S T xsm 0 xam (zU f xtl xv) (xtl + 1) xpl g) H := hP
      have hD : va_D A0 (zmod cs o A S T xsm 0 xam (zU f xtl xv) (xtl + 1) xpl g) := zD_addr hD rfl
      refine lv_aload_n hx hb dX6_append_52 rfl (lv_at hl 0 rfl) ?_
      refine va_get (D := D) (ci := 6) (v := .int (zI (xtl + 1))) (C := RX6) (T := TX6) (N := 10) hx hb hts hiX6 hown hK hP 0 rfl rfl 7 (by decide) (hts (.fieldLink RX6 237 "ChargeEstimatorModel" "textLong" "I") (List.mem_of_getElem? (i := 2) rfl)) (fun _ h9 => h9) rfl dX6_append_53 ?_
      have hP9 : va_P D vwCl (zmod cs o A S T xsm 0 xam (zU f xtl xv) (xtl + 1) xpl g) H := hP
      have hD9 : va_D A0 (zmod cs o A S T xsm 0 xam (zU f xtl xv) (xtl + 1) xpl g) := zD_addr hD rfl
      subst hAe
      exact W.iret hx hb hr (fun t ht hW => ⟨⟨_, (), rfl, (congrArg zI (show xtl + 1 = xtl + 1 from by rfl)), by rw [ht]; exact hP9, hD9⟩, hS.F ht⟩) hS.2.2 dX6_append_56
    · exfalso; first | omega | (simp only [and_true, true_and] at c3; omega) | exact c3.2.elim
set_option maxHeartbeats 4000000 in
set_option maxRecDepth 100000 in
theorem met_X6_append_no1 (l : Launch) (D : va_G) (cs : Nat → ClassId) (o : Nat → Nat) (sz : Nat) (A S T : Int → Int) (xsm xth xam : Int) (f : Int → Int) (xtl xpl : Int) (g : Int → Int) (xv : Int) (ktl : 0 ≤ xtl ∧ xtl ≤ 120) (rxv : -2147483648 ≤ xv ∧ xv ≤ 2147483647) (kno : ¬ (0 ≤ xv ∧ xv ≤ 127)) : Met l yX6_append wsX6_append ({ frames := 1, cells := 0, slots := 0, locals := 25 }) (va_Pc [.ref (o 0), .int (zI xv)] (zPreZ D (zTy cs) (zmod cs o A S T xsm xth xam f xtl xpl g) sz)) (zQi D (zmod cs o A S T xsm xth xam f xtl xpl g) sz (zI (0)) (zmod cs o A S T xsm 1 xam f xtl xpl g)) 0 0 (va_A (zmod cs o A S T xsm xth xam f xtl xpl g) sz) := by
  refine Met.ofW (cc := cX6_append) (maxL := 2) (ret := (some .int)) (by decide) rfl ?_
  intro p e s m args below meth c s₁ B hml hv
  obtain ⟨rfl, hsz, hP, hK, hD0, hN⟩ := hv
  have hx := B.exec
  have hb := B.bytes
  have hr := B.returns
  have hts := atoms_spec (ws := wsX6_append) B.pre
  have hown : s.vm.findClass RX6 = some m.cls := findClass_of_methodNamed B.named
  have hlocks := B.notSynchronized
  subst hsz
  obtain ⟨A0, hAe⟩ : ∃ A0, A0 = va_A (zmod cs o A S T xsm xth xam f xtl xpl g) s.heap.size := ⟨_, rfl⟩
  have hD := hD0.self (sz := s.heap.size)
  rw [← hAe] at hD
  have hA : ∀ q : Nat, s.heap.size ≤ q → A0 q := fun q h => by rw [hAe]; exact Or.inr h
  have hS : va_S A0 s.heap s.heap [] := va_S.rf
  have hP : va_P D vwCl (zmod cs o A S T xsm xth xam f xtl xpl g) s.heap := hP
  have hl := lv_entry ([.ref (o 0), .int (zI xv)]) (n := 2) (Nat.le_of_ble_eq_true rfl)
  rw [lg_entry_eq]
  generalize (lg_sl ([.ref (o 0), .int (zI xv)]) ++ List.replicate (2 - (lg_sl ([.ref (o 0), .int (zI xv)])).length) Slot.unset).toArray = ls at hl ⊢
  have hl : lv_has ls 2 [(0, .ref (o 0)), (1, .int (zI xv))] := hl
  have hiX6 : ∀ w ∈ wsX60, w ∈ wsX6_append := by decide +kernel
  refine lv_aload_n hx hb dX6_append_0 rfl (lv_at hl 0 rfl) ?_
  refine lv_iload_n hx hb dX6_append_1 rfl (lv_at hl 1 rfl) ?_
  refine zr_i2l hx hb dX6_append_2 (by omega) ?_
  refine zr_lconst0 hx hb dX6_append_3 ?_
  refine zr_ldc2 (n := 127) hx hb hown (hts (.constantLong RX6 235 (127)) (List.mem_of_getElem? (i := 1) rfl)) rfl dX6_append_4 ?_
  refine zc_ri (va_runS (As := [.long (zL xv), .long (zL 0), .long (zL 127)]) (rest := [.ref (o 0)]) ⟨hx, hb, hml, hown, hts⟩ (met_X6_in l xv 0 127 (by first | assumption | omega) (by first | assumption | omega) (by first | assumption | omega)) (va_cwS 3 hts gX6_append_X6_in rfl rfl rfl (by decide +kernel) ⟨Nat.le_of_ble_eq_true rfl, Nat.le_of_ble_eq_true rfl⟩) ⟨zTrue.blind, fun U hU hW => ⟨rfl, trivial⟩⟩ rfl rfl hl.1 rfl (lv_room (Nat.le_of_ble_eq_true rfl)) dX6_append_7 ⟨Nat.le_of_ble_eq_true rfl, Nat.le_of_ble_eq_true rfl⟩) ?_
  refine lv_aload_n hx hb dX6_append_10 rfl (lv_at hl 0 rfl) ?_
  refine va_get (D := D) (ci := 6) (v := .int (zI xtl)) (C := RX6) (T := TX6) (N := 10) hx hb hts hiX6 hown hK hP 0 rfl rfl 7 (by decide) (hts (.fieldLink RX6 237 "ChargeEstimatorModel" "textLong" "I") (List.mem_of_getElem? (i := 2) rfl)) (fun _ h9 => h9) rfl dX6_append_11 ?_
  refine zr_bipush hx hb dX6_append_14 (by decide) ?_
  refine zr_icmp_ge (tgt := 23) hx hb dX6_append_16 (by decide) (by omega) (by decide) (fun c1 => ?_) (fun c1 => ?_)
  · refine zr_iconst hx hb dX6_append_23 ?_
    refine zc_i (va_runV (As := [.int (zI (zB (0 ≤ xv ∧ xv ≤ 127))), .int (zI 0)]) (rest := []) ⟨hx, hb, hml, hown, hts⟩ (met_X6_goes l D cs o s.heap.size A S T xsm xth xam f xtl xpl g (0 ≤ xv ∧ xv ≤ 127) False ) (cwV 2 hts gX6_append_X6_goes rfl rfl rfl (by decide +kernel) ⟨Nat.le_of_ble_eq_true rfl, Nat.le_of_ble_eq_true rfl⟩) ⟨zPreZ.blind, va_recv hK hP (ci := 6) (q0 := 0) rfl rfl, fun U hU hW => zp_Z hP hK hD hN hU hW⟩ rfl rfl hl.1 rfl (lv_room (Nat.le_of_ble_eq_true rfl)) dX6_append_24 ⟨Nat.le_of_ble_eq_true rfl, Nat.le_of_ble_eq_true rfl⟩) hS hD hA (fun H locs hP hD hS => ?_)
    have hP : va_P D vwCl (zmod cs o A S T xsm 1 xam f xtl xpl g) H := by rw [show zGo (0 ≤ xv ∧ xv ≤ 127) False = 1 from zGo_1 (by first | trivial | omega | (simp only [not_true, not_false_eq_true]) | (intro h; omega))] at hP; exact hP
    have hD : va_D A0 (zmod cs o A S T xsm 1 xam f xtl xpl g) := zD_addr hD rfl
    refine zr_ifb_ne (tgt := 32) hx hb dX6_append_27 (by decide) (fun c2 => ?_) (fun c2 => ?_)
    · exfalso; first | omega | (simp only [and_true, true_and] at c2; omega) | exact c2.2.elim
    · refine zr_iconst hx hb dX6_append_30 ?_
      have hP9 : va_P D vwCl (zmod cs o A S T xsm 1 xam f xtl xpl g) H := hP
      have hD9 : va_D A0 (zmod cs o A S T xsm 1 xam f xtl xpl g) := zD_addr hD rfl
      subst hAe
      exact W.iret hx hb hr (fun t ht hW => ⟨⟨_, (), rfl, (congrArg zI (show 0 = 0 from by rfl)), by rw [ht]; exact hP9, hD9⟩, hS.F ht⟩) hS.2.2 dX6_append_31
  · refine zr_iconst hx hb dX6_append_19 ?_
    refine lv_goto (tgt := 24) hx hb dX6_append_20 (by decide) ?_
    refine zc_i (va_runV (As := [.int (zI (zB (0 ≤ xv ∧ xv ≤ 127))), .int (zI 1)]) (rest := []) ⟨hx, hb, hml, hown, hts⟩ (met_X6_goes l D cs o s.heap.size A S T xsm xth xam f xtl xpl g (0 ≤ xv ∧ xv ≤ 127) True ) (cwV 2 hts gX6_append_X6_goes rfl rfl rfl (by decide +kernel) ⟨Nat.le_of_ble_eq_true rfl, Nat.le_of_ble_eq_true rfl⟩) ⟨zPreZ.blind, va_recv hK hP (ci := 6) (q0 := 0) rfl rfl, fun U hU hW => zp_Z hP hK hD hN hU hW⟩ rfl rfl hl.1 rfl (lv_room (Nat.le_of_ble_eq_true rfl)) dX6_append_24 ⟨Nat.le_of_ble_eq_true rfl, Nat.le_of_ble_eq_true rfl⟩) hS hD hA (fun H locs hP hD hS => ?_)
    have hP : va_P D vwCl (zmod cs o A S T xsm 1 xam f xtl xpl g) H := by rw [show zGo (0 ≤ xv ∧ xv ≤ 127) True = 1 from zGo_1 (by first | trivial | omega | (simp only [not_true, not_false_eq_true]) | (intro h; omega))] at hP; exact hP
    have hD : va_D A0 (zmod cs o A S T xsm 1 xam f xtl xpl g) := zD_addr hD rfl
    refine zr_ifb_ne (tgt := 32) hx hb dX6_append_27 (by decide) (fun c3 => ?_) (fun c3 => ?_)
    · exfalso; first | omega | (simp only [and_true, true_and] at c3; omega) | exact c3.2.elim
    · refine zr_iconst hx hb dX6_append_30 ?_
      have hP9 : va_P D vwCl (zmod cs o A S T xsm 1 xam f xtl xpl g) H := hP
      have hD9 : va_D A0 (zmod cs o A S T xsm 1 xam f xtl xpl g) := zD_addr hD rfl
      subst hAe
      exact W.iret hx hb hr (fun t ht hW => ⟨⟨_, (), rfl, (congrArg zI (show 0 = 0 from by rfl)), by rw [ht]; exact hP9, hD9⟩, hS.F ht⟩) hS.2.2 dX6_append_31
set_option maxHeartbeats 4000000 in
set_option maxRecDepth 100000 in
theorem met_X6_append_no2 (l : Launch) (D : va_G) (cs : Nat → ClassId) (o : Nat → Nat) (sz : Nat) (A S T : Int → Int) (xsm xth xam : Int) (f : Int → Int) (xtl xpl : Int) (g : Int → Int) (xv : Int) (ktl : 0 ≤ xtl ∧ xtl ≤ 120) (rxv : -2147483648 ≤ xv ∧ xv ≤ 2147483647) (kno : (0 ≤ xv ∧ xv ≤ 127) ∧ ¬ xtl < 120) : Met l yX6_append wsX6_append ({ frames := 1, cells := 0, slots := 0, locals := 25 }) (va_Pc [.ref (o 0), .int (zI xv)] (zPreZ D (zTy cs) (zmod cs o A S T xsm xth xam f xtl xpl g) sz)) (zQi D (zmod cs o A S T xsm xth xam f xtl xpl g) sz (zI (0)) (zmod cs o A S T xsm 2 xam f xtl xpl g)) 0 0 (va_A (zmod cs o A S T xsm xth xam f xtl xpl g) sz) := by
  refine Met.ofW (cc := cX6_append) (maxL := 2) (ret := (some .int)) (by decide) rfl ?_
  intro p e s m args below meth c s₁ B hml hv
  obtain ⟨rfl, hsz, hP, hK, hD0, hN⟩ := hv
  have hx := B.exec
  have hb := B.bytes
  have hr := B.returns
  have hts := atoms_spec (ws := wsX6_append) B.pre
  have hown : s.vm.findClass RX6 = some m.cls := findClass_of_methodNamed B.named
  have hlocks := B.notSynchronized
  subst hsz
  obtain ⟨A0, hAe⟩ : ∃ A0, A0 = va_A (zmod cs o A S T xsm xth xam f xtl xpl g) s.heap.size := ⟨_, rfl⟩
  have hD := hD0.self (sz := s.heap.size)
  rw [← hAe] at hD
  have hA : ∀ q : Nat, s.heap.size ≤ q → A0 q := fun q h => by rw [hAe]; exact Or.inr h
  have hS : va_S A0 s.heap s.heap [] := va_S.rf
  have hP : va_P D vwCl (zmod cs o A S T xsm xth xam f xtl xpl g) s.heap := hP
  have hl := lv_entry ([.ref (o 0), .int (zI xv)]) (n := 2) (Nat.le_of_ble_eq_true rfl)
  rw [lg_entry_eq]
  generalize (lg_sl ([.ref (o 0), .int (zI xv)]) ++ List.replicate (2 - (lg_sl ([.ref (o 0), .int (zI xv)])).length) Slot.unset).toArray = ls at hl ⊢
  have hl : lv_has ls 2 [(0, .ref (o 0)), (1, .int (zI xv))] := hl
  have hiX6 : ∀ w ∈ wsX60, w ∈ wsX6_append := by decide +kernel
  refine lv_aload_n hx hb dX6_append_0 rfl (lv_at hl 0 rfl) ?_
  refine lv_iload_n hx hb dX6_append_1 rfl (lv_at hl 1 rfl) ?_
  refine zr_i2l hx hb dX6_append_2 (by omega) ?_
  refine zr_lconst0 hx hb dX6_append_3 ?_
  refine zr_ldc2 (n := 127) hx hb hown (hts (.constantLong RX6 235 (127)) (List.mem_of_getElem? (i := 1) rfl)) rfl dX6_append_4 ?_
  refine zc_ri (va_runS (As := [.long (zL xv), .long (zL 0), .long (zL 127)]) (rest := [.ref (o 0)]) ⟨hx, hb, hml, hown, hts⟩ (met_X6_in l xv 0 127 (by first | assumption | omega) (by first | assumption | omega) (by first | assumption | omega)) (va_cwS 3 hts gX6_append_X6_in rfl rfl rfl (by decide +kernel) ⟨Nat.le_of_ble_eq_true rfl, Nat.le_of_ble_eq_true rfl⟩) ⟨zTrue.blind, fun U hU hW => ⟨rfl, trivial⟩⟩ rfl rfl hl.1 rfl (lv_room (Nat.le_of_ble_eq_true rfl)) dX6_append_7 ⟨Nat.le_of_ble_eq_true rfl, Nat.le_of_ble_eq_true rfl⟩) ?_
  refine lv_aload_n hx hb dX6_append_10 rfl (lv_at hl 0 rfl) ?_
  refine va_get (D := D) (ci := 6) (v := .int (zI xtl)) (C := RX6) (T := TX6) (N := 10) hx hb hts hiX6 hown hK hP 0 rfl rfl 7 (by decide) (hts (.fieldLink RX6 237 "ChargeEstimatorModel" "textLong" "I") (List.mem_of_getElem? (i := 2) rfl)) (fun _ h9 => h9) rfl dX6_append_11 ?_
  refine zr_bipush hx hb dX6_append_14 (by decide) ?_
  refine zr_icmp_ge (tgt := 23) hx hb dX6_append_16 (by decide) (by omega) (by decide) (fun c1 => ?_) (fun c1 => ?_)
  · refine zr_iconst hx hb dX6_append_23 ?_
    refine zc_i (va_runV (As := [.int (zI (zB (0 ≤ xv ∧ xv ≤ 127))), .int (zI 0)]) (rest := []) ⟨hx, hb, hml, hown, hts⟩ (met_X6_goes l D cs o s.heap.size A S T xsm xth xam f xtl xpl g (0 ≤ xv ∧ xv ≤ 127) False ) (cwV 2 hts gX6_append_X6_goes rfl rfl rfl (by decide +kernel) ⟨Nat.le_of_ble_eq_true rfl, Nat.le_of_ble_eq_true rfl⟩) ⟨zPreZ.blind, va_recv hK hP (ci := 6) (q0 := 0) rfl rfl, fun U hU hW => zp_Z hP hK hD hN hU hW⟩ rfl rfl hl.1 rfl (lv_room (Nat.le_of_ble_eq_true rfl)) dX6_append_24 ⟨Nat.le_of_ble_eq_true rfl, Nat.le_of_ble_eq_true rfl⟩) hS hD hA (fun H locs hP hD hS => ?_)
    have hP : va_P D vwCl (zmod cs o A S T xsm 2 xam f xtl xpl g) H := by rw [show zGo (0 ≤ xv ∧ xv ≤ 127) False = 2 from zGo_2 (by first | trivial | omega | (simp only [not_true, not_false_eq_true]) | (intro h; omega)) (by first | trivial | omega | (simp only [not_true, not_false_eq_true]) | (intro h; omega))] at hP; exact hP
    have hD : va_D A0 (zmod cs o A S T xsm 2 xam f xtl xpl g) := zD_addr hD rfl
    refine zr_ifb_ne (tgt := 32) hx hb dX6_append_27 (by decide) (fun c2 => ?_) (fun c2 => ?_)
    · exfalso; first | omega | (simp only [and_true, true_and] at c2; omega) | exact c2.2.elim
    · refine zr_iconst hx hb dX6_append_30 ?_
      have hP9 : va_P D vwCl (zmod cs o A S T xsm 2 xam f xtl xpl g) H := hP
      have hD9 : va_D A0 (zmod cs o A S T xsm 2 xam f xtl xpl g) := zD_addr hD rfl
      subst hAe
      exact W.iret hx hb hr (fun t ht hW => ⟨⟨_, (), rfl, (congrArg zI (show 0 = 0 from by rfl)), by rw [ht]; exact hP9, hD9⟩, hS.F ht⟩) hS.2.2 dX6_append_31
  · refine zr_iconst hx hb dX6_append_19 ?_
    refine lv_goto (tgt := 24) hx hb dX6_append_20 (by decide) ?_
    refine zc_i (va_runV (As := [.int (zI (zB (0 ≤ xv ∧ xv ≤ 127))), .int (zI 1)]) (rest := []) ⟨hx, hb, hml, hown, hts⟩ (met_X6_goes l D cs o s.heap.size A S T xsm xth xam f xtl xpl g (0 ≤ xv ∧ xv ≤ 127) True ) (cwV 2 hts gX6_append_X6_goes rfl rfl rfl (by decide +kernel) ⟨Nat.le_of_ble_eq_true rfl, Nat.le_of_ble_eq_true rfl⟩) ⟨zPreZ.blind, va_recv hK hP (ci := 6) (q0 := 0) rfl rfl, fun U hU hW => zp_Z hP hK hD hN hU hW⟩ rfl rfl hl.1 rfl (lv_room (Nat.le_of_ble_eq_true rfl)) dX6_append_24 ⟨Nat.le_of_ble_eq_true rfl, Nat.le_of_ble_eq_true rfl⟩) hS hD hA (fun H locs hP hD hS => ?_)
    have hP : va_P D vwCl (zmod cs o A S T xsm 2 xam f xtl xpl g) H := by rw [show zGo (0 ≤ xv ∧ xv ≤ 127) True = 2 from zGo_2 (by first | trivial | omega | (simp only [not_true, not_false_eq_true]) | (intro h; omega)) (by first | trivial | omega | (simp only [not_true, not_false_eq_true]) | (intro h; omega))] at hP; exact hP
    have hD : va_D A0 (zmod cs o A S T xsm 2 xam f xtl xpl g) := zD_addr hD rfl
    refine zr_ifb_ne (tgt := 32) hx hb dX6_append_27 (by decide) (fun c3 => ?_) (fun c3 => ?_)
    · exfalso; first | omega | (simp only [and_true, true_and] at c3; omega) | exact c3.2.elim
    · refine zr_iconst hx hb dX6_append_30 ?_
      have hP9 : va_P D vwCl (zmod cs o A S T xsm 2 xam f xtl xpl g) H := hP
      have hD9 : va_D A0 (zmod cs o A S T xsm 2 xam f xtl xpl g) := zD_addr hD rfl
      subst hAe
      exact W.iret hx hb hr (fun t ht hW => ⟨⟨_, (), rfl, (congrArg zI (show 0 = 0 from by rfl)), by rw [ht]; exact hP9, hD9⟩, hS.F ht⟩) hS.2.2 dX6_append_31
def zBo (A : Int → Int) (i t : Int) (P : Prop) [Decidable P] : Int := if P then zHigh A i t else zLow A i t
set_option maxHeartbeats 4000000 in
set_option maxRecDepth 100000 in
theorem met_X6_bound (l : Launch) (D : va_G) (cs : Nat → ClassId) (o : Nat → Nat) (A S T : Int → Int) (xsm xth xam : Int) (f : Int → Int) (xtl xpl : Int) (g : Int → Int) (xi xt : Int) (xp : Prop) [Decidable xp] (hw : zWk A) (kxi : -50000 ≤ xi ∧ xi ≤ 50000) (kxt : 0 ≤ xt ∧ xt ≤ 1000001) : Met l yX6_bound wsX6_bound ({ frames := 2, cells := 0, slots := 0, locals := 45 }) (va_Pc [.ref (o 0), .long (zL xi), .long (zL xt), .int (zI (zB (xp)))] (zPre D (zTy cs) (zmod cs o A S T xsm xth xam f xtl xpl g))) (zRl (zL (zBo A xi xt xp))) 0 0 (fun _ => False) := by
  refine Met.ofW (cc := cX6_bound) (maxL := 10) (ret := (some .long)) (by decide) rfl ?_
  intro p e s m args below meth c s₁ B hml hv
  obtain ⟨rfl, hP, hK, hD0, hN⟩ := hv
  have hx := B.exec
  have hb := B.bytes
  have hr := B.returns
  have hts := atoms_spec (ws := wsX6_bound) B.pre
  have hown : s.vm.findClass RX6 = some m.cls := findClass_of_methodNamed B.named
  have hlocks := B.notSynchronized
  have hD := hD0
  have hl := lv_entry ([.ref (o 0), .long (zL xi), .long (zL xt), .int (zI (zB (xp)))]) (n := 10) (Nat.le_of_ble_eq_true rfl)
  rw [lg_entry_eq]
  generalize (lg_sl ([.ref (o 0), .long (zL xi), .long (zL xt), .int (zI (zB (xp)))]) ++ List.replicate (10 - (lg_sl ([.ref (o 0), .long (zL xi), .long (zL xt), .int (zI (zB (xp)))])).length) Slot.unset).toArray = ls at hl ⊢
  have hl : lv_has ls 10 [(0, .ref (o 0)), (1, .long (zL xi)), (3, .long (zL xt)), (5, .int (zI (zB (xp))))] := hl
  have hiX6 : ∀ w ∈ wsX60, w ∈ wsX6_bound := by decide +kernel
  obtain ⟨hst, hC, q35, q36⟩ := id hw
  have hMv := zMov_w hw kxi kxt
  have hDr := zDrf_w hw (c := zMov A xi xt) (t := xt) (by omega) kxt
  refine lv_aload_n hx hb dX6_bound_0 rfl (lv_at hl 0 rfl) ?_
  refine lv_lload_n hx hb dX6_bound_1 rfl (lv_at hl 1 rfl) ?_
  refine lv_lload_n hx hb dX6_bound_2 rfl (lv_at hl 2 rfl) ?_
  refine zc_rl (va_runV (As := [.long (zL xi), .long (zL xt)]) (rest := []) ⟨hx, hb, hml, hown, hts⟩ (met_X6_counts l D cs o A S T xsm xth xam f xtl xpl g xi xt (by first | assumption | exact zOK_w (by assumption)) (by first | assumption | omega) (by first | assumption | omega)) (cwV 2 hts gX6_bound_X6_counts rfl rfl rfl (by decide +kernel) ⟨Nat.le_of_ble_eq_true rfl, Nat.le_of_ble_eq_true rfl⟩) ⟨zPre.blind, va_recv hK hP (ci := 6) (q0 := 0) rfl rfl, fun U hU hW => zp_R hP hK hD hN hU hW⟩ rfl rfl hl.1 rfl (lv_room (Nat.le_of_ble_eq_true rfl)) dX6_bound_3 ⟨Nat.le_of_ble_eq_true rfl, Nat.le_of_ble_eq_true rfl⟩) ?_
  refine lv_lstore (lv' := [(6, .long (zL (zMov A xi xt))), (0, .ref (o 0)), (1, .long (zL xi)), (3, .long (zL xt)), (5, .int (zI (zB (xp))))]) hx hb dX6_bound_6 hl (by decide) rfl (fun ls hl => ?_)
  refine lv_aload_n hx hb dX6_bound_8 rfl (lv_at hl 1 rfl) ?_
  refine lv_lload hx hb dX6_bound_9 (lv_at hl 0 rfl) ?_
  refine lv_lload_n hx hb dX6_bound_11 rfl (lv_at hl 3 rfl) ?_
  refine zc_rl (va_runV (As := [.long (zL (zMov A xi xt)), .long (zL xt)]) (rest := []) ⟨hx, hb, hml, hown, hts⟩ (met_X6_drift l D cs o A S T xsm xth xam f xtl xpl g (zMov A xi xt) xt (by first | assumption | exact zOK_w (by assumption)) (by first | assumption | omega) (by first | assumption | omega)) (cwV 2 hts gX6_bound_X6_drift rfl rfl rfl (by decide +kernel) ⟨Nat.le_of_ble_eq_true rfl, Nat.le_of_ble_eq_true rfl⟩) ⟨zPre.blind, va_recv hK hP (ci := 6) (q0 := 0) rfl rfl, fun U hU hW => zp_R hP hK hD hN hU hW⟩ rfl rfl hl.1 rfl (lv_room (Nat.le_of_ble_eq_true rfl)) dX6_bound_12 ⟨Nat.le_of_ble_eq_true rfl, Nat.le_of_ble_eq_true rfl⟩) ?_
  refine lv_lstore (lv' := [(8, .long (zL (zDrf A (zMov A xi xt) xt))), (6, .long (zL (zMov A xi xt))), (0, .ref (o 0)), (1, .long (zL xi)), (3, .long (zL xt)), (5, .int (zI (zB (xp))))]) hx hb dX6_bound_15 hl (by decide) rfl (fun ls hl => ?_)
  refine lv_iload hx hb dX6_bound_17 (lv_at hl 5 rfl) ?_
  refine zr_ifb_eq (tgt := 49) hx hb dX6_bound_19 (by decide) (fun c1 => ?_) (fun c1 => ?_)
  · refine lv_aload_n hx hb dX6_bound_49 rfl (lv_at hl 2 rfl) ?_
    refine va_get (D := D) (ci := 6) (v := .ref (o 1)) (C := RX6) (T := TX6) (N := 10) hx hb hts hiX6 hown hK hP 0 rfl rfl 0 (by decide) (hts (.fieldLink RX6 7 "ChargeEstimatorModel" "all" "[J") (List.mem_of_getElem? (i := 1) rfl)) (fun _ h9 => h9) rfl dX6_bound_50 ?_
    refine zr_bipush hx hb dX6_bound_53 (by decide) ?_
    refine zr_lald (D := D) (g := A) hx hb hK hP 1 2 rfl rfl (by decide) (by decide) dX6_bound_55 ?_
    refine lv_lload hx hb dX6_bound_56 (lv_at hl 1 rfl) ?_
    refine zr_ladd hx hb dX6_bound_58 ?_
    refine lv_lload hx hb dX6_bound_59 (lv_at hl 0 rfl) ?_
    refine zr_lsub hx hb dX6_bound_61 ?_
    refine zr_lconst0 hx hb dX6_bound_62 ?_
    refine lv_aload_n hx hb dX6_bound_63 rfl (lv_at hl 2 rfl) ?_
    refine va_get (D := D) (ci := 6) (v := .ref (o 1)) (C := RX6) (T := TX6) (N := 10) hx hb hts hiX6 hown hK hP 0 rfl rfl 0 (by decide) (hts (.fieldLink RX6 7 "ChargeEstimatorModel" "all" "[J") (List.mem_of_getElem? (i := 1) rfl)) (fun _ h9 => h9) rfl dX6_bound_64 ?_
    refine zr_bipush hx hb dX6_bound_67 (by decide) ?_
    refine zr_lald (D := D) (g := A) hx hb hK hP 1 2 rfl rfl (by decide) (by decide) dX6_bound_69 ?_
    refine zc_rl (va_runS (As := [.long (zL (((A 35) + (zMov A xi xt)) - (zDrf A (zMov A xi xt) xt))), .long (zL 0), .long (zL (A 37))]) (rest := []) ⟨hx, hb, hml, hown, hts⟩ (met_X6_clamp l (((A 35) + (zMov A xi xt)) - (zDrf A (zMov A xi xt) xt)) 0 (A 37) (by first | assumption | omega) (by first | assumption | omega) (by first | assumption | omega)) (va_cwS 3 hts gX6_bound_X6_clamp rfl rfl rfl (by decide +kernel) ⟨Nat.le_of_ble_eq_true rfl, Nat.le_of_ble_eq_true rfl⟩) ⟨zTrue.blind, fun U hU hW => ⟨rfl, trivial⟩⟩ rfl rfl hl.1 rfl (lv_room (Nat.le_of_ble_eq_true rfl)) dX6_bound_70 ⟨Nat.le_of_ble_eq_true rfl, Nat.le_of_ble_eq_true rfl⟩) ?_
    exact W.lret hx hb hr (fun t ht hW => ⟨_, rfl, (congrArg zL (show zclamp (((A 35) + (zMov A xi xt)) - (zDrf A (zMov A xi xt) xt)) 0 (A 37) = zBo A xi xt xp from by unfold zBo; first | (rw [if_pos (by assumption)]; rfl) | (rw [if_neg (by assumption)]; rfl))), ht⟩) (fun q hq => absurd hq List.not_mem_nil) dX6_bound_73
  · refine lv_aload_n hx hb dX6_bound_22 rfl (lv_at hl 2 rfl) ?_
    refine va_get (D := D) (ci := 6) (v := .ref (o 1)) (C := RX6) (T := TX6) (N := 10) hx hb hts hiX6 hown hK hP 0 rfl rfl 0 (by decide) (hts (.fieldLink RX6 7 "ChargeEstimatorModel" "all" "[J") (List.mem_of_getElem? (i := 1) rfl)) (fun _ h9 => h9) rfl dX6_bound_23 ?_
    refine zr_bipush hx hb dX6_bound_26 (by decide) ?_
    refine zr_lald (D := D) (g := A) hx hb hK hP 1 2 rfl rfl (by decide) (by decide) dX6_bound_28 ?_
    refine lv_lload hx hb dX6_bound_29 (lv_at hl 1 rfl) ?_
    refine zr_ladd hx hb dX6_bound_31 ?_
    refine lv_lload hx hb dX6_bound_32 (lv_at hl 0 rfl) ?_
    refine zr_ladd hx hb dX6_bound_34 ?_
    refine zr_lconst0 hx hb dX6_bound_35 ?_
    refine lv_aload_n hx hb dX6_bound_36 rfl (lv_at hl 2 rfl) ?_
    refine va_get (D := D) (ci := 6) (v := .ref (o 1)) (C := RX6) (T := TX6) (N := 10) hx hb hts hiX6 hown hK hP 0 rfl rfl 0 (by decide) (hts (.fieldLink RX6 7 "ChargeEstimatorModel" "all" "[J") (List.mem_of_getElem? (i := 1) rfl)) (fun _ h9 => h9) rfl dX6_bound_37 ?_
    refine zr_bipush hx hb dX6_bound_40 (by decide) ?_
    refine zr_lald (D := D) (g := A) hx hb hK hP 1 2 rfl rfl (by decide) (by decide) dX6_bound_42 ?_
    refine zc_rl (va_runS (As := [.long (zL (((A 36) + (zMov A xi xt)) + (zDrf A (zMov A xi xt) xt))), .long (zL 0), .long (zL (A 37))]) (rest := []) ⟨hx, hb, hml, hown, hts⟩ (met_X6_clamp l (((A 36) + (zMov A xi xt)) + (zDrf A (zMov A xi xt) xt)) 0 (A 37) (by first | assumption | omega) (by first | assumption | omega) (by first | assumption | omega)) (va_cwS 3 hts gX6_bound_X6_clamp rfl rfl rfl (by decide +kernel) ⟨Nat.le_of_ble_eq_true rfl, Nat.le_of_ble_eq_true rfl⟩) ⟨zTrue.blind, fun U hU hW => ⟨rfl, trivial⟩⟩ rfl rfl hl.1 rfl (lv_room (Nat.le_of_ble_eq_true rfl)) dX6_bound_43 ⟨Nat.le_of_ble_eq_true rfl, Nat.le_of_ble_eq_true rfl⟩) ?_
    refine lv_goto (tgt := 73) hx hb dX6_bound_46 (by decide) ?_
    exact W.lret hx hb hr (fun t ht hW => ⟨_, rfl, (congrArg zL (show zclamp (((A 36) + (zMov A xi xt)) + (zDrf A (zMov A xi xt) xt)) 0 (A 37) = zBo A xi xt xp from by unfold zBo; first | (rw [if_pos (by assumption)]; rfl) | (rw [if_neg (by assumption)]; rfl))), ht⟩) (fun q hq => absurd hq List.not_mem_nil) dX6_bound_73
set_option maxHeartbeats 4000000 in
set_option maxRecDepth 100000 in
theorem met_X6_anchor_ok (l : Launch) (D : va_G) (cs : Nat → ClassId) (o : Nat → Nat) (sz : Nat) (A S T : Int → Int) (xsm xth xam : Int) (f : Int → Int) (xtl xpl : Int) (g : Int → Int) (n : Int) (xa xw : Int) (hI : zOK n A) (hn : 0 ≤ n ∧ n ≤ 3100000) (rxa : -2147483648 ≤ xa ∧ xa ≤ 2147483647) (rxw : -2147483648 ≤ xw ∧ xw ≤ 2147483647) (kok : (0 ≤ xa ∧ xa < A 52) ∧ 0 ≤ xw ∧ xw ≤ 3) : Met l yX6_anchor wsX6_anchor ({ frames := 1, cells := 0, slots := 0, locals := 25 }) (va_Pc [.ref (o 0), .int (zI xa), .int (zI xw)] (zPreZ D (zTy cs) (zmod cs o A S T xsm xth xam f xtl xpl g) sz)) (zQi D (zmod cs o A S T xsm xth xam f xtl xpl g) sz (zI (A (53 + (4 * xa + xw)))) (zmod cs o A S T xsm 0 xam f xtl xpl g)) 0 0 (va_A (zmod cs o A S T xsm xth xam f xtl xpl g) sz) := by
  refine Met.ofW (cc := cX6_anchor) (maxL := 3) (ret := (some .int)) (by decide) rfl ?_
  intro p e s m args below meth c s₁ B hml hv
  obtain ⟨rfl, hsz, hP, hK, hD0, hN⟩ := hv
  have hx := B.exec
  have hb := B.bytes
  have hr := B.returns
  have hts := atoms_spec (ws := wsX6_anchor) B.pre
  have hown : s.vm.findClass RX6 = some m.cls := findClass_of_methodNamed B.named
  have hlocks := B.notSynchronized
  subst hsz
  obtain ⟨A0, hAe⟩ : ∃ A0, A0 = va_A (zmod cs o A S T xsm xth xam f xtl xpl g) s.heap.size := ⟨_, rfl⟩
  have hD := hD0.self (sz := s.heap.size)
  rw [← hAe] at hD
  have hA : ∀ q : Nat, s.heap.size ≤ q → A0 q := fun q h => by rw [hAe]; exact Or.inr h
  have hS : va_S A0 s.heap s.heap [] := va_S.rf
  have hP : va_P D vwCl (zmod cs o A S T xsm xth xam f xtl xpl g) s.heap := hP
  have hl := lv_entry ([.ref (o 0), .int (zI xa), .int (zI xw)]) (n := 3) (Nat.le_of_ble_eq_true rfl)
  rw [lg_entry_eq]
  generalize (lg_sl ([.ref (o 0), .int (zI xa), .int (zI xw)]) ++ List.replicate (3 - (lg_sl ([.ref (o 0), .int (zI xa), .int (zI xw)])).length) Slot.unset).toArray = ls at hl ⊢
  have hl : lv_has ls 3 [(0, .ref (o 0)), (1, .int (zI xa)), (2, .int (zI xw))] := hl
  have hiX6 : ∀ w ∈ wsX60, w ∈ wsX6_anchor := by decide +kernel
  obtain ⟨qN, qC, qQ, qL, qH, q40, q41, q42, q43, q44, q45, q46, q47, q48, q49, q50, q51, q52, qhad, qlast, qrow⟩ := zOK_q hI
  refine lv_aload_n hx hb dX6_anchor_0 rfl (lv_at hl 0 rfl) ?_
  refine lv_iload_n hx hb dX6_anchor_1 rfl (lv_at hl 1 rfl) ?_
  refine zr_i2l hx hb dX6_anchor_2 (by omega) ?_
  refine zr_lconst0 hx hb dX6_anchor_3 ?_
  refine lv_aload_n hx hb dX6_anchor_4 rfl (lv_at hl 0 rfl) ?_
  refine va_get (D := D) (ci := 6) (v := .ref (o 1)) (C := RX6) (T := TX6) (N := 10) hx hb hts hiX6 hown hK hP 0 rfl rfl 0 (by decide) (hts (.fieldLink RX6 7 "ChargeEstimatorModel" "all" "[J") (List.mem_of_getElem? (i := 1) rfl)) (fun _ h9 => h9) rfl dX6_anchor_5 ?_
  refine zr_bipush hx hb dX6_anchor_8 (by decide) ?_
  refine zr_lald (D := D) (g := A) hx hb hK hP 1 2 rfl rfl (by decide) (by decide) dX6_anchor_10 ?_
  refine zr_lconst1 hx hb dX6_anchor_11 ?_
  refine zr_lsub hx hb dX6_anchor_12 ?_
  refine zc_ri (va_runS (As := [.long (zL xa), .long (zL 0), .long (zL ((A 52) - 1))]) (rest := [.ref (o 0)]) ⟨hx, hb, hml, hown, hts⟩ (met_X6_in l xa 0 ((A 52) - 1) (by first | assumption | omega) (by first | assumption | omega) (by first | assumption | omega)) (va_cwS 3 hts gX6_anchor_X6_in rfl rfl rfl (by decide +kernel) ⟨Nat.le_of_ble_eq_true rfl, Nat.le_of_ble_eq_true rfl⟩) ⟨zTrue.blind, fun U hU hW => ⟨rfl, trivial⟩⟩ rfl rfl hl.1 rfl (lv_room (Nat.le_of_ble_eq_true rfl)) dX6_anchor_13 ⟨Nat.le_of_ble_eq_true rfl, Nat.le_of_ble_eq_true rfl⟩) ?_
  refine lv_iload_n hx hb dX6_anchor_16 rfl (lv_at hl 2 rfl) ?_
  refine zr_i2l hx hb dX6_anchor_17 (by omega) ?_
  refine zr_lconst0 hx hb dX6_anchor_18 ?_
  refine zr_ldc2 (n := 3) hx hb hown (hts (.constantLong RX6 155 (3)) (List.mem_of_getElem? (i := 2) rfl)) rfl dX6_anchor_19 ?_
  refine zc_ri (va_runS (As := [.long (zL xw), .long (zL 0), .long (zL 3)]) (rest := [.int (zI (zB (0 ≤ xa ∧ xa ≤ ((A 52) - 1)))), .ref (o 0)]) ⟨hx, hb, hml, hown, hts⟩ (met_X6_in l xw 0 3 (by first | assumption | omega) (by first | assumption | omega) (by first | assumption | omega)) (va_cwS 3 hts gX6_anchor_X6_in rfl rfl rfl (by decide +kernel) ⟨Nat.le_of_ble_eq_true rfl, Nat.le_of_ble_eq_true rfl⟩) ⟨zTrue.blind, fun U hU hW => ⟨rfl, trivial⟩⟩ rfl rfl hl.1 rfl (lv_room (Nat.le_of_ble_eq_true rfl)) dX6_anchor_22 ⟨Nat.le_of_ble_eq_true rfl, Nat.le_of_ble_eq_true rfl⟩) ?_
  refine zc_i (va_runV (As := [.int (zI (zB (0 ≤ xa ∧ xa ≤ ((A 52) - 1)))), .int (zI (zB (0 ≤ xw ∧ xw ≤ 3)))]) (rest := []) ⟨hx, hb, hml, hown, hts⟩ (met_X6_goes l D cs o s.heap.size A S T xsm xth xam f xtl xpl g (0 ≤ xa ∧ xa ≤ ((A 52) - 1)) (0 ≤ xw ∧ xw ≤ 3) ) (cwV 2 hts gX6_anchor_X6_goes rfl rfl rfl (by decide +kernel) ⟨Nat.le_of_ble_eq_true rfl, Nat.le_of_ble_eq_true rfl⟩) ⟨zPreZ.blind, va_recv hK hP (ci := 6) (q0 := 0) rfl rfl, fun U hU hW => zp_Z hP hK hD hN hU hW⟩ rfl rfl hl.1 rfl (lv_room (Nat.le_of_ble_eq_true rfl)) dX6_anchor_25 ⟨Nat.le_of_ble_eq_true rfl, Nat.le_of_ble_eq_true rfl⟩) hS hD hA (fun H locs hP hD hS => ?_)
  have hP : va_P D vwCl (zmod cs o A S T xsm 0 xam f xtl xpl g) H := by rw [show zGo (0 ≤ xa ∧ xa ≤ ((A 52) - 1)) (0 ≤ xw ∧ xw ≤ 3) = 0 from zGo_0 (by first | trivial | omega | (simp only [not_true, not_false_eq_true]) | (intro h; omega)) (by first | trivial | omega | (simp only [not_true, not_false_eq_true]) | (intro h; omega))] at hP; exact hP
  have hD : va_D A0 (zmod cs o A S T xsm 0 xam f xtl xpl g) := zD_addr hD rfl
  refine zr_ifb_eq (tgt := 48) hx hb dX6_anchor_28 (by decide) (fun c1 => ?_) (fun c1 => ?_)
  · exfalso; first | omega | (simp only [and_true, true_and] at c1; omega) | exact c1.2.elim
  · refine lv_aload_n hx hb dX6_anchor_31 rfl (lv_at hl 0 rfl) ?_
    refine va_get (D := D) (ci := 6) (v := .ref (o 1)) (C := RX6) (T := TX6) (N := 10) hx hb hts hiX6 hown hK hP 0 rfl rfl 0 (by decide) (hts (.fieldLink RX6 7 "ChargeEstimatorModel" "all" "[J") (List.mem_of_getElem? (i := 1) rfl)) (fun _ h9 => h9) rfl dX6_anchor_32 ?_
    refine zr_bipush hx hb dX6_anchor_35 (by decide) ?_
    refine zr_iconst hx hb dX6_anchor_37 ?_
    refine lv_iload_n hx hb dX6_anchor_38 rfl (lv_at hl 1 rfl) ?_
    refine zr_imul hx hb dX6_anchor_39 ?_
    refine zr_iadd hx hb dX6_anchor_40 ?_
    refine lv_iload_n hx hb dX6_anchor_41 rfl (lv_at hl 2 rfl) ?_
    refine zr_iadd hx hb dX6_anchor_42 ?_
    refine zr_lald (D := D) (g := A) hx hb hK hP 1 2 rfl rfl (by decide) (by omega) dX6_anchor_43 ?_
    refine zr_l2i hx hb dX6_anchor_44 ?_
    refine lv_goto (tgt := 49) hx hb dX6_anchor_45 (by decide) ?_
    have hP9 : va_P D vwCl (zmod cs o A S T xsm 0 xam f xtl xpl g) H := hP
    have hD9 : va_D A0 (zmod cs o A S T xsm 0 xam f xtl xpl g) := zD_addr hD rfl
    subst hAe
    exact W.iret hx hb hr (fun t ht hW => ⟨⟨_, (), rfl, (congrArg zI (show A ((53 + (4 * xa)) + xw) = A (53 + (4 * xa + xw)) from by congr 1; omega)), by rw [ht]; exact hP9, hD9⟩, hS.F ht⟩) hS.2.2 dX6_anchor_49
set_option maxHeartbeats 4000000 in
set_option maxRecDepth 100000 in
theorem met_X6_anchor_no1 (l : Launch) (D : va_G) (cs : Nat → ClassId) (o : Nat → Nat) (sz : Nat) (A S T : Int → Int) (xsm xth xam : Int) (f : Int → Int) (xtl xpl : Int) (g : Int → Int) (n : Int) (xa xw : Int) (hI : zOK n A) (hn : 0 ≤ n ∧ n ≤ 3100000) (rxa : -2147483648 ≤ xa ∧ xa ≤ 2147483647) (rxw : -2147483648 ≤ xw ∧ xw ≤ 2147483647) (kno : ¬ (0 ≤ xa ∧ xa < A 52)) : Met l yX6_anchor wsX6_anchor ({ frames := 1, cells := 0, slots := 0, locals := 25 }) (va_Pc [.ref (o 0), .int (zI xa), .int (zI xw)] (zPreZ D (zTy cs) (zmod cs o A S T xsm xth xam f xtl xpl g) sz)) (zQi D (zmod cs o A S T xsm xth xam f xtl xpl g) sz (zI (0)) (zmod cs o A S T xsm 1 xam f xtl xpl g)) 0 0 (va_A (zmod cs o A S T xsm xth xam f xtl xpl g) sz) := by
  refine Met.ofW (cc := cX6_anchor) (maxL := 3) (ret := (some .int)) (by decide) rfl ?_
  intro p e s m args below meth c s₁ B hml hv
  obtain ⟨rfl, hsz, hP, hK, hD0, hN⟩ := hv
  have hx := B.exec
  have hb := B.bytes
  have hr := B.returns
  have hts := atoms_spec (ws := wsX6_anchor) B.pre
  have hown : s.vm.findClass RX6 = some m.cls := findClass_of_methodNamed B.named
  have hlocks := B.notSynchronized
  subst hsz
  obtain ⟨A0, hAe⟩ : ∃ A0, A0 = va_A (zmod cs o A S T xsm xth xam f xtl xpl g) s.heap.size := ⟨_, rfl⟩
  have hD := hD0.self (sz := s.heap.size)
  rw [← hAe] at hD
  have hA : ∀ q : Nat, s.heap.size ≤ q → A0 q := fun q h => by rw [hAe]; exact Or.inr h
  have hS : va_S A0 s.heap s.heap [] := va_S.rf
  have hP : va_P D vwCl (zmod cs o A S T xsm xth xam f xtl xpl g) s.heap := hP
  have hl := lv_entry ([.ref (o 0), .int (zI xa), .int (zI xw)]) (n := 3) (Nat.le_of_ble_eq_true rfl)
  rw [lg_entry_eq]
  generalize (lg_sl ([.ref (o 0), .int (zI xa), .int (zI xw)]) ++ List.replicate (3 - (lg_sl ([.ref (o 0), .int (zI xa), .int (zI xw)])).length) Slot.unset).toArray = ls at hl ⊢
  have hl : lv_has ls 3 [(0, .ref (o 0)), (1, .int (zI xa)), (2, .int (zI xw))] := hl
  have hiX6 : ∀ w ∈ wsX60, w ∈ wsX6_anchor := by decide +kernel
  obtain ⟨qN, qC, qQ, qL, qH, q40, q41, q42, q43, q44, q45, q46, q47, q48, q49, q50, q51, q52, qhad, qlast, qrow⟩ := zOK_q hI
  refine lv_aload_n hx hb dX6_anchor_0 rfl (lv_at hl 0 rfl) ?_
  refine lv_iload_n hx hb dX6_anchor_1 rfl (lv_at hl 1 rfl) ?_
  refine zr_i2l hx hb dX6_anchor_2 (by omega) ?_
  refine zr_lconst0 hx hb dX6_anchor_3 ?_
  refine lv_aload_n hx hb dX6_anchor_4 rfl (lv_at hl 0 rfl) ?_
  refine va_get (D := D) (ci := 6) (v := .ref (o 1)) (C := RX6) (T := TX6) (N := 10) hx hb hts hiX6 hown hK hP 0 rfl rfl 0 (by decide) (hts (.fieldLink RX6 7 "ChargeEstimatorModel" "all" "[J") (List.mem_of_getElem? (i := 1) rfl)) (fun _ h9 => h9) rfl dX6_anchor_5 ?_
  refine zr_bipush hx hb dX6_anchor_8 (by decide) ?_
  refine zr_lald (D := D) (g := A) hx hb hK hP 1 2 rfl rfl (by decide) (by decide) dX6_anchor_10 ?_
  refine zr_lconst1 hx hb dX6_anchor_11 ?_
  refine zr_lsub hx hb dX6_anchor_12 ?_
  refine zc_ri (va_runS (As := [.long (zL xa), .long (zL 0), .long (zL ((A 52) - 1))]) (rest := [.ref (o 0)]) ⟨hx, hb, hml, hown, hts⟩ (met_X6_in l xa 0 ((A 52) - 1) (by first | assumption | omega) (by first | assumption | omega) (by first | assumption | omega)) (va_cwS 3 hts gX6_anchor_X6_in rfl rfl rfl (by decide +kernel) ⟨Nat.le_of_ble_eq_true rfl, Nat.le_of_ble_eq_true rfl⟩) ⟨zTrue.blind, fun U hU hW => ⟨rfl, trivial⟩⟩ rfl rfl hl.1 rfl (lv_room (Nat.le_of_ble_eq_true rfl)) dX6_anchor_13 ⟨Nat.le_of_ble_eq_true rfl, Nat.le_of_ble_eq_true rfl⟩) ?_
  refine lv_iload_n hx hb dX6_anchor_16 rfl (lv_at hl 2 rfl) ?_
  refine zr_i2l hx hb dX6_anchor_17 (by omega) ?_
  refine zr_lconst0 hx hb dX6_anchor_18 ?_
  refine zr_ldc2 (n := 3) hx hb hown (hts (.constantLong RX6 155 (3)) (List.mem_of_getElem? (i := 2) rfl)) rfl dX6_anchor_19 ?_
  refine zc_ri (va_runS (As := [.long (zL xw), .long (zL 0), .long (zL 3)]) (rest := [.int (zI (zB (0 ≤ xa ∧ xa ≤ ((A 52) - 1)))), .ref (o 0)]) ⟨hx, hb, hml, hown, hts⟩ (met_X6_in l xw 0 3 (by first | assumption | omega) (by first | assumption | omega) (by first | assumption | omega)) (va_cwS 3 hts gX6_anchor_X6_in rfl rfl rfl (by decide +kernel) ⟨Nat.le_of_ble_eq_true rfl, Nat.le_of_ble_eq_true rfl⟩) ⟨zTrue.blind, fun U hU hW => ⟨rfl, trivial⟩⟩ rfl rfl hl.1 rfl (lv_room (Nat.le_of_ble_eq_true rfl)) dX6_anchor_22 ⟨Nat.le_of_ble_eq_true rfl, Nat.le_of_ble_eq_true rfl⟩) ?_
  refine zc_i (va_runV (As := [.int (zI (zB (0 ≤ xa ∧ xa ≤ ((A 52) - 1)))), .int (zI (zB (0 ≤ xw ∧ xw ≤ 3)))]) (rest := []) ⟨hx, hb, hml, hown, hts⟩ (met_X6_goes l D cs o s.heap.size A S T xsm xth xam f xtl xpl g (0 ≤ xa ∧ xa ≤ ((A 52) - 1)) (0 ≤ xw ∧ xw ≤ 3) ) (cwV 2 hts gX6_anchor_X6_goes rfl rfl rfl (by decide +kernel) ⟨Nat.le_of_ble_eq_true rfl, Nat.le_of_ble_eq_true rfl⟩) ⟨zPreZ.blind, va_recv hK hP (ci := 6) (q0 := 0) rfl rfl, fun U hU hW => zp_Z hP hK hD hN hU hW⟩ rfl rfl hl.1 rfl (lv_room (Nat.le_of_ble_eq_true rfl)) dX6_anchor_25 ⟨Nat.le_of_ble_eq_true rfl, Nat.le_of_ble_eq_true rfl⟩) hS hD hA (fun H locs hP hD hS => ?_)
  have hP : va_P D vwCl (zmod cs o A S T xsm 1 xam f xtl xpl g) H := by rw [show zGo (0 ≤ xa ∧ xa ≤ ((A 52) - 1)) (0 ≤ xw ∧ xw ≤ 3) = 1 from zGo_1 (by first | trivial | omega | (simp only [not_true, not_false_eq_true]) | (intro h; omega))] at hP; exact hP
  have hD : va_D A0 (zmod cs o A S T xsm 1 xam f xtl xpl g) := zD_addr hD rfl
  refine zr_ifb_eq (tgt := 48) hx hb dX6_anchor_28 (by decide) (fun c1 => ?_) (fun c1 => ?_)
  · refine zr_iconst hx hb dX6_anchor_48 ?_
    have hP9 : va_P D vwCl (zmod cs o A S T xsm 1 xam f xtl xpl g) H := hP
    have hD9 : va_D A0 (zmod cs o A S T xsm 1 xam f xtl xpl g) := zD_addr hD rfl
    subst hAe
    exact W.iret hx hb hr (fun t ht hW => ⟨⟨_, (), rfl, (congrArg zI (show 0 = 0 from by rfl)), by rw [ht]; exact hP9, hD9⟩, hS.F ht⟩) hS.2.2 dX6_anchor_49
  · exfalso; first | omega | (simp only [and_true, true_and] at c1; omega) | exact c1.2.elim
set_option maxHeartbeats 4000000 in
set_option maxRecDepth 100000 in
theorem met_X6_anchor_no2 (l : Launch) (D : va_G) (cs : Nat → ClassId) (o : Nat → Nat) (sz : Nat) (A S T : Int → Int) (xsm xth xam : Int) (f : Int → Int) (xtl xpl : Int) (g : Int → Int) (n : Int) (xa xw : Int) (hI : zOK n A) (hn : 0 ≤ n ∧ n ≤ 3100000) (rxa : -2147483648 ≤ xa ∧ xa ≤ 2147483647) (rxw : -2147483648 ≤ xw ∧ xw ≤ 2147483647) (kno : (0 ≤ xa ∧ xa < A 52) ∧ ¬ (0 ≤ xw ∧ xw ≤ 3)) : Met l yX6_anchor wsX6_anchor ({ frames := 1, cells := 0, slots := 0, locals := 25 }) (va_Pc [.ref (o 0), .int (zI xa), .int (zI xw)] (zPreZ D (zTy cs) (zmod cs o A S T xsm xth xam f xtl xpl g) sz)) (zQi D (zmod cs o A S T xsm xth xam f xtl xpl g) sz (zI (0)) (zmod cs o A S T xsm 2 xam f xtl xpl g)) 0 0 (va_A (zmod cs o A S T xsm xth xam f xtl xpl g) sz) := by
  refine Met.ofW (cc := cX6_anchor) (maxL := 3) (ret := (some .int)) (by decide) rfl ?_
  intro p e s m args below meth c s₁ B hml hv
  obtain ⟨rfl, hsz, hP, hK, hD0, hN⟩ := hv
  have hx := B.exec
  have hb := B.bytes
  have hr := B.returns
  have hts := atoms_spec (ws := wsX6_anchor) B.pre
  have hown : s.vm.findClass RX6 = some m.cls := findClass_of_methodNamed B.named
  have hlocks := B.notSynchronized
  subst hsz
  obtain ⟨A0, hAe⟩ : ∃ A0, A0 = va_A (zmod cs o A S T xsm xth xam f xtl xpl g) s.heap.size := ⟨_, rfl⟩
  have hD := hD0.self (sz := s.heap.size)
  rw [← hAe] at hD
  have hA : ∀ q : Nat, s.heap.size ≤ q → A0 q := fun q h => by rw [hAe]; exact Or.inr h
  have hS : va_S A0 s.heap s.heap [] := va_S.rf
  have hP : va_P D vwCl (zmod cs o A S T xsm xth xam f xtl xpl g) s.heap := hP
  have hl := lv_entry ([.ref (o 0), .int (zI xa), .int (zI xw)]) (n := 3) (Nat.le_of_ble_eq_true rfl)
  rw [lg_entry_eq]
  generalize (lg_sl ([.ref (o 0), .int (zI xa), .int (zI xw)]) ++ List.replicate (3 - (lg_sl ([.ref (o 0), .int (zI xa), .int (zI xw)])).length) Slot.unset).toArray = ls at hl ⊢
  have hl : lv_has ls 3 [(0, .ref (o 0)), (1, .int (zI xa)), (2, .int (zI xw))] := hl
  have hiX6 : ∀ w ∈ wsX60, w ∈ wsX6_anchor := by decide +kernel
  obtain ⟨qN, qC, qQ, qL, qH, q40, q41, q42, q43, q44, q45, q46, q47, q48, q49, q50, q51, q52, qhad, qlast, qrow⟩ := zOK_q hI
  refine lv_aload_n hx hb dX6_anchor_0 rfl (lv_at hl 0 rfl) ?_
  refine lv_iload_n hx hb dX6_anchor_1 rfl (lv_at hl 1 rfl) ?_
  refine zr_i2l hx hb dX6_anchor_2 (by omega) ?_
  refine zr_lconst0 hx hb dX6_anchor_3 ?_
  refine lv_aload_n hx hb dX6_anchor_4 rfl (lv_at hl 0 rfl) ?_
  refine va_get (D := D) (ci := 6) (v := .ref (o 1)) (C := RX6) (T := TX6) (N := 10) hx hb hts hiX6 hown hK hP 0 rfl rfl 0 (by decide) (hts (.fieldLink RX6 7 "ChargeEstimatorModel" "all" "[J") (List.mem_of_getElem? (i := 1) rfl)) (fun _ h9 => h9) rfl dX6_anchor_5 ?_
  refine zr_bipush hx hb dX6_anchor_8 (by decide) ?_
  refine zr_lald (D := D) (g := A) hx hb hK hP 1 2 rfl rfl (by decide) (by decide) dX6_anchor_10 ?_
  refine zr_lconst1 hx hb dX6_anchor_11 ?_
  refine zr_lsub hx hb dX6_anchor_12 ?_
  refine zc_ri (va_runS (As := [.long (zL xa), .long (zL 0), .long (zL ((A 52) - 1))]) (rest := [.ref (o 0)]) ⟨hx, hb, hml, hown, hts⟩ (met_X6_in l xa 0 ((A 52) - 1) (by first | assumption | omega) (by first | assumption | omega) (by first | assumption | omega)) (va_cwS 3 hts gX6_anchor_X6_in rfl rfl rfl (by decide +kernel) ⟨Nat.le_of_ble_eq_true rfl, Nat.le_of_ble_eq_true rfl⟩) ⟨zTrue.blind, fun U hU hW => ⟨rfl, trivial⟩⟩ rfl rfl hl.1 rfl (lv_room (Nat.le_of_ble_eq_true rfl)) dX6_anchor_13 ⟨Nat.le_of_ble_eq_true rfl, Nat.le_of_ble_eq_true rfl⟩) ?_
  refine lv_iload_n hx hb dX6_anchor_16 rfl (lv_at hl 2 rfl) ?_
  refine zr_i2l hx hb dX6_anchor_17 (by omega) ?_
  refine zr_lconst0 hx hb dX6_anchor_18 ?_
  refine zr_ldc2 (n := 3) hx hb hown (hts (.constantLong RX6 155 (3)) (List.mem_of_getElem? (i := 2) rfl)) rfl dX6_anchor_19 ?_
  refine zc_ri (va_runS (As := [.long (zL xw), .long (zL 0), .long (zL 3)]) (rest := [.int (zI (zB (0 ≤ xa ∧ xa ≤ ((A 52) - 1)))), .ref (o 0)]) ⟨hx, hb, hml, hown, hts⟩ (met_X6_in l xw 0 3 (by first | assumption | omega) (by first | assumption | omega) (by first | assumption | omega)) (va_cwS 3 hts gX6_anchor_X6_in rfl rfl rfl (by decide +kernel) ⟨Nat.le_of_ble_eq_true rfl, Nat.le_of_ble_eq_true rfl⟩) ⟨zTrue.blind, fun U hU hW => ⟨rfl, trivial⟩⟩ rfl rfl hl.1 rfl (lv_room (Nat.le_of_ble_eq_true rfl)) dX6_anchor_22 ⟨Nat.le_of_ble_eq_true rfl, Nat.le_of_ble_eq_true rfl⟩) ?_
  refine zc_i (va_runV (As := [.int (zI (zB (0 ≤ xa ∧ xa ≤ ((A 52) - 1)))), .int (zI (zB (0 ≤ xw ∧ xw ≤ 3)))]) (rest := []) ⟨hx, hb, hml, hown, hts⟩ (met_X6_goes l D cs o s.heap.size A S T xsm xth xam f xtl xpl g (0 ≤ xa ∧ xa ≤ ((A 52) - 1)) (0 ≤ xw ∧ xw ≤ 3) ) (cwV 2 hts gX6_anchor_X6_goes rfl rfl rfl (by decide +kernel) ⟨Nat.le_of_ble_eq_true rfl, Nat.le_of_ble_eq_true rfl⟩) ⟨zPreZ.blind, va_recv hK hP (ci := 6) (q0 := 0) rfl rfl, fun U hU hW => zp_Z hP hK hD hN hU hW⟩ rfl rfl hl.1 rfl (lv_room (Nat.le_of_ble_eq_true rfl)) dX6_anchor_25 ⟨Nat.le_of_ble_eq_true rfl, Nat.le_of_ble_eq_true rfl⟩) hS hD hA (fun H locs hP hD hS => ?_)
  have hP : va_P D vwCl (zmod cs o A S T xsm 2 xam f xtl xpl g) H := by rw [show zGo (0 ≤ xa ∧ xa ≤ ((A 52) - 1)) (0 ≤ xw ∧ xw ≤ 3) = 2 from zGo_2 (by first | trivial | omega | (simp only [not_true, not_false_eq_true]) | (intro h; omega)) (by first | trivial | omega | (simp only [not_true, not_false_eq_true]) | (intro h; omega))] at hP; exact hP
  have hD : va_D A0 (zmod cs o A S T xsm 2 xam f xtl xpl g) := zD_addr hD rfl
  refine zr_ifb_eq (tgt := 48) hx hb dX6_anchor_28 (by decide) (fun c1 => ?_) (fun c1 => ?_)
  · refine zr_iconst hx hb dX6_anchor_48 ?_
    have hP9 : va_P D vwCl (zmod cs o A S T xsm 2 xam f xtl xpl g) H := hP
    have hD9 : va_D A0 (zmod cs o A S T xsm 2 xam f xtl xpl g) := zD_addr hD rfl
    subst hAe
    exact W.iret hx hb hr (fun t ht hW => ⟨⟨_, (), rfl, (congrArg zI (show 0 = 0 from by rfl)), by rw [ht]; exact hP9, hD9⟩, hS.F ht⟩) hS.2.2 dX6_anchor_49
  · exfalso; first | omega | (simp only [and_true, true_and] at c1; omega) | exact c1.2.elim
def zSvF (S A : Int → Int) (m : Int) : Int → Int := zC A (if m = 4 then zC S S 213 0 639 else S) 0 (213 * (if m = 4 then 3 else m)) 213
set_option maxHeartbeats 4000000 in
set_option maxRecDepth 100000 in
theorem met_X6_save (l : Launch) (D : va_G) (cs : Nat → ClassId) (o : Nat → Nat) (sz : Nat) (A S T : Int → Int) (xsm xth xam : Int) (f : Int → Int) (xtl xpl : Int) (g : Int → Int) (ksm : 0 ≤ xsm ∧ xsm ≤ 4) : Met l yX6_save wsX6_save ({ frames := 0, cells := 0, slots := 0, locals := 0 }) (va_Pc [.ref (o 0)] (zPreZ D (zTy cs) (zmod cs o A S T xsm xth xam f xtl xpl g) sz)) (zQv D (zmod cs o A S T xsm xth xam f xtl xpl g) sz (zmod cs o A (zSvF S A xsm) T (zm4 xsm) xth xam f xtl xpl g)) 0 0 (va_A (zmod cs o A S T xsm xth xam f xtl xpl g) sz) := by
  refine Met.ofW (cc := cX6_save) (maxL := 2) (ret := none) (by decide) rfl ?_
  intro p e s m args below meth c s₁ B hml hv
  obtain ⟨rfl, hsz, hP, hK, hD0, hN⟩ := hv
  have hx := B.exec
  have hb := B.bytes
  have hr := B.returns
  have hts := atoms_spec (ws := wsX6_save) B.pre
  have hown : s.vm.findClass RX6 = some m.cls := findClass_of_methodNamed B.named
  have hlocks := B.notSynchronized
  subst hsz
  obtain ⟨A0, hAe⟩ : ∃ A0, A0 = va_A (zmod cs o A S T xsm xth xam f xtl xpl g) s.heap.size := ⟨_, rfl⟩
  have hD := hD0.self (sz := s.heap.size)
  rw [← hAe] at hD
  have hA : ∀ q : Nat, s.heap.size ≤ q → A0 q := fun q h => by rw [hAe]; exact Or.inr h
  have hS : va_S A0 s.heap s.heap [] := va_S.rf
  have hP : va_P D vwCl (zmod cs o A S T xsm xth xam f xtl xpl g) s.heap := hP
  have hl := lv_entry ([.ref (o 0)]) (n := 2) (Nat.le_of_ble_eq_true rfl)
  rw [lg_entry_eq]
  generalize (lg_sl ([.ref (o 0)]) ++ List.replicate (2 - (lg_sl ([.ref (o 0)])).length) Slot.unset).toArray = ls at hl ⊢
  have hl : lv_has ls 2 [(0, .ref (o 0))] := hl
  have hiX6 : ∀ w ∈ wsX60, w ∈ wsX6_save := by decide +kernel
  have e4 : (if xsm = 4 then (3 : Int) else xsm) ≤ 3 ∧ 0 ≤ (if xsm = 4 then (3 : Int) else xsm) := by split <;> omega
  refine lv_aload_n hx hb dX6_save_0 rfl (lv_at hl 0 rfl) ?_
  refine va_get (D := D) (ci := 6) (v := .int (zI xsm)) (C := RX6) (T := TX6) (N := 10) hx hb hts hiX6 hown hK hP 0 rfl rfl 3 (by decide) (hts (.fieldLink RX6 90 "ChargeEstimatorModel" "savedMany" "I") (List.mem_of_getElem? (i := 1) rfl)) (fun _ h9 => h9) rfl dX6_save_1 ?_
  refine zr_iconst hx hb dX6_save_4 ?_
  refine zr_icmp_ne (tgt := 49) hx hb dX6_save_5 (by decide) (by omega) (by decide) (fun c1 => ?_) (fun c1 => ?_)
  · have hP : va_P D vwCl (zmod cs o A (if xsm = 4 then zC S S 213 0 639 else S) T (if xsm = 4 then 3 else xsm) xth xam f xtl xpl g) s.heap := by first | (have e5 : xsm = 4 := (by omega); have e6 : xj = 639 := (by omega); subst e5; subst e6; exact hP) | (have e5 : ¬ xsm = 4 := (by omega); rw [if_neg e5, if_neg e5]; exact hP)
    have hD : va_D A0 (zmod cs o A (if xsm = 4 then zC S S 213 0 639 else S) T (if xsm = 4 then 3 else xsm) xth xam f xtl xpl g) := zD_addr hD rfl
    refine zr_iconst hx hb dX6_save_49 ?_
    refine lv_istore_n (lv' := [(1, .int (zI 0)), (0, .ref (o 0))]) hx hb dX6_save_50 rfl hl (by decide) rfl (fun ls hl => ?_)
    suffices J_51 : ∀ (nn : Nat) (xj : Int) (jj : 0 ≤ xj ∧ xj ≤ 213) (hmu : 213 - xj < (nn : Int)) (H : Heap) (locs : List Loc) (hP : va_P D vwCl (zmod cs o A (zC A (if xsm = 4 then zC S S 213 0 639 else S) 0 (213 * (if xsm = 4 then 3 else xsm)) xj) T (if xsm = 4 then 3 else xsm) xth xam f xtl xpl g) H) (hD : va_D A0 (zmod cs o A (zC A (if xsm = 4 then zC S S 213 0 639 else S) 0 (213 * (if xsm = 4 then 3 else xsm)) xj) T (if xsm = 4 then 3 else xsm) xth xam f xtl xpl g)) (hS : va_S A0 s.heap H locs) (ls : Array Slot) (hl : lv_has ls 2 [(1, .int (zI xj)), (0, .ref (o 0))]), W p l e (headSpec wsX6_save ({ frames := 0, cells := 0, slots := 0, locals := 0 })).room s m ([.ref (o 0)] : List Value).toArray below meth c H locs 0 0 (MQ below (zQv D (zmod cs o A S T xsm xth xam f xtl xpl g) s.heap.size (zmod cs o A (zSvF S A xsm) T (zm4 xsm) xth xam f xtl xpl g)) ([.ref (o 0)] : List Value).toArray s 0 0 (va_A (zmod cs o A S T xsm xth xam f xtl xpl g) s.heap.size)) (F0 m 51 ls []) by
      exact J_51 (((213 - 0) : Int).toNat + 1) 0 (by omega) (by have : (0 : Int) ≤ 213 - 0 := (by omega); omega) _ _ (by rw [zC_0 rfl]; exact hP) (zD_addr hD rfl) hS _ (lv_sub hl [0, 1] rfl)
    intro nn
    induction nn with
    | zero => intro xj jj hmu; exfalso; have : (0 : Int) ≤ 213 - xj := (by omega); omega
    | succ nn ih =>
      intro xj jj hmu H locs hP hD hS ls hl
      refine lv_iload_n hx hb dX6_save_51 rfl (lv_at hl 0 rfl) ?_
      refine zr_sipush hx hb dX6_save_52 (by decide) ?_
      refine zr_icmp_ge (tgt := 85) hx hb dX6_save_55 (by decide) (by omega) (by decide) (fun c2 => ?_) (fun c2 => ?_)
      · refine lv_aload_n hx hb dX6_save_85 rfl (lv_at hl 1 rfl) ?_
        refine lv_dup hx hb dX6_save_86 rfl ?_
        refine va_get (D := D) (ci := 6) (v := .int (zI (if xsm = 4 then 3 else xsm))) (C := RX6) (T := TX6) (N := 10) hx hb hts hiX6 hown hK hP 0 rfl rfl 3 (by decide) (hts (.fieldLink RX6 90 "ChargeEstimatorModel" "savedMany" "I") (List.mem_of_getElem? (i := 1) rfl)) (fun _ h9 => h9) rfl dX6_save_87 ?_
        refine zr_iconst hx hb dX6_save_90 ?_
        refine zr_iadd hx hb dX6_save_91 ?_
        refine va_put (D := D) (ci := 6) (v := .int (zI ((if xsm = 4 then 3 else xsm) + 1))) (ty := .int) (C := RX6) (T := TX6) (N := 10) hx hb hts hiX6 tyX6 tyX6_ok nmX6 hown hK hP hD hS 0 rfl rfl 3 (by decide) (hts (.fieldLink RX6 90 "ChargeEstimatorModel" "savedMany" "I") (List.mem_of_getElem? (i := 1) rfl)) (fun _ h9 => h9) rfl (by decide +kernel) rfl rfl (Nat.le_of_ble_eq_true rfl) dX6_save_92 (fun H locs hP hD hS => ?_)
        have hP : va_P D vwCl (zmod cs o A (zC A (if xsm = 4 then zC S S 213 0 639 else S) 0 (213 * (if xsm = 4 then 3 else xsm)) xj) T ((if xsm = 4 then 3 else xsm) + 1) xth xam f xtl xpl g) H := hP
        have hD : va_D A0 (zmod cs o A (zC A (if xsm = 4 then zC S S 213 0 639 else S) 0 (213 * (if xsm = 4 then 3 else xsm)) xj) T ((if xsm = 4 then 3 else xsm) + 1) xth xam f xtl xpl g) := zD_addr hD rfl
        have hP8 : va_P D vwCl (zmod cs o A (zSvF S A xsm) T (zm4 xsm) xth xam f xtl xpl g) H := by
          have e6 : xj = 213 := by omega
          subst e6
          rw [show zm4 xsm = (if xsm = 4 then 3 else xsm) + 1 from by unfold zm4; split <;> omega]
          exact hP
        have hP9 : va_P D vwCl (zmod cs o A (zSvF S A xsm) T (zm4 xsm) xth xam f xtl xpl g) H := hP8
        have hD9 : va_D A0 (zmod cs o A (zSvF S A xsm) T (zm4 xsm) xth xam f xtl xpl g) := zD_addr hD rfl
        subst hAe
        exact W.vret hx hb hr (fun t ht hW => ⟨⟨(), rfl, trivial, by rw [ht]; exact hP9, hD9⟩, hS.F ht⟩) hS.2.2 dX6_save_95
      · refine lv_aload_n hx hb dX6_save_58 rfl (lv_at hl 1 rfl) ?_
        refine va_get (D := D) (ci := 6) (v := .ref (o 2)) (C := RX6) (T := TX6) (N := 10) hx hb hts hiX6 hown hK hP 0 rfl rfl 1 (by decide) (hts (.fieldLink RX6 13 "ChargeEstimatorModel" "saved" "[J") (List.mem_of_getElem? (i := 2) rfl)) (fun _ h9 => h9) rfl dX6_save_59 ?_
        refine zr_sipush hx hb dX6_save_62 (by decide) ?_
        refine lv_aload_n hx hb dX6_save_65 rfl (lv_at hl 1 rfl) ?_
        refine va_get (D := D) (ci := 6) (v := .int (zI (if xsm = 4 then 3 else xsm))) (C := RX6) (T := TX6) (N := 10) hx hb hts hiX6 hown hK hP 0 rfl rfl 3 (by decide) (hts (.fieldLink RX6 90 "ChargeEstimatorModel" "savedMany" "I") (List.mem_of_getElem? (i := 1) rfl)) (fun _ h9 => h9) rfl dX6_save_66 ?_
        refine zr_imul hx hb dX6_save_69 ?_
        refine lv_iload_n hx hb dX6_save_70 rfl (lv_at hl 0 rfl) ?_
        refine zr_iadd hx hb dX6_save_71 ?_
        refine lv_aload_n hx hb dX6_save_72 rfl (lv_at hl 1 rfl) ?_
        refine va_get (D := D) (ci := 6) (v := .ref (o 1)) (C := RX6) (T := TX6) (N := 10) hx hb hts hiX6 hown hK hP 0 rfl rfl 0 (by decide) (hts (.fieldLink RX6 7 "ChargeEstimatorModel" "all" "[J") (List.mem_of_getElem? (i := 3) rfl)) (fun _ h9 => h9) rfl dX6_save_73 ?_
        refine lv_iload_n hx hb dX6_save_76 rfl (lv_at hl 0 rfl) ?_
        refine zr_lald (D := D) (g := A) hx hb hK hP 1 2 rfl rfl (by decide) (by omega) dX6_save_77 ?_
        refine zr_last (D := D) (g := zC A (if xsm = 4 then zC S S 213 0 639 else S) 0 (213 * (if xsm = 4 then 3 else xsm)) xj) hx hb hK hP hD hS 2 2 rfl rfl (by decide) (by omega) dX6_save_78 (fun H locs hP hD hS => ?_)
        have hP : va_P D vwCl (zmod cs o A (zU (zC A (if xsm = 4 then zC S S 213 0 639 else S) 0 (213 * (if xsm = 4 then 3 else xsm)) xj) ((213 * (if xsm = 4 then 3 else xsm)) + xj) (A xj)) T (if xsm = 4 then 3 else xsm) xth xam f xtl xpl g) H := hP
        have hD : va_D A0 (zmod cs o A (zU (zC A (if xsm = 4 then zC S S 213 0 639 else S) 0 (213 * (if xsm = 4 then 3 else xsm)) xj) ((213 * (if xsm = 4 then 3 else xsm)) + xj) (A xj)) T (if xsm = 4 then 3 else xsm) xth xam f xtl xpl g) := zD_addr hD rfl
        refine zr_iinc (kk := 0) (lv' := [(1, .int (zI (xj + 1))), (0, .ref (o 0))]) hx hb dX6_save_79 hl rfl (by decide) rfl (fun ls hl => ?_)
        refine lv_goto (tgt := 51) hx hb dX6_save_82 (by decide) ?_
        exact ih (xj + 1) (by omega) (by omega) _ _ (by rw [← zC_c (by omega), Int.zero_add]; exact hP) (zD_addr hD rfl) hS _ (lv_sub hl [0, 1] rfl)
  · refine zr_iconst hx hb dX6_save_8 ?_
    refine lv_istore_n (lv' := [(1, .int (zI 0)), (0, .ref (o 0))]) hx hb dX6_save_9 rfl hl (by decide) rfl (fun ls hl => ?_)
    suffices J_10 : ∀ (nn : Nat) (xj : Int) (jj : 0 ≤ xj ∧ xj ≤ 639) (hmu : 639 - xj < (nn : Int)) (H : Heap) (locs : List Loc) (hP : va_P D vwCl (zmod cs o A (zC S S 213 0 xj) T xsm xth xam f xtl xpl g) H) (hD : va_D A0 (zmod cs o A (zC S S 213 0 xj) T xsm xth xam f xtl xpl g)) (hS : va_S A0 s.heap H locs) (ls : Array Slot) (hl : lv_has ls 2 [(1, .int (zI xj)), (0, .ref (o 0))]), W p l e (headSpec wsX6_save ({ frames := 0, cells := 0, slots := 0, locals := 0 })).room s m ([.ref (o 0)] : List Value).toArray below meth c H locs 0 0 (MQ below (zQv D (zmod cs o A S T xsm xth xam f xtl xpl g) s.heap.size (zmod cs o A (zSvF S A xsm) T (zm4 xsm) xth xam f xtl xpl g)) ([.ref (o 0)] : List Value).toArray s 0 0 (va_A (zmod cs o A S T xsm xth xam f xtl xpl g) s.heap.size)) (F0 m 10 ls []) by
      exact J_10 (((639 - 0) : Int).toNat + 1) 0 (by omega) (by have : (0 : Int) ≤ 639 - 0 := (by omega); omega) _ _ (by rw [zC_0 rfl]; exact hP) (zD_addr hD rfl) hS _ (lv_sub hl [0, 1] rfl)
    intro nn
    induction nn with
    | zero => intro xj jj hmu; exfalso; have : (0 : Int) ≤ 639 - xj := (by omega); omega
    | succ nn ih =>
      intro xj jj hmu H locs hP hD hS ls hl
      refine lv_iload_n hx hb dX6_save_10 rfl (lv_at hl 0 rfl) ?_
      refine zr_sipush hx hb dX6_save_11 (by decide) ?_
      refine zr_icmp_ge (tgt := 39) hx hb dX6_save_14 (by decide) (by omega) (by decide) (fun c3 => ?_) (fun c3 => ?_)
      · refine lv_aload_n hx hb dX6_save_39 rfl (lv_at hl 1 rfl) ?_
        refine lv_dup hx hb dX6_save_40 rfl ?_
        refine va_get (D := D) (ci := 6) (v := .int (zI xsm)) (C := RX6) (T := TX6) (N := 10) hx hb hts hiX6 hown hK hP 0 rfl rfl 3 (by decide) (hts (.fieldLink RX6 90 "ChargeEstimatorModel" "savedMany" "I") (List.mem_of_getElem? (i := 1) rfl)) (fun _ h9 => h9) rfl dX6_save_41 ?_
        refine zr_iconst hx hb dX6_save_44 ?_
        refine zr_isub hx hb dX6_save_45 ?_
        refine va_put (D := D) (ci := 6) (v := .int (zI (xsm - 1))) (ty := .int) (C := RX6) (T := TX6) (N := 10) hx hb hts hiX6 tyX6 tyX6_ok nmX6 hown hK hP hD hS 0 rfl rfl 3 (by decide) (hts (.fieldLink RX6 90 "ChargeEstimatorModel" "savedMany" "I") (List.mem_of_getElem? (i := 1) rfl)) (fun _ h9 => h9) rfl (by decide +kernel) rfl rfl (Nat.le_of_ble_eq_true rfl) dX6_save_46 (fun H locs hP hD hS => ?_)
        have hP : va_P D vwCl (zmod cs o A (zC S S 213 0 xj) T (xsm - 1) xth xam f xtl xpl g) H := hP
        have hD : va_D A0 (zmod cs o A (zC S S 213 0 xj) T (xsm - 1) xth xam f xtl xpl g) := zD_addr hD rfl
        have hP : va_P D vwCl (zmod cs o A (if xsm = 4 then zC S S 213 0 639 else S) T (if xsm = 4 then 3 else xsm) xth xam f xtl xpl g) H := by first | (have e5 : xsm = 4 := (by omega); have e6 : xj = 639 := (by omega); subst e5; subst e6; exact hP) | (have e5 : ¬ xsm = 4 := (by omega); rw [if_neg e5, if_neg e5]; exact hP)
        have hD : va_D A0 (zmod cs o A (if xsm = 4 then zC S S 213 0 639 else S) T (if xsm = 4 then 3 else xsm) xth xam f xtl xpl g) := zD_addr hD rfl
        refine zr_iconst hx hb dX6_save_49 ?_
        refine lv_istore_n (lv' := [(1, .int (zI 0)), (0, .ref (o 0))]) hx hb dX6_save_50 rfl hl (by decide) rfl (fun ls hl => ?_)
        suffices J_51 : ∀ (nn : Nat) (xj : Int) (jj : 0 ≤ xj ∧ xj ≤ 213) (hmu : 213 - xj < (nn : Int)) (H : Heap) (locs : List Loc) (hP : va_P D vwCl (zmod cs o A (zC A (if xsm = 4 then zC S S 213 0 639 else S) 0 (213 * (if xsm = 4 then 3 else xsm)) xj) T (if xsm = 4 then 3 else xsm) xth xam f xtl xpl g) H) (hD : va_D A0 (zmod cs o A (zC A (if xsm = 4 then zC S S 213 0 639 else S) 0 (213 * (if xsm = 4 then 3 else xsm)) xj) T (if xsm = 4 then 3 else xsm) xth xam f xtl xpl g)) (hS : va_S A0 s.heap H locs) (ls : Array Slot) (hl : lv_has ls 2 [(1, .int (zI xj)), (0, .ref (o 0))]), W p l e (headSpec wsX6_save ({ frames := 0, cells := 0, slots := 0, locals := 0 })).room s m ([.ref (o 0)] : List Value).toArray below meth c H locs 0 0 (MQ below (zQv D (zmod cs o A S T xsm xth xam f xtl xpl g) s.heap.size (zmod cs o A (zSvF S A xsm) T (zm4 xsm) xth xam f xtl xpl g)) ([.ref (o 0)] : List Value).toArray s 0 0 (va_A (zmod cs o A S T xsm xth xam f xtl xpl g) s.heap.size)) (F0 m 51 ls []) by
          exact J_51 (((213 - 0) : Int).toNat + 1) 0 (by omega) (by have : (0 : Int) ≤ 213 - 0 := (by omega); omega) _ _ (by rw [zC_0 rfl]; exact hP) (zD_addr hD rfl) hS _ (lv_sub hl [0, 1] rfl)
        intro nn
        induction nn with
        | zero => intro xj jj hmu; exfalso; have : (0 : Int) ≤ 213 - xj := (by omega); omega
        | succ nn ih =>
          intro xj jj hmu H locs hP hD hS ls hl
          refine lv_iload_n hx hb dX6_save_51 rfl (lv_at hl 0 rfl) ?_
          refine zr_sipush hx hb dX6_save_52 (by decide) ?_
          refine zr_icmp_ge (tgt := 85) hx hb dX6_save_55 (by decide) (by omega) (by decide) (fun c4 => ?_) (fun c4 => ?_)
          · refine lv_aload_n hx hb dX6_save_85 rfl (lv_at hl 1 rfl) ?_
            refine lv_dup hx hb dX6_save_86 rfl ?_
            refine va_get (D := D) (ci := 6) (v := .int (zI (if xsm = 4 then 3 else xsm))) (C := RX6) (T := TX6) (N := 10) hx hb hts hiX6 hown hK hP 0 rfl rfl 3 (by decide) (hts (.fieldLink RX6 90 "ChargeEstimatorModel" "savedMany" "I") (List.mem_of_getElem? (i := 1) rfl)) (fun _ h9 => h9) rfl dX6_save_87 ?_
            refine zr_iconst hx hb dX6_save_90 ?_
            refine zr_iadd hx hb dX6_save_91 ?_
            refine va_put (D := D) (ci := 6) (v := .int (zI ((if xsm = 4 then 3 else xsm) + 1))) (ty := .int) (C := RX6) (T := TX6) (N := 10) hx hb hts hiX6 tyX6 tyX6_ok nmX6 hown hK hP hD hS 0 rfl rfl 3 (by decide) (hts (.fieldLink RX6 90 "ChargeEstimatorModel" "savedMany" "I") (List.mem_of_getElem? (i := 1) rfl)) (fun _ h9 => h9) rfl (by decide +kernel) rfl rfl (Nat.le_of_ble_eq_true rfl) dX6_save_92 (fun H locs hP hD hS => ?_)
            have hP : va_P D vwCl (zmod cs o A (zC A (if xsm = 4 then zC S S 213 0 639 else S) 0 (213 * (if xsm = 4 then 3 else xsm)) xj) T ((if xsm = 4 then 3 else xsm) + 1) xth xam f xtl xpl g) H := hP
            have hD : va_D A0 (zmod cs o A (zC A (if xsm = 4 then zC S S 213 0 639 else S) 0 (213 * (if xsm = 4 then 3 else xsm)) xj) T ((if xsm = 4 then 3 else xsm) + 1) xth xam f xtl xpl g) := zD_addr hD rfl
            have hP8 : va_P D vwCl (zmod cs o A (zSvF S A xsm) T (zm4 xsm) xth xam f xtl xpl g) H := by
              have e6 : xj = 213 := by omega
              subst e6
              rw [show zm4 xsm = (if xsm = 4 then 3 else xsm) + 1 from by unfold zm4; split <;> omega]
              exact hP
            have hP9 : va_P D vwCl (zmod cs o A (zSvF S A xsm) T (zm4 xsm) xth xam f xtl xpl g) H := hP8
            have hD9 : va_D A0 (zmod cs o A (zSvF S A xsm) T (zm4 xsm) xth xam f xtl xpl g) := zD_addr hD rfl
            subst hAe
            exact W.vret hx hb hr (fun t ht hW => ⟨⟨(), rfl, trivial, by rw [ht]; exact hP9, hD9⟩, hS.F ht⟩) hS.2.2 dX6_save_95
          · refine lv_aload_n hx hb dX6_save_58 rfl (lv_at hl 1 rfl) ?_
            refine va_get (D := D) (ci := 6) (v := .ref (o 2)) (C := RX6) (T := TX6) (N := 10) hx hb hts hiX6 hown hK hP 0 rfl rfl 1 (by decide) (hts (.fieldLink RX6 13 "ChargeEstimatorModel" "saved" "[J") (List.mem_of_getElem? (i := 2) rfl)) (fun _ h9 => h9) rfl dX6_save_59 ?_
            refine zr_sipush hx hb dX6_save_62 (by decide) ?_
            refine lv_aload_n hx hb dX6_save_65 rfl (lv_at hl 1 rfl) ?_
            refine va_get (D := D) (ci := 6) (v := .int (zI (if xsm = 4 then 3 else xsm))) (C := RX6) (T := TX6) (N := 10) hx hb hts hiX6 hown hK hP 0 rfl rfl 3 (by decide) (hts (.fieldLink RX6 90 "ChargeEstimatorModel" "savedMany" "I") (List.mem_of_getElem? (i := 1) rfl)) (fun _ h9 => h9) rfl dX6_save_66 ?_
            refine zr_imul hx hb dX6_save_69 ?_
            refine lv_iload_n hx hb dX6_save_70 rfl (lv_at hl 0 rfl) ?_
            refine zr_iadd hx hb dX6_save_71 ?_
            refine lv_aload_n hx hb dX6_save_72 rfl (lv_at hl 1 rfl) ?_
            refine va_get (D := D) (ci := 6) (v := .ref (o 1)) (C := RX6) (T := TX6) (N := 10) hx hb hts hiX6 hown hK hP 0 rfl rfl 0 (by decide) (hts (.fieldLink RX6 7 "ChargeEstimatorModel" "all" "[J") (List.mem_of_getElem? (i := 3) rfl)) (fun _ h9 => h9) rfl dX6_save_73 ?_
            refine lv_iload_n hx hb dX6_save_76 rfl (lv_at hl 0 rfl) ?_
            refine zr_lald (D := D) (g := A) hx hb hK hP 1 2 rfl rfl (by decide) (by omega) dX6_save_77 ?_
            refine zr_last (D := D) (g := zC A (if xsm = 4 then zC S S 213 0 639 else S) 0 (213 * (if xsm = 4 then 3 else xsm)) xj) hx hb hK hP hD hS 2 2 rfl rfl (by decide) (by omega) dX6_save_78 (fun H locs hP hD hS => ?_)
            have hP : va_P D vwCl (zmod cs o A (zU (zC A (if xsm = 4 then zC S S 213 0 639 else S) 0 (213 * (if xsm = 4 then 3 else xsm)) xj) ((213 * (if xsm = 4 then 3 else xsm)) + xj) (A xj)) T (if xsm = 4 then 3 else xsm) xth xam f xtl xpl g) H := hP
            have hD : va_D A0 (zmod cs o A (zU (zC A (if xsm = 4 then zC S S 213 0 639 else S) 0 (213 * (if xsm = 4 then 3 else xsm)) xj) ((213 * (if xsm = 4 then 3 else xsm)) + xj) (A xj)) T (if xsm = 4 then 3 else xsm) xth xam f xtl xpl g) := zD_addr hD rfl
            refine zr_iinc (kk := 0) (lv' := [(1, .int (zI (xj + 1))), (0, .ref (o 0))]) hx hb dX6_save_79 hl rfl (by decide) rfl (fun ls hl => ?_)
            refine lv_goto (tgt := 51) hx hb dX6_save_82 (by decide) ?_
            exact ih (xj + 1) (by omega) (by omega) _ _ (by rw [← zC_c (by omega), Int.zero_add]; exact hP) (zD_addr hD rfl) hS _ (lv_sub hl [0, 1] rfl)
      · refine lv_aload_n hx hb dX6_save_17 rfl (lv_at hl 1 rfl) ?_
        refine va_get (D := D) (ci := 6) (v := .ref (o 2)) (C := RX6) (T := TX6) (N := 10) hx hb hts hiX6 hown hK hP 0 rfl rfl 1 (by decide) (hts (.fieldLink RX6 13 "ChargeEstimatorModel" "saved" "[J") (List.mem_of_getElem? (i := 2) rfl)) (fun _ h9 => h9) rfl dX6_save_18 ?_
        refine lv_iload_n hx hb dX6_save_21 rfl (lv_at hl 0 rfl) ?_
        refine lv_aload_n hx hb dX6_save_22 rfl (lv_at hl 1 rfl) ?_
        refine va_get (D := D) (ci := 6) (v := .ref (o 2)) (C := RX6) (T := TX6) (N := 10) hx hb hts hiX6 hown hK hP 0 rfl rfl 1 (by decide) (hts (.fieldLink RX6 13 "ChargeEstimatorModel" "saved" "[J") (List.mem_of_getElem? (i := 2) rfl)) (fun _ h9 => h9) rfl dX6_save_23 ?_
        refine lv_iload_n hx hb dX6_save_26 rfl (lv_at hl 0 rfl) ?_
        refine zr_sipush hx hb dX6_save_27 (by decide) ?_
        refine zr_iadd hx hb dX6_save_30 ?_
        refine zr_lald (D := D) (g := zC S S 213 0 xj) hx hb hK hP 2 2 rfl rfl (by decide) (by omega) dX6_save_31 ?_
        refine zr_last (D := D) (g := zC S S 213 0 xj) hx hb hK hP hD hS 2 2 rfl rfl (by decide) (by omega) dX6_save_32 (fun H locs hP hD hS => ?_)
        have hP : va_P D vwCl (zmod cs o A (zU (zC S S 213 0 xj) xj ((zC S S 213 0 xj) (xj + 213))) T xsm xth xam f xtl xpl g) H := hP
        have hD : va_D A0 (zmod cs o A (zU (zC S S 213 0 xj) xj ((zC S S 213 0 xj) (xj + 213))) T xsm xth xam f xtl xpl g) := zD_addr hD rfl
        refine zr_iinc (kk := 0) (lv' := [(1, .int (zI (xj + 1))), (0, .ref (o 0))]) hx hb dX6_save_33 hl rfl (by decide) rfl (fun ls hl => ?_)
        refine lv_goto (tgt := 10) hx hb dX6_save_36 (by decide) ?_
        exact ih (xj + 1) (by omega) (by omega) _ _ (by rw [show xj + 1 = xj + 1 - 0 by omega, ← zC_s (d := 213) (by decide) (by decide) (by omega), Int.sub_zero]; exact hP) (zD_addr hD rfl) hS _ (lv_sub hl [0, 1] rfl)
