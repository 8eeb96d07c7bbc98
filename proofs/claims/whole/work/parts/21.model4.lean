/-! the reference: predictions, undo, hash -/
set_option maxHeartbeats 4000000 in
set_option maxRecDepth 100000 in
theorem met_X6_boundAfter_ok (l : Launch) (D : va_G) (cs : Nat → ClassId) (o : Nat → Nat) (sz : Nat) (A S T : Int → Int) (xsm xth xam : Int) (f : Int → Int) (xtl xpl : Int) (g : Int → Int) (xi xt : Int) (xp : Prop) [Decidable xp] (hw : zWk A) (rxi : -2147483648 ≤ xi ∧ xi ≤ 2147483647) (rxt : -2147483648 ≤ xt ∧ xt ≤ 2147483647) (kok : (-50000 ≤ xi ∧ xi ≤ 50000) ∧ 0 ≤ xt ∧ xt ≤ 1000000) : Met l yX6_boundAfter wsX6_boundAfter ({ frames := 3, cells := 0, slots := 0, locals := 74 }) (va_Pc [.ref (o 0), .int (zI xi), .int (zI xt), .int (zI (zB (xp)))] (zPreZ D (zTy cs) (zmod cs o A S T xsm xth xam f xtl xpl g) sz)) (zQl D (zmod cs o A S T xsm xth xam f xtl xpl g) sz (zL (zBo A xi xt xp)) (zmod cs o A S T xsm 0 xam f xtl xpl g)) 0 0 (va_A (zmod cs o A S T xsm xth xam f xtl xpl g) sz) := by
  refine Met.ofW (cc := cX6_boundAfter) (maxL := 4) (ret := (some .long)) (by decide) rfl ?_
  intro p e s m args below meth c s₁ B hml hv
  obtain ⟨rfl, hsz, hP, hK, hD0, hN⟩ := hv
  have hx := B.exec
  have hb := B.bytes
  have hr := B.returns
  have hts := atoms_spec (ws := wsX6_boundAfter) B.pre
  have hown : s.vm.findClass RX6 = some m.cls := findClass_of_methodNamed B.named
  have hlocks := B.notSynchronized
  subst hsz
  obtain ⟨A0, hAe⟩ : ∃ A0, A0 = va_A (zmod cs o A S T xsm xth xam f xtl xpl g) s.heap.size := ⟨_, rfl⟩
  have hD := hD0.self (sz := s.heap.size)
  rw [← hAe] at hD
  have hA : ∀ q : Nat, s.heap.size ≤ q → A0 q := fun q h => by rw [hAe]; exact Or.inr h
  have hS : va_S A0 s.heap s.heap [] := va_S.rf
  have hP : va_P D vwCl (zmod cs o A S T xsm xth xam f xtl xpl g) s.heap := hP
  have hl := lv_entry ([.ref (o 0), .int (zI xi), .int (zI xt), .int (zI (zB (xp)))]) (n := 4) (Nat.le_of_ble_eq_true rfl)
  rw [lg_entry_eq]
  generalize (lg_sl ([.ref (o 0), .int (zI xi), .int (zI xt), .int (zI (zB (xp)))]) ++ List.replicate (4 - (lg_sl ([.ref (o 0), .int (zI xi), .int (zI xt), .int (zI (zB (xp)))])).length) Slot.unset).toArray = ls at hl ⊢
  have hl : lv_has ls 4 [(0, .ref (o 0)), (1, .int (zI xi)), (2, .int (zI xt)), (3, .int (zI (zB (xp))))] := hl
  refine lv_aload_n hx hb dX6_boundAfter_0 rfl (lv_at hl 0 rfl) ?_
  refine lv_iload_n hx hb dX6_boundAfter_1 rfl (lv_at hl 1 rfl) ?_
  refine zr_i2l hx hb dX6_boundAfter_2 (by omega) ?_
  refine zr_ldc2 (n := (-50000)) hx hb hown (hts (.constantLong RX6 189 (-50000)) (List.mem_of_getElem? (i := 1) rfl)) rfl dX6_boundAfter_3 ?_
  refine zr_ldc2 (n := 50000) hx hb hown (hts (.constantLong RX6 191 (50000)) (List.mem_of_getElem? (i := 2) rfl)) rfl dX6_boundAfter_6 ?_
  refine zc_ri (va_runS (As := [.long (zL xi), .long (zL (-50000)), .long (zL 50000)]) (rest := [.ref (o 0)]) ⟨hx, hb, hml, hown, hts⟩ (met_X6_in l xi (-50000) 50000 (by first | assumption | omega) (by first | assumption | omega) (by first | assumption | omega)) (va_cwS 3 hts gX6_boundAfter_X6_in rfl rfl rfl (by decide +kernel) ⟨Nat.le_of_ble_eq_true rfl, Nat.le_of_ble_eq_true rfl⟩) ⟨zTrue.blind, fun U hU hW => ⟨rfl, trivial⟩⟩ rfl rfl hl.1 rfl (lv_room (Nat.le_of_ble_eq_true rfl)) dX6_boundAfter_9 ⟨Nat.le_of_ble_eq_true rfl, Nat.le_of_ble_eq_true rfl⟩) ?_
  refine zr_ifb_eq (tgt := 31) hx hb dX6_boundAfter_12 (by decide) (fun c1 => ?_) (fun c1 => ?_)
  · refine zr_iconst hx hb dX6_boundAfter_31 ?_
    refine zr_iconst hx hb dX6_boundAfter_32 ?_
    refine zc_i (va_runV (As := [.int (zI 0), .int (zI 1)]) (rest := []) ⟨hx, hb, hml, hown, hts⟩ (met_X6_goes l D cs o s.heap.size A S T xsm xth xam f xtl xpl g False True ) (cwV 2 hts gX6_boundAfter_X6_goes rfl rfl rfl (by decide +kernel) ⟨Nat.le_of_ble_eq_true rfl, Nat.le_of_ble_eq_true rfl⟩) ⟨zPreZ.blind, va_recv hK hP (ci := 6) (q0 := 0) rfl rfl, fun U hU hW => zp_Z hP hK hD hN hU hW⟩ rfl rfl hl.1 rfl (lv_room (Nat.le_of_ble_eq_true rfl)) dX6_boundAfter_33 ⟨Nat.le_of_ble_eq_true rfl, Nat.le_of_ble_eq_true rfl⟩) hS hD hA (fun H locs hP hD hS => ?_)
    refine zr_ifb_eq (tgt := 51) hx hb dX6_boundAfter_36 (by decide) (fun c2 => ?_) (fun c2 => ?_)
    · exfalso; first | omega | (simp only [and_true, true_and] at c2; omega) | exact c2.2.elim
    · first | exact absurd c2 (by decide) | exact absurd (by decide) c2
  · refine lv_iload_n hx hb dX6_boundAfter_15 rfl (lv_at hl 2 rfl) ?_
    refine zr_i2l hx hb dX6_boundAfter_16 (by omega) ?_
    refine zr_lconst0 hx hb dX6_boundAfter_17 ?_
    refine zr_ldc2 (n := 1000000) hx hb hown (hts (.constantLong RX6 153 (1000000)) (List.mem_of_getElem? (i := 3) rfl)) rfl dX6_boundAfter_18 ?_
    refine zc_ri (va_runS (As := [.long (zL xt), .long (zL 0), .long (zL 1000000)]) (rest := [.ref (o 0)]) ⟨hx, hb, hml, hown, hts⟩ (met_X6_in l xt 0 1000000 (by first | assumption | omega) (by first | assumption | omega) (by first | assumption | omega)) (va_cwS 3 hts gX6_boundAfter_X6_in rfl rfl rfl (by decide +kernel) ⟨Nat.le_of_ble_eq_true rfl, Nat.le_of_ble_eq_true rfl⟩) ⟨zTrue.blind, fun U hU hW => ⟨rfl, trivial⟩⟩ rfl rfl hl.1 rfl (lv_room (Nat.le_of_ble_eq_true rfl)) dX6_boundAfter_21 ⟨Nat.le_of_ble_eq_true rfl, Nat.le_of_ble_eq_true rfl⟩) ?_
    refine zr_ifb_eq (tgt := 31) hx hb dX6_boundAfter_24 (by decide) (fun c3 => ?_) (fun c3 => ?_)
    · refine zr_iconst hx hb dX6_boundAfter_31 ?_
      refine zr_iconst hx hb dX6_boundAfter_32 ?_
      refine zc_i (va_runV (As := [.int (zI 0), .int (zI 1)]) (rest := []) ⟨hx, hb, hml, hown, hts⟩ (met_X6_goes l D cs o s.heap.size A S T xsm xth xam f xtl xpl g False True ) (cwV 2 hts gX6_boundAfter_X6_goes rfl rfl rfl (by decide +kernel) ⟨Nat.le_of_ble_eq_true rfl, Nat.le_of_ble_eq_true rfl⟩) ⟨zPreZ.blind, va_recv hK hP (ci := 6) (q0 := 0) rfl rfl, fun U hU hW => zp_Z hP hK hD hN hU hW⟩ rfl rfl hl.1 rfl (lv_room (Nat.le_of_ble_eq_true rfl)) dX6_boundAfter_33 ⟨Nat.le_of_ble_eq_true rfl, Nat.le_of_ble_eq_true rfl⟩) hS hD hA (fun H locs hP hD hS => ?_)
      refine zr_ifb_eq (tgt := 51) hx hb dX6_boundAfter_36 (by decide) (fun c4 => ?_) (fun c4 => ?_)
      · exfalso; first | omega | (simp only [and_true, true_and] at c4; omega) | exact c4.2.elim
      · first | exact absurd c4 (by decide) | exact absurd (by decide) c4
    · refine zr_iconst hx hb dX6_boundAfter_27 ?_
      refine lv_goto (tgt := 32) hx hb dX6_boundAfter_28 (by decide) ?_
      refine zr_iconst hx hb dX6_boundAfter_32 ?_
      refine zc_i (va_runV (As := [.int (zI 1), .int (zI 1)]) (rest := []) ⟨hx, hb, hml, hown, hts⟩ (met_X6_goes l D cs o s.heap.size A S T xsm xth xam f xtl xpl g True True ) (cwV 2 hts gX6_boundAfter_X6_goes rfl rfl rfl (by decide +kernel) ⟨Nat.le_of_ble_eq_true rfl, Nat.le_of_ble_eq_true rfl⟩) ⟨zPreZ.blind, va_recv hK hP (ci := 6) (q0 := 0) rfl rfl, fun U hU hW => zp_Z hP hK hD hN hU hW⟩ rfl rfl hl.1 rfl (lv_room (Nat.le_of_ble_eq_true rfl)) dX6_boundAfter_33 ⟨Nat.le_of_ble_eq_true rfl, Nat.le_of_ble_eq_true rfl⟩) hS hD hA (fun H locs hP hD hS => ?_)
      refine zr_ifb_eq (tgt := 51) hx hb dX6_boundAfter_36 (by decide) (fun c5 => ?_) (fun c5 => ?_)
      · first | exact absurd c5 (by decide) | exact absurd (by decide) c5
      · have hP : va_P D vwCl (zmod cs o A S T xsm 0 xam f xtl xpl g) H := by rw [show zGo True True = 0 from zGo_0 (by first | trivial | omega | (simp only [not_true, not_false_eq_true]) | (intro h; omega)) (by first | trivial | omega | (simp only [not_true, not_false_eq_true]) | (intro h; omega))] at hP; exact hP
        have hD : va_D A0 (zmod cs o A S T xsm 0 xam f xtl xpl g) := zD_addr hD rfl
        refine lv_aload_n hx hb dX6_boundAfter_39 rfl (lv_at hl 0 rfl) ?_
        refine lv_iload_n hx hb dX6_boundAfter_40 rfl (lv_at hl 1 rfl) ?_
        refine zr_i2l hx hb dX6_boundAfter_41 (by omega) ?_
        refine lv_iload_n hx hb dX6_boundAfter_42 rfl (lv_at hl 2 rfl) ?_
        refine zr_i2l hx hb dX6_boundAfter_43 (by omega) ?_
        refine lv_iload_n hx hb dX6_boundAfter_44 rfl (lv_at hl 3 rfl) ?_
        refine zc_rl (va_runV (As := [.long (zL xi), .long (zL xt), .int (zI (zB (xp)))]) (rest := []) ⟨hx, hb, hml, hown, hts⟩ (met_X6_bound l D cs o A S T xsm 0 xam f xtl xpl g xi xt (xp) (by first | assumption | exact zOK_w (by assumption)) (by first | assumption | omega) (by first | assumption | omega)) (cwV 3 hts gX6_boundAfter_X6_bound rfl rfl rfl (by decide +kernel) ⟨Nat.le_of_ble_eq_true rfl, Nat.le_of_ble_eq_true rfl⟩) ⟨zPre.blind, va_recv hK hP (ci := 6) (q0 := 0) rfl rfl, fun U hU hW => zp_R hP hK hD hN hU hW⟩ rfl rfl hl.1 rfl (lv_room (Nat.le_of_ble_eq_true rfl)) dX6_boundAfter_45 ⟨Nat.le_of_ble_eq_true rfl, Nat.le_of_ble_eq_true rfl⟩) ?_
        refine lv_goto (tgt := 52) hx hb dX6_boundAfter_48 (by decide) ?_
        have hP9 : va_P D vwCl (zmod cs o A S T xsm 0 xam f xtl xpl g) H := hP
        have hD9 : va_D A0 (zmod cs o A S T xsm 0 xam f xtl xpl g) := zD_addr hD rfl
        subst hAe
        exact W.lret hx hb hr (fun t ht hW => ⟨⟨_, (), rfl, (congrArg zL (show zBo A xi xt (xp) = zBo A xi xt xp from by rfl)), by rw [ht]; exact hP9, hD9⟩, hS.F ht⟩) hS.2.2 dX6_boundAfter_52
set_option maxHeartbeats 4000000 in
set_option maxRecDepth 100000 in
theorem met_X6_boundAfter_no1 (l : Launch) (D : va_G) (cs : Nat → ClassId) (o : Nat → Nat) (sz : Nat) (A S T : Int → Int) (xsm xth xam : Int) (f : Int → Int) (xtl xpl : Int) (g : Int → Int) (xi xt : Int) (xp : Prop) [Decidable xp] (rxi : -2147483648 ≤ xi ∧ xi ≤ 2147483647) (rxt : -2147483648 ≤ xt ∧ xt ≤ 2147483647) (kno : ¬ ((-50000 ≤ xi ∧ xi ≤ 50000) ∧ 0 ≤ xt ∧ xt ≤ 1000000)) : Met l yX6_boundAfter wsX6_boundAfter ({ frames := 3, cells := 0, slots := 0, locals := 74 }) (va_Pc [.ref (o 0), .int (zI xi), .int (zI xt), .int (zI (zB (xp)))] (zPreZ D (zTy cs) (zmod cs o A S T xsm xth xam f xtl xpl g) sz)) (zQl D (zmod cs o A S T xsm xth xam f xtl xpl g) sz (zL (0)) (zmod cs o A S T xsm 1 xam f xtl xpl g)) 0 0 (va_A (zmod cs o A S T xsm xth xam f xtl xpl g) sz) := by
  refine Met.ofW (cc := cX6_boundAfter) (maxL := 4) (ret := (some .long)) (by decide) rfl ?_
  intro p e s m args below meth c s₁ B hml hv
  obtain ⟨rfl, hsz, hP, hK, hD0, hN⟩ := hv
  have hx := B.exec
  have hb := B.bytes
  have hr := B.returns
  have hts := atoms_spec (ws := wsX6_boundAfter) B.pre
  have hown : s.vm.findClass RX6 = some m.cls := findClass_of_methodNamed B.named
  have hlocks := B.notSynchronized
  subst hsz
  obtain ⟨A0, hAe⟩ : ∃ A0, A0 = va_A (zmod cs o A S T xsm xth xam f xtl xpl g) s.heap.size := ⟨_, rfl⟩
  have hD := hD0.self (sz := s.heap.size)
  rw [← hAe] at hD
  have hA : ∀ q : Nat, s.heap.size ≤ q → A0 q := fun q h => by rw [hAe]; exact Or.inr h
  have hS : va_S A0 s.heap s.heap [] := va_S.rf
  have hP : va_P D vwCl (zmod cs o A S T xsm xth xam f xtl xpl g) s.heap := hP
  have hl := lv_entry ([.ref (o 0), .int (zI xi), .int (zI xt), .int (zI (zB (xp)))]) (n := 4) (Nat.le_of_ble_eq_true rfl)
  rw [lg_entry_eq]
  generalize (lg_sl ([.ref (o 0), .int (zI xi), .int (zI xt), .int (zI (zB (xp)))]) ++ List.replicate (4 - (lg_sl ([.ref (o 0), .int (zI xi), .int (zI xt), .int (zI (zB (xp)))])).length) Slot.unset).toArray = ls at hl ⊢
  have hl : lv_has ls 4 [(0, .ref (o 0)), (1, .int (zI xi)), (2, .int (zI xt)), (3, .int (zI (zB (xp))))] := hl
  refine lv_aload_n hx hb dX6_boundAfter_0 rfl (lv_at hl 0 rfl) ?_
  refine lv_iload_n hx hb dX6_boundAfter_1 rfl (lv_at hl 1 rfl) ?_
  refine zr_i2l hx hb dX6_boundAfter_2 (by omega) ?_
  refine zr_ldc2 (n := (-50000)) hx hb hown (hts (.constantLong RX6 189 (-50000)) (List.mem_of_getElem? (i := 1) rfl)) rfl dX6_boundAfter_3 ?_
  refine zr_ldc2 (n := 50000) hx hb hown (hts (.constantLong RX6 191 (50000)) (List.mem_of_getElem? (i := 2) rfl)) rfl dX6_boundAfter_6 ?_
  refine zc_ri (va_runS (As := [.long (zL xi), .long (zL (-50000)), .long (zL 50000)]) (rest := [.ref (o 0)]) ⟨hx, hb, hml, hown, hts⟩ (met_X6_in l xi (-50000) 50000 (by first | assumption | omega) (by first | assumption | omega) (by first | assumption | omega)) (va_cwS 3 hts gX6_boundAfter_X6_in rfl rfl rfl (by decide +kernel) ⟨Nat.le_of_ble_eq_true rfl, Nat.le_of_ble_eq_true rfl⟩) ⟨zTrue.blind, fun U hU hW => ⟨rfl, trivial⟩⟩ rfl rfl hl.1 rfl (lv_room (Nat.le_of_ble_eq_true rfl)) dX6_boundAfter_9 ⟨Nat.le_of_ble_eq_true rfl, Nat.le_of_ble_eq_true rfl⟩) ?_
  refine zr_ifb_eq (tgt := 31) hx hb dX6_boundAfter_12 (by decide) (fun c1 => ?_) (fun c1 => ?_)
  · refine zr_iconst hx hb dX6_boundAfter_31 ?_
    refine zr_iconst hx hb dX6_boundAfter_32 ?_
    refine zc_i (va_runV (As := [.int (zI 0), .int (zI 1)]) (rest := []) ⟨hx, hb, hml, hown, hts⟩ (met_X6_goes l D cs o s.heap.size A S T xsm xth xam f xtl xpl g False True ) (cwV 2 hts gX6_boundAfter_X6_goes rfl rfl rfl (by decide +kernel) ⟨Nat.le_of_ble_eq_true rfl, Nat.le_of_ble_eq_true rfl⟩) ⟨zPreZ.blind, va_recv hK hP (ci := 6) (q0 := 0) rfl rfl, fun U hU hW => zp_Z hP hK hD hN hU hW⟩ rfl rfl hl.1 rfl (lv_room (Nat.le_of_ble_eq_true rfl)) dX6_boundAfter_33 ⟨Nat.le_of_ble_eq_true rfl, Nat.le_of_ble_eq_true rfl⟩) hS hD hA (fun H locs hP hD hS => ?_)
    refine zr_ifb_eq (tgt := 51) hx hb dX6_boundAfter_36 (by decide) (fun c2 => ?_) (fun c2 => ?_)
    · exfalso; first | omega | (simp only [and_true, true_and] at c2; omega) | exact c2.2.elim
    · first | exact absurd c2 (by decide) | exact absurd (by decide) c2
  · refine lv_iload_n hx hb dX6_boundAfter_15 rfl (lv_at hl 2 rfl) ?_
    refine zr_i2l hx hb dX6_boundAfter_16 (by omega) ?_
    refine zr_lconst0 hx hb dX6_boundAfter_17 ?_
    refine zr_ldc2 (n := 1000000) hx hb hown (hts (.constantLong RX6 153 (1000000)) (List.mem_of_getElem? (i := 3) rfl)) rfl dX6_boundAfter_18 ?_
    refine zc_ri (va_runS (As := [.long (zL xt), .long (zL 0), .long (zL 1000000)]) (rest := [.ref (o 0)]) ⟨hx, hb, hml, hown, hts⟩ (met_X6_in l xt 0 1000000 (by first | assumption | omega) (by first | assumption | omega) (by first | assumption | omega)) (va_cwS 3 hts gX6_boundAfter_X6_in rfl rfl rfl (by decide +kernel) ⟨Nat.le_of_ble_eq_true rfl, Nat.le_of_ble_eq_true rfl⟩) ⟨zTrue.blind, fun U hU hW => ⟨rfl, trivial⟩⟩ rfl rfl hl.1 rfl (lv_room (Nat.le_of_ble_eq_true rfl)) dX6_boundAfter_21 ⟨Nat.le_of_ble_eq_true rfl, Nat.le_of_ble_eq_true rfl⟩) ?_
    refine zr_ifb_eq (tgt := 31) hx hb dX6_boundAfter_24 (by decide) (fun c3 => ?_) (fun c3 => ?_)
    · refine zr_iconst hx hb dX6_boundAfter_31 ?_
      refine zr_iconst hx hb dX6_boundAfter_32 ?_
      refine zc_i (va_runV (As := [.int (zI 0), .int (zI 1)]) (rest := []) ⟨hx, hb, hml, hown, hts⟩ (met_X6_goes l D cs o s.heap.size A S T xsm xth xam f xtl xpl g False True ) (cwV 2 hts gX6_boundAfter_X6_goes rfl rfl rfl (by decide +kernel) ⟨Nat.le_of_ble_eq_true rfl, Nat.le_of_ble_eq_true rfl⟩) ⟨zPreZ.blind, va_recv hK hP (ci := 6) (q0 := 0) rfl rfl, fun U hU hW => zp_Z hP hK hD hN hU hW⟩ rfl rfl hl.1 rfl (lv_room (Nat.le_of_ble_eq_true rfl)) dX6_boundAfter_33 ⟨Nat.le_of_ble_eq_true rfl, Nat.le_of_ble_eq_true rfl⟩) hS hD hA (fun H locs hP hD hS => ?_)
      refine zr_ifb_eq (tgt := 51) hx hb dX6_boundAfter_36 (by decide) (fun c4 => ?_) (fun c4 => ?_)
      · exfalso; first | omega | (simp only [and_true, true_and] at c4; omega) | exact c4.2.elim
      · first | exact absurd c4 (by decide) | exact absurd (by decide) c4
    · refine zr_iconst hx hb dX6_boundAfter_27 ?_
      refine lv_goto (tgt := 32) hx hb dX6_boundAfter_28 (by decide) ?_
      refine zr_iconst hx hb dX6_boundAfter_32 ?_
      refine zc_i (va_runV (As := [.int (zI 1), .int (zI 1)]) (rest := []) ⟨hx, hb, hml, hown, hts⟩ (met_X6_goes l D cs o s.heap.size A S T xsm xth xam f xtl xpl g True True ) (cwV 2 hts gX6_boundAfter_X6_goes rfl rfl rfl (by decide +kernel) ⟨Nat.le_of_ble_eq_true rfl, Nat.le_of_ble_eq_true rfl⟩) ⟨zPreZ.blind, va_recv hK hP (ci := 6) (q0 := 0) rfl rfl, fun U hU hW => zp_Z hP hK hD hN hU hW⟩ rfl rfl hl.1 rfl (lv_room (Nat.le_of_ble_eq_true rfl)) dX6_boundAfter_33 ⟨Nat.le_of_ble_eq_true rfl, Nat.le_of_ble_eq_true rfl⟩) hS hD hA (fun H locs hP hD hS => ?_)
      refine zr_ifb_eq (tgt := 51) hx hb dX6_boundAfter_36 (by decide) (fun c5 => ?_) (fun c5 => ?_)
      · first | exact absurd c5 (by decide) | exact absurd (by decide) c5
      · have hP : va_P D vwCl (zmod cs o A S T xsm 1 xam f xtl xpl g) H := by rw [show zGo True True = 1 from zGo_1 (by first | trivial | omega | (simp only [not_true, not_false_eq_true]) | (intro h; omega))] at hP; exact hP
        have hD : va_D A0 (zmod cs o A S T xsm 1 xam f xtl xpl g) := zD_addr hD rfl
        refine lv_aload_n hx hb dX6_boundAfter_39 rfl (lv_at hl 0 rfl) ?_
        refine lv_iload_n hx hb dX6_boundAfter_40 rfl (lv_at hl 1 rfl) ?_
        refine zr_i2l hx hb dX6_boundAfter_41 (by omega) ?_
        refine lv_iload_n hx hb dX6_boundAfter_42 rfl (lv_at hl 2 rfl) ?_
        refine zr_i2l hx hb dX6_boundAfter_43 (by omega) ?_
        refine lv_iload_n hx hb dX6_boundAfter_44 rfl (lv_at hl 3 rfl) ?_
        refine zc_rl (va_runV (As := [.long (zL xi), .long (zL xt), .int (zI (zB (xp)))]) (rest := []) ⟨hx, hb, hml, hown, hts⟩ (met_X6_bound l D cs o A S T xsm 1 xam f xtl xpl g xi xt (xp) (by first | assumption | exact zOK_w (by assumption)) (by first | assumption | omega) (by first | assumption | omega)) (cwV 3 hts gX6_boundAfter_X6_bound rfl rfl rfl (by decide +kernel) ⟨Nat.le_of_ble_eq_true rfl, Nat.le_of_ble_eq_true rfl⟩) ⟨zPre.blind, va_recv hK hP (ci := 6) (q0 := 0) rfl rfl, fun U hU hW => zp_R hP hK hD hN hU hW⟩ rfl rfl hl.1 rfl (lv_room (Nat.le_of_ble_eq_true rfl)) dX6_boundAfter_45 ⟨Nat.le_of_ble_eq_true rfl, Nat.le_of_ble_eq_true rfl⟩) ?_
        refine lv_goto (tgt := 52) hx hb dX6_boundAfter_48 (by decide) ?_
        have hP9 : va_P D vwCl (zmod cs o A S T xsm 1 xam f xtl xpl g) H := hP
        have hD9 : va_D A0 (zmod cs o A S T xsm 1 xam f xtl xpl g) := zD_addr hD rfl
        subst hAe
        exact W.lret hx hb hr (fun t ht hW => ⟨⟨_, (), rfl, (congrArg zL (show zBo A xi xt (xp) = 0 from by rfl)), by rw [ht]; exact hP9, hD9⟩, hS.F ht⟩) hS.2.2 dX6_boundAfter_52
