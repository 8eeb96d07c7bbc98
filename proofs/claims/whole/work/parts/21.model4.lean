/-! the reference: predictions, undo, hash -/
set_option maxHeartbeats 4000000 in
set_option maxRecDepth 100000 in
theorem met_X6_boundAfter_ok (l : Launch) (D : va_G) (cs : Nat → ClassId) (o : Nat → Nat) (sz : Nat) (A S T : Int → Int) (xsm xth xam : Int) (f : Int → Int) (xtl xpl : Int) (g : Int → Int) (xi xt : Int) (xp : Prop) [Decidable xp] (hw : zWk A) (rxi : -2147483648 ≤ xi ∧ xi ≤ 2147483647) (rxt : -2147483648 ≤ xt ∧ xt ≤ 2147483647) (kok : (-50000 ≤ xi ∧ xi ≤ 50000) ∧ 0 ≤ xt ∧ xt ≤ 1000000) : Met l yX6_boundAfter wsX6_boundAfter ({ frames := 3, cells := 0, slots := 0, locals := 74 }) (va_Pc [.ref (o 0), .int (zI xi), .int (zI xt), .int (zI (zB (xp)))] (zPreZ D (zTy cs) (zmod cs o A S T xsm xth xam f xtl xpl g) sz)) (zQl D (zmod cs o A S T xsm xth xam f xtl xpl g) sz (zL (zBo A xi xt xp)) (zmod cs o A S T xsm 0 xam f xtl xpl g)) 0 0 (va_A (zmod cs o A S T xsm xth xam f xtl xpl g) sz) := by
  refine Met.ofW (cc := cX6_boundAfter) (maxL := 4) (ret := (some .long)) (by decide) rfl ?_
  intro p e s m args below meth c s₁ B hml hv
  obtain ⟨rfl, hsz, hP, hK, hD0, hN⟩ := hv
  have hx := B.exec
  have hb := B.bytes
  have hr := B.returns
  have hts := atoms_spec (ws := wsX6_boundAfter) B.pre
  have hown : s.vm.findClass RX6 = some m.cls := findClass_of_methodNamed B.named
  have hlocks := B.notSynchronized
  subst hsz
  obtain ⟨A0, hAe⟩ : ∃ A0, A0 = va_A (zmod cs o A S T xsm xth xam f xtl xpl g) s.heap.size := ⟨_, rfl⟩
  have hD := hD0.self (sz := s.heap.size)
  rw [← hAe] at hD
  have hA : ∀ q : Nat, s.heap.size ≤ q → A0 q := fun q h => by rw [hAe]; exact Or.inr h
  have hS : va_S A0 s.heap s.heap [] := va_S.rf
  have hP : va_P D vwCl (zmod cs o A S T xsm xth xam f xtl xpl g) s.heap := hP
  have hl := lv_entry ([.ref (o 0), .int (zI xi), .int (zI xt), .int (zI (zB (xp)))]) (n := 4) (Nat.le_of_ble_eq_true rfl)
  rw [lg_entry_eq]
  generalize (lg_sl ([.ref (o 0), .int (zI xi), .int (zI xt), .int (zI (zB (xp)))]) ++ List.replicate (4 - (lg_sl ([.ref (o 0), .int (zI xi), .int (zI xt), .int (zI (zB (xp)))])).length) Slot.unset).toArray = ls at hl ⊢
  have hl : lv_has ls 4 [(0, .ref (o 0)), (1, .int (zI xi)), (2, .int (zI xt)), (3, .int (zI (zB (xp))))] := hl
  refine lv_aload_n hx hb dX6_boundAfter_0 rfl (lv_at hl 0 rfl) ?_
  refine lv_iload_n hx hb dX6_boundAfter_1 rfl (lv_at hl 1 rfl) ?_
  refine zr_i2l hx hb dX6_boundAfter_2 (by omega) ?_
  refine zr_ldc2 (n := (-50000)) hx hb hown (hts (.constantLong RX6 189 (-50000)) (List.mem_of_getElem? (i := 1) rfl)) rfl dX6_boundAfter_3 ?_
  refine zr_ldc2 (n := 50000) hx hb hown (hts (.constantLong RX6 191 (50000)) (List.mem_of_getElem? (i := 2) rfl)) rfl dX6_boundAfter_6 ?_
  refine zc_ri (va_runS (As := [.long (zL xi), .long (zL (-50000)), .long (zL 50000)]) (rest := [.ref (o 0)]) ⟨hx, hb, hml, hown, hts⟩ (met_X6_in l xi (-50000) 50000 (by first | assumption | omega) (by first | assumption | omega) (by first | assumption | omega)) (va_cwS 3 hts gX6_boundAfter_X6_in rfl rfl rfl (by decide +kernel) ⟨Nat.le_of_ble_eq_true rfl, Nat.le_of_ble_eq_true rfl⟩) ⟨zTrue.blind, fun U hU hW => ⟨rfl, trivial⟩⟩ rfl rfl hl.1 rfl (lv_room (Nat.le_of_ble_eq_true rfl)) dX6_boundAfter_9 ⟨Nat.le_of_ble_eq_true rfl, Nat.le_of_ble_eq_true rfl⟩) ?_
  refine zr_ifb_eq (tgt := 31) hx hb dX6_boundAfter_12 (by decide) (fun c1 => ?_) (fun c1 => ?_)
  · refine zr_iconst hx hb dX6_boundAfter_31 ?_
    refine zr_iconst hx hb dX6_boundAfter_32 ?_
    refine zc_i (va_runV (As := [.int (zI 0), .int (zI 1)]) (rest := []) ⟨hx, hb, hml, hown, hts⟩ (met_X6_goes l D cs o s.heap.size A S T xsm xth xam f xtl xpl g False True ) (cwV 2 hts gX6_boundAfter_X6_goes rfl rfl rfl (by decide +kernel) ⟨Nat.le_of_ble_eq_true rfl, Nat.le_of_ble_eq_true rfl⟩) ⟨zPreZ.blind, va_recv hK hP (ci := 6) (q0 := 0) rfl rfl, fun U hU hW => zp_Z hP hK hD hN hU hW⟩ rfl rfl hl.1 rfl (lv_room (Nat.le_of_ble_eq_true rfl)) dX6_boundAfter_33 ⟨Nat.le_of_ble_eq_true rfl, Nat.le_of_ble_eq_true rfl⟩) hS hD hA (fun H locs hP hD hS => ?_)
    have hP : va_P D vwCl (zmod cs o A S T xsm 0 xam f xtl xpl g) H := by rw [show zGo False True = 0 from zGo_0 (by first | trivial | omega | (simp only [not_true, not_false_eq_true]) | (intro h; omega)) (by first | trivial | omega | (simp only [not_true, not_false_eq_true]) | (intro h; omega))] at hP; exact hP
    have hD : va_D A0 (zmod cs o A S T xsm 0 xam f xtl xpl g) := zD_addr hD rfl
    refine zr_ifb_eq (tgt := 51) hx hb dX6_boundAfter_36 (by decide) (fun c2 => ?_) (fun c2 => ?_)
    · exfalso; first | omega | (simp only [and_true, true_and] at c2; omega) | exact c2.2.elim
    · first | exact absurd c2 (by decide) | exact absurd (by decide) c2
  · refine lv_iload_n hx hb dX6_boundAfter_15 rfl (lv_at hl 2 rfl) ?_
    refine zr_i2l hx hb dX6_boundAfter_16 (by omega) ?_
    refine zr_lconst0 hx hb dX6_boundAfter_17 ?_
    refine zr_ldc2 (n := 1000000) hx hb hown (hts (.constantLong RX6 153 (1000000)) (List.mem_of_getElem? (i := 3) rfl)) rfl dX6_boundAfter_18 ?_
    refine zc_ri (va_runS (As := [.long (zL xt), .long (zL 0), .long (zL 1000000)]) (rest := [.ref (o 0)]) ⟨hx, hb, hml, hown, hts⟩ (met_X6_in l xt 0 1000000 (by first | assumption | omega) (by first | assumption | omega) (by first | assumption | omega)) (va_cwS 3 hts gX6_boundAfter_X6_in rfl rfl rfl (by decide +kernel) ⟨Nat.le_of_ble_eq_true rfl, Nat.le_of_ble_eq_true rfl⟩) ⟨zTrue.blind, fun U hU hW => ⟨rfl, trivial⟩⟩ rfl rfl hl.1 rfl (lv_room (Nat.le_of_ble_eq_true rfl)) dX6_boundAfter_21 ⟨Nat.le_of_ble_eq_true rfl, Nat.le_of_ble_eq_true rfl⟩) ?_
    refine zr_ifb_eq (tgt := 31) hx hb dX6_boundAfter_24 (by decide) (fun c3 => ?_) (fun c3 => ?_)
    · refine zr_iconst hx hb dX6_boundAfter_31 ?_
      refine zr_iconst hx hb dX6_boundAfter_32 ?_
      refine zc_i (va_runV (As := [.int (zI 0), .int (zI 1)]) (rest := []) ⟨hx, hb, hml, hown, hts⟩ (met_X6_goes l D cs o s.heap.size A S T xsm xth xam f xtl xpl g False True ) (cwV 2 hts gX6_boundAfter_X6_goes rfl rfl rfl (by decide +kernel) ⟨Nat.le_of_ble_eq_true rfl, Nat.le_of_ble_eq_true rfl⟩) ⟨zPreZ.blind, va_recv hK hP (ci := 6) (q0 := 0) rfl rfl, fun U hU hW => zp_Z hP hK hD hN hU hW⟩ rfl rfl hl.1 rfl (lv_room (Nat.le_of_ble_eq_true rfl)) dX6_boundAfter_33 ⟨Nat.le_of_ble_eq_true rfl, Nat.le_of_ble_eq_true rfl⟩) hS hD hA (fun H locs hP hD hS => ?_)
      have hP : va_P D vwCl (zmod cs o A S T xsm 0 xam f xtl xpl g) H := by rw [show zGo False True = 0 from zGo_0 (by first | trivial | omega | (simp only [not_true, not_false_eq_true]) | (intro h; omega)) (by first | trivial | omega | (simp only [not_true, not_false_eq_true]) | (intro h; omega))] at hP; exact hP
      have hD : va_D A0 (zmod cs o A S T xsm 0 xam f xtl xpl g) := zD_addr hD rfl
      refine zr_ifb_eq (tgt := 51) hx hb dX6_boundAfter_36 (by decide) (fun c4 => ?_) (fun c4 => ?_)
      · exfalso; first | omega | (simp only [and_true, true_and] at c4; omega) | exact c4.2.elim
      · first | exact absurd c4 (by decide) | exact absurd (by decide) c4
    · refine zr_iconst hx hb dX6_boundAfter_27 ?_
      refine lv_goto (tgt := 32) hx hb dX6_boundAfter_28 (by decide) ?_
      refine zr_iconst hx hb dX6_boundAfter_32 ?_
      refine zc_i (va_runV (As := [.int (zI 1), .int (zI 1)]) (rest := []) ⟨hx, hb, hml, hown, hts⟩ (met_X6_goes l D cs o s.heap.size A S T xsm xth xam f xtl xpl g True True ) (cwV 2 hts gX6_boundAfter_X6_goes rfl rfl rfl (by decide +kernel) ⟨Nat.le_of_ble_eq_true rfl, Nat.le_of_ble_eq_true rfl⟩) ⟨zPreZ.blind, va_recv hK hP (ci := 6) (q0 := 0) rfl rfl, fun U hU hW => zp_Z hP hK hD hN hU hW⟩ rfl rfl hl.1 rfl (lv_room (Nat.le_of_ble_eq_true rfl)) dX6_boundAfter_33 ⟨Nat.le_of_ble_eq_true rfl, Nat.le_of_ble_eq_true rfl⟩) hS hD hA (fun H locs hP hD hS => ?_)
      have hP : va_P D vwCl (zmod cs o A S T xsm 0 xam f xtl xpl g) H := by rw [show zGo True True = 0 from zGo_0 (by first | trivial | omega | (simp only [not_true, not_false_eq_true]) | (intro h; omega)) (by first | trivial | omega | (simp only [not_true, not_false_eq_true]) | (intro h; omega))] at hP; exact hP
      have hD : va_D A0 (zmod cs o A S T xsm 0 xam f xtl xpl g) := zD_addr hD rfl
      refine zr_ifb_eq (tgt := 51) hx hb dX6_boundAfter_36 (by decide) (fun c5 => ?_) (fun c5 => ?_)
      · first | exact absurd c5 (by decide) | exact absurd (by decide) c5
      · refine lv_aload_n hx hb dX6_boundAfter_39 rfl (lv_at hl 0 rfl) ?_
        refine lv_iload_n hx hb dX6_boundAfter_40 rfl (lv_at hl 1 rfl) ?_
        refine zr_i2l hx hb dX6_boundAfter_41 (by omega) ?_
        refine lv_iload_n hx hb dX6_boundAfter_42 rfl (lv_at hl 2 rfl) ?_
        refine zr_i2l hx hb dX6_boundAfter_43 (by omega) ?_
        refine lv_iload_n hx hb dX6_boundAfter_44 rfl (lv_at hl 3 rfl) ?_
        refine zc_rl (va_runV (As := [.long (zL xi), .long (zL xt), .int (zI (zB (xp)))]) (rest := []) ⟨hx, hb, hml, hown, hts⟩ (met_X6_bound l D cs o A S T xsm 0 xam f xtl xpl g xi xt (xp) (by first | assumption | exact zOK_w (by assumption)) (by first | assumption | omega) (by first | assumption | omega)) (cwV 3 hts gX6_boundAfter_X6_bound rfl rfl rfl (by decide +kernel) ⟨Nat.le_of_ble_eq_true rfl, Nat.le_of_ble_eq_true rfl⟩) ⟨zPre.blind, va_recv hK hP (ci := 6) (q0 := 0) rfl rfl, fun U hU hW => zp_R hP hK hD hN hU hW⟩ rfl rfl hl.1 rfl (lv_room (Nat.le_of_ble_eq_true rfl)) dX6_boundAfter_45 ⟨Nat.le_of_ble_eq_true rfl, Nat.le_of_ble_eq_true rfl⟩) ?_
        refine lv_goto (tgt := 52) hx hb dX6_boundAfter_48 (by decide) ?_
        have hP9 : va_P D vwCl (zmod cs o A S T xsm 0 xam f xtl xpl g) H := hP
        have hD9 : va_D A0 (zmod cs o A S T xsm 0 xam f xtl xpl g) := zD_addr hD rfl
        subst hAe
        exact W.lret hx hb hr (fun t ht hW => ⟨⟨_, (), rfl, (congrArg zL (show zBo A xi xt (xp) = zBo A xi xt xp from by rfl)), by rw [ht]; exact hP9, hD9⟩, hS.F ht⟩) hS.2.2 dX6_boundAfter_52
set_option maxHeartbeats 4000000 in
set_option maxRecDepth 100000 in
theorem met_X6_boundAfter_no1 (l : Launch) (D : va_G) (cs : Nat → ClassId) (o : Nat → Nat) (sz : Nat) (A S T : Int → Int) (xsm xth xam : Int) (f : Int → Int) (xtl xpl : Int) (g : Int → Int) (xi xt : Int) (xp : Prop) [Decidable xp] (rxi : -2147483648 ≤ xi ∧ xi ≤ 2147483647) (rxt : -2147483648 ≤ xt ∧ xt ≤ 2147483647) (kno : ¬ ((-50000 ≤ xi ∧ xi ≤ 50000) ∧ 0 ≤ xt ∧ xt ≤ 1000000)) : Met l yX6_boundAfter wsX6_boundAfter ({ frames := 1, cells := 0, slots := 0, locals := 25 }) (va_Pc [.ref (o 0), .int (zI xi), .int (zI xt), .int (zI (zB (xp)))] (zPreZ D (zTy cs) (zmod cs o A S T xsm xth xam f xtl xpl g) sz)) (zQl D (zmod cs o A S T xsm xth xam f xtl xpl g) sz (zL (0)) (zmod cs o A S T xsm 1 xam f xtl xpl g)) 0 0 (va_A (zmod cs o A S T xsm xth xam f xtl xpl g) sz) := by
  refine Met.ofW (cc := cX6_boundAfter) (maxL := 4) (ret := (some .long)) (by decide) rfl ?_
  intro p e s m args below meth c s₁ B hml hv
  obtain ⟨rfl, hsz, hP, hK, hD0, hN⟩ := hv
  have hx := B.exec
  have hb := B.bytes
  have hr := B.returns
  have hts := atoms_spec (ws := wsX6_boundAfter) B.pre
  have hown : s.vm.findClass RX6 = some m.cls := findClass_of_methodNamed B.named
  have hlocks := B.notSynchronized
  subst hsz
  obtain ⟨A0, hAe⟩ : ∃ A0, A0 = va_A (zmod cs o A S T xsm xth xam f xtl xpl g) s.heap.size := ⟨_, rfl⟩
  have hD := hD0.self (sz := s.heap.size)
  rw [← hAe] at hD
  have hA : ∀ q : Nat, s.heap.size ≤ q → A0 q := fun q h => by rw [hAe]; exact Or.inr h
  have hS : va_S A0 s.heap s.heap [] := va_S.rf
  have hP : va_P D vwCl (zmod cs o A S T xsm xth xam f xtl xpl g) s.heap := hP
  have hl := lv_entry ([.ref (o 0), .int (zI xi), .int (zI xt), .int (zI (zB (xp)))]) (n := 4) (Nat.le_of_ble_eq_true rfl)
  rw [lg_entry_eq]
  generalize (lg_sl ([.ref (o 0), .int (zI xi), .int (zI xt), .int (zI (zB (xp)))]) ++ List.replicate (4 - (lg_sl ([.ref (o 0), .int (zI xi), .int (zI xt), .int (zI (zB (xp)))])).length) Slot.unset).toArray = ls at hl ⊢
  have hl : lv_has ls 4 [(0, .ref (o 0)), (1, .int (zI xi)), (2, .int (zI xt)), (3, .int (zI (zB (xp))))] := hl
  refine lv_aload_n hx hb dX6_boundAfter_0 rfl (lv_at hl 0 rfl) ?_
  refine lv_iload_n hx hb dX6_boundAfter_1 rfl (lv_at hl 1 rfl) ?_
  refine zr_i2l hx hb dX6_boundAfter_2 (by omega) ?_
  refine zr_ldc2 (n := (-50000)) hx hb hown (hts (.constantLong RX6 189 (-50000)) (List.mem_of_getElem? (i := 1) rfl)) rfl dX6_boundAfter_3 ?_
  refine zr_ldc2 (n := 50000) hx hb hown (hts (.constantLong RX6 191 (50000)) (List.mem_of_getElem? (i := 2) rfl)) rfl dX6_boundAfter_6 ?_
  refine zc_ri (va_runS (As := [.long (zL xi), .long (zL (-50000)), .long (zL 50000)]) (rest := [.ref (o 0)]) ⟨hx, hb, hml, hown, hts⟩ (met_X6_in l xi (-50000) 50000 (by first | assumption | omega) (by first | assumption | omega) (by first | assumption | omega)) (va_cwS 3 hts gX6_boundAfter_X6_in rfl rfl rfl (by decide +kernel) ⟨Nat.le_of_ble_eq_true rfl, Nat.le_of_ble_eq_true rfl⟩) ⟨zTrue.blind, fun U hU hW => ⟨rfl, trivial⟩⟩ rfl rfl hl.1 rfl (lv_room (Nat.le_of_ble_eq_true rfl)) dX6_boundAfter_9 ⟨Nat.le_of_ble_eq_true rfl, Nat.le_of_ble_eq_true rfl⟩) ?_
  refine zr_ifb_eq (tgt := 31) hx hb dX6_boundAfter_12 (by decide) (fun c1 => ?_) (fun c1 => ?_)
  · refine zr_iconst hx hb dX6_boundAfter_31 ?_
    refine zr_iconst hx hb dX6_boundAfter_32 ?_
    refine zc_i (va_runV (As := [.int (zI 0), .int (zI 1)]) (rest := []) ⟨hx, hb, hml, hown, hts⟩ (met_X6_goes l D cs o s.heap.size A S T xsm xth xam f xtl xpl g False True ) (cwV 2 hts gX6_boundAfter_X6_goes rfl rfl rfl (by decide +kernel) ⟨Nat.le_of_ble_eq_true rfl, Nat.le_of_ble_eq_true rfl⟩) ⟨zPreZ.blind, va_recv hK hP (ci := 6) (q0 := 0) rfl rfl, fun U hU hW => zp_Z hP hK hD hN hU hW⟩ rfl rfl hl.1 rfl (lv_room (Nat.le_of_ble_eq_true rfl)) dX6_boundAfter_33 ⟨Nat.le_of_ble_eq_true rfl, Nat.le_of_ble_eq_true rfl⟩) hS hD hA (fun H locs hP hD hS => ?_)
    have hP : va_P D vwCl (zmod cs o A S T xsm 1 xam f xtl xpl g) H := by rw [show zGo False True = 1 from zGo_1 (by first | trivial | omega | (simp only [not_true, not_false_eq_true]) | (intro h; omega))] at hP; exact hP
    have hD : va_D A0 (zmod cs o A S T xsm 1 xam f xtl xpl g) := zD_addr hD rfl
    refine zr_ifb_eq (tgt := 51) hx hb dX6_boundAfter_36 (by decide) (fun c2 => ?_) (fun c2 => ?_)
    · refine zr_lconst0 hx hb dX6_boundAfter_51 ?_
      have hP9 : va_P D vwCl (zmod cs o A S T xsm 1 xam f xtl xpl g) H := hP
      have hD9 : va_D A0 (zmod cs o A S T xsm 1 xam f xtl xpl g) := zD_addr hD rfl
      subst hAe
      exact W.lret hx hb hr (fun t ht hW => ⟨⟨_, (), rfl, (congrArg zL (show 0 = 0 from by rfl)), by rw [ht]; exact hP9, hD9⟩, hS.F ht⟩) hS.2.2 dX6_boundAfter_52
    · first | exact absurd c2 (by decide) | exact absurd (by decide) c2
  · refine lv_iload_n hx hb dX6_boundAfter_15 rfl (lv_at hl 2 rfl) ?_
    refine zr_i2l hx hb dX6_boundAfter_16 (by omega) ?_
    refine zr_lconst0 hx hb dX6_boundAfter_17 ?_
    refine zr_ldc2 (n := 1000000) hx hb hown (hts (.constantLong RX6 153 (1000000)) (List.mem_of_getElem? (i := 3) rfl)) rfl dX6_boundAfter_18 ?_
    refine zc_ri (va_runS (As := [.long (zL xt), .long (zL 0), .long (zL 1000000)]) (rest := [.ref (o 0)]) ⟨hx, hb, hml, hown, hts⟩ (met_X6_in l xt 0 1000000 (by first | assumption | omega) (by first | assumption | omega) (by first | assumption | omega)) (va_cwS 3 hts gX6_boundAfter_X6_in rfl rfl rfl (by decide +kernel) ⟨Nat.le_of_ble_eq_true rfl, Nat.le_of_ble_eq_true rfl⟩) ⟨zTrue.blind, fun U hU hW => ⟨rfl, trivial⟩⟩ rfl rfl hl.1 rfl (lv_room (Nat.le_of_ble_eq_true rfl)) dX6_boundAfter_21 ⟨Nat.le_of_ble_eq_true rfl, Nat.le_of_ble_eq_true rfl⟩) ?_
    refine zr_ifb_eq (tgt := 31) hx hb dX6_boundAfter_24 (by decide) (fun c3 => ?_) (fun c3 => ?_)
    · refine zr_iconst hx hb dX6_boundAfter_31 ?_
      refine zr_iconst hx hb dX6_boundAfter_32 ?_
      refine zc_i (va_runV (As := [.int (zI 0), .int (zI 1)]) (rest := []) ⟨hx, hb, hml, hown, hts⟩ (met_X6_goes l D cs o s.heap.size A S T xsm xth xam f xtl xpl g False True ) (cwV 2 hts gX6_boundAfter_X6_goes rfl rfl rfl (by decide +kernel) ⟨Nat.le_of_ble_eq_true rfl, Nat.le_of_ble_eq_true rfl⟩) ⟨zPreZ.blind, va_recv hK hP (ci := 6) (q0 := 0) rfl rfl, fun U hU hW => zp_Z hP hK hD hN hU hW⟩ rfl rfl hl.1 rfl (lv_room (Nat.le_of_ble_eq_true rfl)) dX6_boundAfter_33 ⟨Nat.le_of_ble_eq_true rfl, Nat.le_of_ble_eq_true rfl⟩) hS hD hA (fun H locs hP hD hS => ?_)
      have hP : va_P D vwCl (zmod cs o A S T xsm 1 xam f xtl xpl g) H := by rw [show zGo False True = 1 from zGo_1 (by first | trivial | omega | (simp only [not_true, not_false_eq_true]) | (intro h; omega))] at hP; exact hP
      have hD : va_D A0 (zmod cs o A S T xsm 1 xam f xtl xpl g) := zD_addr hD rfl
      refine zr_ifb_eq (tgt := 51) hx hb dX6_boundAfter_36 (by decide) (fun c4 => ?_) (fun c4 => ?_)
      · refine zr_lconst0 hx hb dX6_boundAfter_51 ?_
        have hP9 : va_P D vwCl (zmod cs o A S T xsm 1 xam f xtl xpl g) H := hP
        have hD9 : va_D A0 (zmod cs o A S T xsm 1 xam f xtl xpl g) := zD_addr hD rfl
        subst hAe
        exact W.lret hx hb hr (fun t ht hW => ⟨⟨_, (), rfl, (congrArg zL (show 0 = 0 from by rfl)), by rw [ht]; exact hP9, hD9⟩, hS.F ht⟩) hS.2.2 dX6_boundAfter_52
      · first | exact absurd c4 (by decide) | exact absurd (by decide) c4
    · refine zr_iconst hx hb dX6_boundAfter_27 ?_
      refine lv_goto (tgt := 32) hx hb dX6_boundAfter_28 (by decide) ?_
      refine zr_iconst hx hb dX6_boundAfter_32 ?_
      refine zc_i (va_runV (As := [.int (zI 1), .int (zI 1)]) (rest := []) ⟨hx, hb, hml, hown, hts⟩ (met_X6_goes l D cs o s.heap.size A S T xsm xth xam f xtl xpl g True True ) (cwV 2 hts gX6_boundAfter_X6_goes rfl rfl rfl (by decide +kernel) ⟨Nat.le_of_ble_eq_true rfl, Nat.le_of_ble_eq_true rfl⟩) ⟨zPreZ.blind, va_recv hK hP (ci := 6) (q0 := 0) rfl rfl, fun U hU hW => zp_Z hP hK hD hN hU hW⟩ rfl rfl hl.1 rfl (lv_room (Nat.le_of_ble_eq_true rfl)) dX6_boundAfter_33 ⟨Nat.le_of_ble_eq_true rfl, Nat.le_of_ble_eq_true rfl⟩) hS hD hA (fun H locs hP hD hS => ?_)
      have hP : va_P D vwCl (zmod cs o A S T xsm 1 xam f xtl xpl g) H := by rw [show zGo True True = 1 from zGo_1 (by first | trivial | omega | (simp only [not_true, not_false_eq_true]) | (intro h; omega))] at hP; exact hP
      have hD : va_D A0 (zmod cs o A S T xsm 1 xam f xtl xpl g) := zD_addr hD rfl
      refine zr_ifb_eq (tgt := 51) hx hb dX6_boundAfter_36 (by decide) (fun c5 => ?_) (fun c5 => ?_)
      · first | exact absurd c5 (by decide) | exact absurd (by decide) c5
      · exfalso; first | omega | (simp only [and_true, true_and] at c5; omega) | exact c5.2.elim
abbrev zRch (A : Int → Int) (i t : Int) : Prop := (i < 0 ∧ zLow A i t ≤ 0) ∨ (¬ i < 0 ∧ A 37 ≤ zHigh A i t)
theorem zRch_lo {A : Int → Int} {i t : Int} (h : i < 0) : zRch A i t ↔ zLow A i t ≤ 0 := by unfold zRch; omega
theorem zRch_hi {A : Int → Int} {i t : Int} (h : ¬ i < 0) : zRch A i t ↔ A 37 ≤ zHigh A i t := by unfold zRch; omega
theorem zRch_mono {n : Int} {A : Int → Int} (h : zOK n A) {i t1 t2 : Int} (hi : -50000 ≤ i ∧ i ≤ 50000 ∧ i ≠ 0) (ht : 0 ≤ t1 ∧ t1 ≤ t2) (hr : zRch A i t1) : zRch A i t2 := by
  by_cases hc : i < 0
  · rw [zRch_lo hc] at hr ⊢
    have := zLow_mono h (i := i) (t1 := t1) (t2 := t2) (by omega) ht
    omega
  · rw [zRch_hi hc] at hr ⊢
    have := zHigh_mono h (i := i) (t1 := t1) (t2 := t2) (by omega) ht
    omega
def zRwt (A : Int → Int) (i : Int) : Int := if i < 0 then zWlow A i 0 else zWhigh A i
def zRe (A : Int → Int) (i : Int) : Int := if 1000000 < zRwt A i then -1 else zRwt A i
theorem zRwt_eq {A : Int → Int} {i r : Int} (h1 : 0 ≤ r) (h2 : r ≤ 1000001) (h3 : ∀ k, 0 ≤ k → k < r → ¬ zRch A i k) (h4 : r < 1000001 → zRch A i r) : r = zRwt A i := by
  unfold zRwt
  by_cases hc : i < 0
  · rw [if_pos hc]
    exact zWlow_eq h1 h2 (fun k a b => by have := h3 k a b; rw [zRch_lo hc] at this; omega) (fun a => (zRch_lo hc).mp (h4 a))
  · rw [if_neg hc]
    exact zWhigh_eq h1 h2 (fun k a b => by have := h3 k a b; rw [zRch_hi hc] at this; omega) (fun a => (zRch_hi hc).mp (h4 a))
theorem zRe_eq {A : Int → Int} {i r : Int} (h1 : 0 ≤ r ∧ r ≤ 1000000) (h3 : ∀ k, 0 ≤ k → k < r → ¬ zRch A i k) (h4 : zRch A i r) : r = zRe A i := by
  have e := zRwt_eq h1.1 (by omega) h3 (fun _ => h4)
  unfold zRe
  rw [if_neg (by omega)]
  exact e
theorem zRe_no {A : Int → Int} {i : Int} (h3 : ∀ k, 0 ≤ k → k ≤ 1000000 → ¬ zRch A i k) : -1 = zRe A i := by
  have e := zRwt_eq (A := A) (i := i) (r := 1000001) (by omega) (by omega) (fun k a b => h3 k a (by omega)) (fun a => by omega)
  unfold zRe
  rw [if_pos (by omega)]
theorem zLow_0 {n : Int} {A : Int → Int} (h : zOK n A) (i : Int) : zLow A i 0 = A 35 := by
  have q := (zOK_q h).2.2.2.1
  have hM : zMov A i 0 = 0 := by unfold zMov; split <;> simp
  unfold zLow zDrf
  rw [hM]
  unfold zclamp
  simp
  omega
def zLa (A : Int → Int) (i r : Int) : Int := zWlow A i (A 37 * r / 10000 - 1) - 1
theorem zLa_eq {A : Int → Int} {i r f : Int} (h1 : -1 ≤ f ∧ f ≤ 1000000) (h3 : ∀ k, 0 ≤ k → k ≤ f → A 37 * r / 10000 ≤ zLow A i k) (h4 : f + 1 < 1000001 → zLow A i (f + 1) < A 37 * r / 10000) : f = zLa A i r := by
  have e := zWlow_eq (A := A) (i := i) (l := A 37 * r / 10000 - 1) (r := f + 1) (by omega) (by omega) (fun k a b => by have := h3 k a (by omega); omega) (fun a => by have := h4 a; omega)
  unfold zLa
  omega
theorem zBo_f (A : Int → Int) (i t : Int) : zBo A i t False = zLow A i t := if_neg not_false
theorem zBo_t (A : Int → Int) (i t : Int) : zBo A i t True = zHigh A i t := if_pos trivial
set_option maxHeartbeats 4000000 in
set_option maxRecDepth 100000 in
theorem met_X6_isReached (l : Launch) (D : va_G) (cs : Nat → ClassId) (o : Nat → Nat) (A S T : Int → Int) (xsm xth xam : Int) (f : Int → Int) (xtl xpl : Int) (g : Int → Int) (n : Int) (xi xt : Int) (hI : zOK n A) (hn : 0 ≤ n ∧ n ≤ 3100000) (kxi : -50000 ≤ xi ∧ xi ≤ 50000) (kx0 : xi ≠ 0) (kxt : 0 ≤ xt ∧ xt ≤ 1000001) : Met l yX6_isReached wsX6_isReached ({ frames := 3, cells := 0, slots := 0, locals := 74 }) (va_Pc [.ref (o 0), .long (zL xi), .long (zL xt)] (zPre D (zTy cs) (zmod cs o A S T xsm xth xam f xtl xpl g))) (zRi (zI (zB (zRch A xi xt)))) 0 0 (fun _ => False) := by
  refine Met.ofW (cc := cX6_isReached) (maxL := 5) (ret := (some .boolean)) (by decide) rfl ?_
  intro p e s m args below meth c s₁ B hml hv
  obtain ⟨rfl, hP, hK, hD0, hN⟩ := hv
  have hx := B.exec
  have hb := B.bytes
  have hr := B.returns
  have hts := atoms_spec (ws := wsX6_isReached) B.pre
  have hown : s.vm.findClass RX6 = some m.cls := findClass_of_methodNamed B.named
  have hlocks := B.notSynchronized
  have hD := hD0
  have hl := lv_entry ([.ref (o 0), .long (zL xi), .long (zL xt)]) (n := 5) (Nat.le_of_ble_eq_true rfl)
  rw [lg_entry_eq]
  generalize (lg_sl ([.ref (o 0), .long (zL xi), .long (zL xt)]) ++ List.replicate (5 - (lg_sl ([.ref (o 0), .long (zL xi), .long (zL xt)])).length) Slot.unset).toArray = ls at hl ⊢
  have hl : lv_has ls 5 [(0, .ref (o 0)), (1, .long (zL xi)), (3, .long (zL xt))] := hl
  have hiX6 : ∀ w ∈ wsX60, w ∈ wsX6_isReached := by decide +kernel
  have hC := zOK_C hI
  have hlo := zLow_e hI xi xt
  have hhi := zHigh_e hI xi xt
  rw [← zBo_f] at hlo
  rw [← zBo_t] at hhi
  refine lv_lload_n hx hb dX6_isReached_0 rfl (lv_at hl 1 rfl) ?_
  refine zr_lconst0 hx hb dX6_isReached_1 ?_
  refine zr_lcmp_ge (tgt := 26) hx hb dX6_isReached_2 dX6_isReached_3 (by decide) (by omega) (by decide) (fun c1 => ?_) (fun c1 => ?_)
  · refine lv_aload_n hx hb dX6_isReached_26 rfl (lv_at hl 0 rfl) ?_
    refine lv_lload_n hx hb dX6_isReached_27 rfl (lv_at hl 1 rfl) ?_
    refine lv_lload_n hx hb dX6_isReached_28 rfl (lv_at hl 2 rfl) ?_
    refine zr_iconst hx hb dX6_isReached_29 ?_
    refine zc_rl (va_runV (As := [.long (zL xi), .long (zL xt), .int (zI 1)]) (rest := []) ⟨hx, hb, hml, hown, hts⟩ (met_X6_bound l D cs o A S T xsm xth xam f xtl xpl g xi xt True (by exact zOK_w hI) (by first | assumption | omega) (by first | assumption | omega)) (cwV 3 hts gX6_isReached_X6_bound rfl rfl rfl (by decide +kernel) ⟨Nat.le_of_ble_eq_true rfl, Nat.le_of_ble_eq_true rfl⟩) ⟨zPre.blind, va_recv hK hP (ci := 6) (q0 := 0) rfl rfl, fun U hU hW => zp_R hP hK hD hN hU hW⟩ rfl rfl hl.1 rfl (lv_room (Nat.le_of_ble_eq_true rfl)) dX6_isReached_30 ⟨Nat.le_of_ble_eq_true rfl, Nat.le_of_ble_eq_true rfl⟩) ?_
    refine lv_aload_n hx hb dX6_isReached_33 rfl (lv_at hl 0 rfl) ?_
    refine va_get (D := D) (ci := 6) (v := .ref (o 1)) (C := RX6) (T := TX6) (N := 10) hx hb hts hiX6 hown hK hP 0 rfl rfl 0 (by decide) (hts (.fieldLink RX6 7 "ChargeEstimatorModel" "all" "[J") (List.mem_of_getElem? (i := 1) rfl)) (fun _ h9 => h9) rfl dX6_isReached_34 ?_
    refine zr_bipush hx hb dX6_isReached_37 (by decide) ?_
    refine zr_lald (D := D) (g := A) hx hb hK hP 1 2 rfl rfl (by decide) (by decide) dX6_isReached_39 ?_
    refine zr_lcmp_ne (tgt := 48) hx hb dX6_isReached_40 dX6_isReached_41 (by decide) (by omega) (by omega) (fun c2 => ?_) (fun c2 => ?_)
    · refine zr_iconst hx hb dX6_isReached_48 ?_
      exact W.zret hx hb hr (zbool_n (by first | decide | exact zB_r _)) (fun t ht hW => ⟨_, rfl, (congrArg zI (show 0 = zB (zRch A xi xt) from by first | (refine (zB_t ?_).symm; first | (rw [zRch_lo (by omega), ← zBo_f]; omega) | (rw [zRch_hi (by omega), ← zBo_t]; omega)) | (refine (zB_f (fun h9 => ?_)).symm; first | (rw [zRch_lo (by omega), ← zBo_f] at h9; omega) | (rw [zRch_hi (by omega), ← zBo_t] at h9; omega)))), ht⟩) (fun q hq => absurd hq List.not_mem_nil) dX6_isReached_49
    · refine zr_iconst hx hb dX6_isReached_44 ?_
      refine lv_goto (tgt := 49) hx hb dX6_isReached_45 (by decide) ?_
      exact W.zret hx hb hr (zbool_n (by first | decide | exact zB_r _)) (fun t ht hW => ⟨_, rfl, (congrArg zI (show 1 = zB (zRch A xi xt) from by first | (refine (zB_t ?_).symm; first | (rw [zRch_lo (by omega), ← zBo_f]; omega) | (rw [zRch_hi (by omega), ← zBo_t]; omega)) | (refine (zB_f (fun h9 => ?_)).symm; first | (rw [zRch_lo (by omega), ← zBo_f] at h9; omega) | (rw [zRch_hi (by omega), ← zBo_t] at h9; omega)))), ht⟩) (fun q hq => absurd hq List.not_mem_nil) dX6_isReached_49
  · refine lv_aload_n hx hb dX6_isReached_6 rfl (lv_at hl 0 rfl) ?_
    refine lv_lload_n hx hb dX6_isReached_7 rfl (lv_at hl 1 rfl) ?_
    refine lv_lload_n hx hb dX6_isReached_8 rfl (lv_at hl 2 rfl) ?_
    refine zr_iconst hx hb dX6_isReached_9 ?_
    refine zc_rl (va_runV (As := [.long (zL xi), .long (zL xt), .int (zI 0)]) (rest := []) ⟨hx, hb, hml, hown, hts⟩ (met_X6_bound l D cs o A S T xsm xth xam f xtl xpl g xi xt False (by exact zOK_w hI) (by first | assumption | omega) (by first | assumption | omega)) (cwV 3 hts gX6_isReached_X6_bound rfl rfl rfl (by decide +kernel) ⟨Nat.le_of_ble_eq_true rfl, Nat.le_of_ble_eq_true rfl⟩) ⟨zPre.blind, va_recv hK hP (ci := 6) (q0 := 0) rfl rfl, fun U hU hW => zp_R hP hK hD hN hU hW⟩ rfl rfl hl.1 rfl (lv_room (Nat.le_of_ble_eq_true rfl)) dX6_isReached_10 ⟨Nat.le_of_ble_eq_true rfl, Nat.le_of_ble_eq_true rfl⟩) ?_
    refine zr_lconst0 hx hb dX6_isReached_13 ?_
    refine zr_lcmp_ne (tgt := 22) hx hb dX6_isReached_14 dX6_isReached_15 (by decide) (by omega) (by decide) (fun c3 => ?_) (fun c3 => ?_)
    · refine zr_iconst hx hb dX6_isReached_22 ?_
      refine lv_goto (tgt := 49) hx hb dX6_isReached_23 (by decide) ?_
      exact W.zret hx hb hr (zbool_n (by first | decide | exact zB_r _)) (fun t ht hW => ⟨_, rfl, (congrArg zI (show 0 = zB (zRch A xi xt) from by first | (refine (zB_t ?_).symm; first | (rw [zRch_lo (by omega), ← zBo_f]; omega) | (rw [zRch_hi (by omega), ← zBo_t]; omega)) | (refine (zB_f (fun h9 => ?_)).symm; first | (rw [zRch_lo (by omega), ← zBo_f] at h9; omega) | (rw [zRch_hi (by omega), ← zBo_t] at h9; omega)))), ht⟩) (fun q hq => absurd hq List.not_mem_nil) dX6_isReached_49
    · refine zr_iconst hx hb dX6_isReached_18 ?_
      refine lv_goto (tgt := 49) hx hb dX6_isReached_19 (by decide) ?_
      exact W.zret hx hb hr (zbool_n (by first | decide | exact zB_r _)) (fun t ht hW => ⟨_, rfl, (congrArg zI (show 1 = zB (zRch A xi xt) from by first | (refine (zB_t ?_).symm; first | (rw [zRch_lo (by omega), ← zBo_f]; omega) | (rw [zRch_hi (by omega), ← zBo_t]; omega)) | (refine (zB_f (fun h9 => ?_)).symm; first | (rw [zRch_lo (by omega), ← zBo_f] at h9; omega) | (rw [zRch_hi (by omega), ← zBo_t] at h9; omega)))), ht⟩) (fun q hq => absurd hq List.not_mem_nil) dX6_isReached_49
set_option maxHeartbeats 4000000 in
set_option maxRecDepth 100000 in
theorem met_X6_reaches_ok (l : Launch) (D : va_G) (cs : Nat → ClassId) (o : Nat → Nat) (sz : Nat) (A S T : Int → Int) (xsm xth xam : Int) (f : Int → Int) (xtl xpl : Int) (g : Int → Int) (n : Int) (xi : Int) (hI : zOK n A) (hn : 0 ≤ n ∧ n ≤ 3100000) (rxi : -2147483648 ≤ xi ∧ xi ≤ 2147483647) (kok : (-50000 ≤ xi ∧ xi ≤ 50000) ∧ xi ≠ 0) : Met l yX6_reaches wsX6_reaches ({ frames := 4, cells := 0, slots := 0, locals := 98 }) (va_Pc [.ref (o 0), .int (zI xi)] (zPreZ D (zTy cs) (zmod cs o A S T xsm xth xam f xtl xpl g) sz)) (zQi D (zmod cs o A S T xsm xth xam f xtl xpl g) sz (zI (zRe A xi)) (zmod cs o A S T xsm 0 xam f xtl xpl g)) 0 0 (va_A (zmod cs o A S T xsm xth xam f xtl xpl g) sz) := by
  refine Met.ofW (cc := cX6_reaches) (maxL := 5) (ret := (some .int)) (by decide) rfl ?_
  intro p e s m args below meth c s₁ B hml hv
  obtain ⟨rfl, hsz, hP, hK, hD0, hN⟩ := hv
  have hx := B.exec
  have hb := B.bytes
  have hr := B.returns
  have hts := atoms_spec (ws := wsX6_reaches) B.pre
  have hown : s.vm.findClass RX6 = some m.cls := findClass_of_methodNamed B.named
  have hlocks := B.notSynchronized
  subst hsz
  obtain ⟨A0, hAe⟩ : ∃ A0, A0 = va_A (zmod cs o A S T xsm xth xam f xtl xpl g) s.heap.size := ⟨_, rfl⟩
  have hD := hD0.self (sz := s.heap.size)
  rw [← hAe] at hD
  have hA : ∀ q : Nat, s.heap.size ≤ q → A0 q := fun q h => by rw [hAe]; exact Or.inr h
  have hS : va_S A0 s.heap s.heap [] := va_S.rf
  have hP : va_P D vwCl (zmod cs o A S T xsm xth xam f xtl xpl g) s.heap := hP
  have hl := lv_entry ([.ref (o 0), .int (zI xi)]) (n := 5) (Nat.le_of_ble_eq_true rfl)
  rw [lg_entry_eq]
  generalize (lg_sl ([.ref (o 0), .int (zI xi)]) ++ List.replicate (5 - (lg_sl ([.ref (o 0), .int (zI xi)])).length) Slot.unset).toArray = ls at hl ⊢
  have hl : lv_has ls 5 [(0, .ref (o 0)), (1, .int (zI xi))] := hl
  refine lv_aload_n hx hb dX6_reaches_0 rfl (lv_at hl 0 rfl) ?_
  refine lv_iload_n hx hb dX6_reaches_1 rfl (lv_at hl 1 rfl) ?_
  refine zr_i2l hx hb dX6_reaches_2 (by omega) ?_
  refine zr_ldc2 (n := (-50000)) hx hb hown (hts (.constantLong RX6 189 (-50000)) (List.mem_of_getElem? (i := 1) rfl)) rfl dX6_reaches_3 ?_
  refine zr_ldc2 (n := 50000) hx hb hown (hts (.constantLong RX6 191 (50000)) (List.mem_of_getElem? (i := 2) rfl)) rfl dX6_reaches_6 ?_
  refine zc_ri (va_runS (As := [.long (zL xi), .long (zL (-50000)), .long (zL 50000)]) (rest := [.ref (o 0)]) ⟨hx, hb, hml, hown, hts⟩ (met_X6_in l xi (-50000) 50000 (by first | assumption | omega) (by first | assumption | omega) (by first | assumption | omega)) (va_cwS 3 hts gX6_reaches_X6_in rfl rfl rfl (by decide +kernel) ⟨Nat.le_of_ble_eq_true rfl, Nat.le_of_ble_eq_true rfl⟩) ⟨zTrue.blind, fun U hU hW => ⟨rfl, trivial⟩⟩ rfl rfl hl.1 rfl (lv_room (Nat.le_of_ble_eq_true rfl)) dX6_reaches_9 ⟨Nat.le_of_ble_eq_true rfl, Nat.le_of_ble_eq_true rfl⟩) ?_
  refine zr_ifb_eq (tgt := 23) hx hb dX6_reaches_12 (by decide) (fun c1 => ?_) (fun c1 => ?_)
  · refine zr_iconst hx hb dX6_reaches_23 ?_
    refine zr_iconst hx hb dX6_reaches_24 ?_
    refine zc_i (va_runV (As := [.int (zI 0), .int (zI 1)]) (rest := []) ⟨hx, hb, hml, hown, hts⟩ (met_X6_goes l D cs o s.heap.size A S T xsm xth xam f xtl xpl g False True ) (cwV 2 hts gX6_reaches_X6_goes rfl rfl rfl (by decide +kernel) ⟨Nat.le_of_ble_eq_true rfl, Nat.le_of_ble_eq_true rfl⟩) ⟨zPreZ.blind, va_recv hK hP (ci := 6) (q0 := 0) rfl rfl, fun U hU hW => zp_Z hP hK hD hN hU hW⟩ rfl rfl hl.1 rfl (lv_room (Nat.le_of_ble_eq_true rfl)) dX6_reaches_25 ⟨Nat.le_of_ble_eq_true rfl, Nat.le_of_ble_eq_true rfl⟩) hS hD hA (fun H locs hP hD hS => ?_)
    have hP : va_P D vwCl (zmod cs o A S T xsm 0 xam f xtl xpl g) H := by rw [show zGo False True = 0 from zGo_0 (by first | trivial | omega | (simp only [not_true, not_false_eq_true]) | (intro h; omega)) (by first | trivial | omega | (simp only [not_true, not_false_eq_true]) | (intro h; omega))] at hP; exact hP
    have hD : va_D A0 (zmod cs o A S T xsm 0 xam f xtl xpl g) := zD_addr hD rfl
    refine zr_ifb_ne (tgt := 33) hx hb dX6_reaches_28 (by decide) (fun c2 => ?_) (fun c2 => ?_)
    · first | exact absurd c2 (by decide) | exact absurd (by decide) c2
    · exfalso; first | omega | (simp only [and_true, true_and] at c2; omega) | exact c2.2.elim
  · refine lv_iload_n hx hb dX6_reaches_15 rfl (lv_at hl 1 rfl) ?_
    refine zr_if_eq (tgt := 23) hx hb dX6_reaches_16 (by decide) (by omega) (fun c3 => ?_) (fun c3 => ?_)
    · refine zr_iconst hx hb dX6_reaches_23 ?_
      refine zr_iconst hx hb dX6_reaches_24 ?_
      refine zc_i (va_runV (As := [.int (zI 0), .int (zI 1)]) (rest := []) ⟨hx, hb, hml, hown, hts⟩ (met_X6_goes l D cs o s.heap.size A S T xsm xth xam f xtl xpl g False True ) (cwV 2 hts gX6_reaches_X6_goes rfl rfl rfl (by decide +kernel) ⟨Nat.le_of_ble_eq_true rfl, Nat.le_of_ble_eq_true rfl⟩) ⟨zPreZ.blind, va_recv hK hP (ci := 6) (q0 := 0) rfl rfl, fun U hU hW => zp_Z hP hK hD hN hU hW⟩ rfl rfl hl.1 rfl (lv_room (Nat.le_of_ble_eq_true rfl)) dX6_reaches_25 ⟨Nat.le_of_ble_eq_true rfl, Nat.le_of_ble_eq_true rfl⟩) hS hD hA (fun H locs hP hD hS => ?_)
      have hP : va_P D vwCl (zmod cs o A S T xsm 0 xam f xtl xpl g) H := by rw [show zGo False True = 0 from zGo_0 (by first | trivial | omega | (simp only [not_true, not_false_eq_true]) | (intro h; omega)) (by first | trivial | omega | (simp only [not_true, not_false_eq_true]) | (intro h; omega))] at hP; exact hP
      have hD : va_D A0 (zmod cs o A S T xsm 0 xam f xtl xpl g) := zD_addr hD rfl
      refine zr_ifb_ne (tgt := 33) hx hb dX6_reaches_28 (by decide) (fun c4 => ?_) (fun c4 => ?_)
      · first | exact absurd c4 (by decide) | exact absurd (by decide) c4
      · exfalso; first | omega | (simp only [and_true, true_and] at c4; omega) | exact c4.2.elim
    · refine zr_iconst hx hb dX6_reaches_19 ?_
      refine lv_goto (tgt := 24) hx hb dX6_reaches_20 (by decide) ?_
      refine zr_iconst hx hb dX6_reaches_24 ?_
      refine zc_i (va_runV (As := [.int (zI 1), .int (zI 1)]) (rest := []) ⟨hx, hb, hml, hown, hts⟩ (met_X6_goes l D cs o s.heap.size A S T xsm xth xam f xtl xpl g True True ) (cwV 2 hts gX6_reaches_X6_goes rfl rfl rfl (by decide +kernel) ⟨Nat.le_of_ble_eq_true rfl, Nat.le_of_ble_eq_true rfl⟩) ⟨zPreZ.blind, va_recv hK hP (ci := 6) (q0 := 0) rfl rfl, fun U hU hW => zp_Z hP hK hD hN hU hW⟩ rfl rfl hl.1 rfl (lv_room (Nat.le_of_ble_eq_true rfl)) dX6_reaches_25 ⟨Nat.le_of_ble_eq_true rfl, Nat.le_of_ble_eq_true rfl⟩) hS hD hA (fun H locs hP hD hS => ?_)
      have hP : va_P D vwCl (zmod cs o A S T xsm 0 xam f xtl xpl g) H := by rw [show zGo True True = 0 from zGo_0 (by first | trivial | omega | (simp only [not_true, not_false_eq_true]) | (intro h; omega)) (by first | trivial | omega | (simp only [not_true, not_false_eq_true]) | (intro h; omega))] at hP; exact hP
      have hD : va_D A0 (zmod cs o A S T xsm 0 xam f xtl xpl g) := zD_addr hD rfl
      refine zr_ifb_ne (tgt := 33) hx hb dX6_reaches_28 (by decide) (fun c5 => ?_) (fun c5 => ?_)
      · refine lv_aload_n hx hb dX6_reaches_33 rfl (lv_at hl 0 rfl) ?_
        refine lv_iload_n hx hb dX6_reaches_34 rfl (lv_at hl 1 rfl) ?_
        refine zr_i2l hx hb dX6_reaches_35 (by omega) ?_
        refine zr_ldc2 (n := 1000000) hx hb hown (hts (.constantLong RX6 153 (1000000)) (List.mem_of_getElem? (i := 3) rfl)) rfl dX6_reaches_36 ?_
        refine zc_ri (va_runV (As := [.long (zL xi), .long (zL 1000000)]) (rest := []) ⟨hx, hb, hml, hown, hts⟩ (met_X6_isReached l D cs o A S T xsm 0 xam f xtl xpl g _ xi 1000000 (by assumption) (by assumption) (by first | assumption | omega) (by first | assumption | omega) (by first | assumption | omega)) (cwV 2 hts gX6_reaches_X6_isReached rfl rfl rfl (by decide +kernel) ⟨Nat.le_of_ble_eq_true rfl, Nat.le_of_ble_eq_true rfl⟩) ⟨zPre.blind, va_recv hK hP (ci := 6) (q0 := 0) rfl rfl, fun U hU hW => zp_R hP hK hD hN hU hW⟩ rfl rfl hl.1 rfl (lv_room (Nat.le_of_ble_eq_true rfl)) dX6_reaches_39 ⟨Nat.le_of_ble_eq_true rfl, Nat.le_of_ble_eq_true rfl⟩) ?_
        refine zr_ifb_ne (tgt := 47) hx hb dX6_reaches_42 (by decide) (fun c6 => ?_) (fun c6 => ?_)
        · refine zr_iconst hx hb dX6_reaches_47 ?_
          refine lv_istore_n (lv' := [(2, .int (zI (-1))), (0, .ref (o 0)), (1, .int (zI xi))]) hx hb dX6_reaches_48 rfl hl (by decide) rfl (fun ls hl => ?_)
          refine zr_ldc (n := 1000000) hx hb hown (hts (.constant RX6 233 (1000000)) (List.mem_of_getElem? (i := 4) rfl)) rfl dX6_reaches_49 ?_
          refine lv_istore_n (lv' := [(3, .int (zI 1000000)), (2, .int (zI (-1))), (0, .ref (o 0)), (1, .int (zI xi))]) hx hb dX6_reaches_51 rfl hl (by decide) rfl (fun ls hl => ?_)
          suffices J_52 : ∀ (nn : Nat) (xf : Int) (xg : Int) (jf : -1 ≤ xf ∧ xf < xg ∧ xg ≤ 1000000) (jl : ∀ k : Int, 0 ≤ k → k ≤ xf → ¬ zRch A xi k) (jh : zRch A xi xg) (hmu : xg - xf < (nn : Int)) (H : Heap) (locs : List Loc) (hP : va_P D vwCl (zmod cs o A S T xsm 0 xam f xtl xpl g) H) (hD : va_D A0 (zmod cs o A S T xsm 0 xam f xtl xpl g)) (hS : va_S A0 s.heap H locs) (ls : Array Slot) (hl : lv_has ls 5 [(2, .int (zI xf)), (3, .int (zI xg)), (0, .ref (o 0)), (1, .int (zI xi))]), W p l e (headSpec wsX6_reaches ({ frames := 4, cells := 0, slots := 0, locals := 98 })).room s m ([.ref (o 0), .int (zI xi)] : List Value).toArray below meth c H locs 0 0 (MQ below (zQi D (zmod cs o A S T xsm xth xam f xtl xpl g) s.heap.size (zI (zRe A xi)) (zmod cs o A S T xsm 0 xam f xtl xpl g)) ([.ref (o 0), .int (zI xi)] : List Value).toArray s 0 0 (va_A (zmod cs o A S T xsm xth xam f xtl xpl g) s.heap.size)) (F0 m 52 ls []) by
            exact J_52 (((1000000 - (-1)) : Int).toNat + 1) (-1) 1000000 (by omega) (by first | (intro k a b; omega) | assumption | (intro k a b h9; exact absurd (zRch_mono hI ⟨kok.1.1, kok.1.2, kok.2⟩ ⟨a, b⟩ h9) (by assumption))) (by assumption) (by have : (0 : Int) ≤ 1000000 - (-1) := (by omega); omega) _ _ hP hD hS _ (lv_sub hl [1, 0, 2, 3] rfl)
          intro nn
          induction nn with
          | zero => intro xf xg jf jl jh hmu; exfalso; have : (0 : Int) ≤ xg - xf := (by omega); omega
          | succ nn ih =>
            intro xf xg jf jl jh hmu H locs hP hD hS ls hl
            refine lv_iload_n hx hb dX6_reaches_52 rfl (lv_at hl 1 rfl) ?_
            refine lv_iload_n hx hb dX6_reaches_53 rfl (lv_at hl 0 rfl) ?_
            refine zr_isub hx hb dX6_reaches_54 ?_
            refine zr_iconst hx hb dX6_reaches_55 ?_
            refine zr_icmp_le (tgt := 90) hx hb dX6_reaches_56 (by decide) (by omega) (by decide) (fun c7 => ?_) (fun c7 => ?_)
            · refine lv_iload_n hx hb dX6_reaches_90 rfl (lv_at hl 1 rfl) ?_
              have hP9 : va_P D vwCl (zmod cs o A S T xsm 0 xam f xtl xpl g) H := hP
              have hD9 : va_D A0 (zmod cs o A S T xsm 0 xam f xtl xpl g) := zD_addr hD rfl
              subst hAe
              exact W.iret hx hb hr (fun t ht hW => ⟨⟨_, (), rfl, (congrArg zI (show xg = zRe A xi from by exact zRe_eq (by omega) (fun k a b => jl k a (by omega)) jh)), by rw [ht]; exact hP9, hD9⟩, hS.F ht⟩) hS.2.2 dX6_reaches_91
            · refine lv_iload_n hx hb dX6_reaches_59 rfl (lv_at hl 1 rfl) ?_
              refine lv_iload_n hx hb dX6_reaches_60 rfl (lv_at hl 0 rfl) ?_
              refine zr_iadd hx hb dX6_reaches_61 ?_
              refine zr_iconst hx hb dX6_reaches_62 ?_
              refine zr_idiv hx hb dX6_reaches_63 (by omega) (by decide) ?_
              refine lv_istore (lv' := [(4, .int (zI ((xg + xf) / 2))), (2, .int (zI xf)), (3, .int (zI xg)), (0, .ref (o 0)), (1, .int (zI xi))]) hx hb dX6_reaches_64 hl (by decide) rfl (fun ls hl => ?_)
              refine lv_aload_n hx hb dX6_reaches_66 rfl (lv_at hl 3 rfl) ?_
              refine lv_iload_n hx hb dX6_reaches_67 rfl (lv_at hl 4 rfl) ?_
              refine zr_i2l hx hb dX6_reaches_68 (by omega) ?_
              refine lv_iload hx hb dX6_reaches_69 (lv_at hl 0 rfl) ?_
              refine zr_i2l hx hb dX6_reaches_71 (by omega) ?_
              refine zc_ri (va_runV (As := [.long (zL xi), .long (zL ((xg + xf) / 2))]) (rest := []) ⟨hx, hb, hml, hown, hts⟩ (met_X6_isReached l D cs o A S T xsm 0 xam f xtl xpl g _ xi ((xg + xf) / 2) (by assumption) (by assumption) (by first | assumption | omega) (by first | assumption | omega) (by first | assumption | omega)) (cwV 2 hts gX6_reaches_X6_isReached rfl rfl rfl (by decide +kernel) ⟨Nat.le_of_ble_eq_true rfl, Nat.le_of_ble_eq_true rfl⟩) ⟨zPre.blind, va_recv hK hP (ci := 6) (q0 := 0) rfl rfl, fun U hU hW => zp_R hP hK hD hN hU hW⟩ rfl rfl hl.1 rfl (lv_room (Nat.le_of_ble_eq_true rfl)) dX6_reaches_72 ⟨Nat.le_of_ble_eq_true rfl, Nat.le_of_ble_eq_true rfl⟩) ?_
              refine zr_ifb_eq (tgt := 84) hx hb dX6_reaches_75 (by decide) (fun c8 => ?_) (fun c8 => ?_)
              · refine lv_iload hx hb dX6_reaches_84 (lv_at hl 0 rfl) ?_
                refine lv_istore_n (lv' := [(2, .int (zI ((xg + xf) / 2))), (4, .int (zI ((xg + xf) / 2))), (3, .int (zI xg)), (0, .ref (o 0)), (1, .int (zI xi))]) hx hb dX6_reaches_86 rfl hl (by decide) rfl (fun ls hl => ?_)
                refine lv_goto (tgt := 52) hx hb dX6_reaches_87 (by decide) ?_
                exact ih ((xg + xf) / 2) xg (by omega) (by first | (intro k a b; omega) | assumption | (intro k a b h9; exact absurd (zRch_mono hI ⟨kok.1.1, kok.1.2, kok.2⟩ ⟨a, b⟩ h9) (by assumption))) (by assumption) (by omega) _ _ hP hD hS _ (lv_sub hl [0, 2, 3, 4] rfl)
              · refine lv_iload hx hb dX6_reaches_78 (lv_at hl 0 rfl) ?_
                refine lv_istore_n (lv' := [(3, .int (zI ((xg + xf) / 2))), (4, .int (zI ((xg + xf) / 2))), (2, .int (zI xf)), (0, .ref (o 0)), (1, .int (zI xi))]) hx hb dX6_reaches_80 rfl hl (by decide) rfl (fun ls hl => ?_)
                refine lv_goto (tgt := 87) hx hb dX6_reaches_81 (by decide) ?_
                refine lv_goto (tgt := 52) hx hb dX6_reaches_87 (by decide) ?_
                exact ih xf ((xg + xf) / 2) (by omega) (by first | (intro k a b; omega) | assumption | (intro k a b h9; exact absurd (zRch_mono hI ⟨kok.1.1, kok.1.2, kok.2⟩ ⟨a, b⟩ h9) (by assumption))) (by assumption) (by omega) _ _ hP hD hS _ (lv_sub hl [2, 0, 3, 4] rfl)
        · refine zr_iconst hx hb dX6_reaches_45 ?_
          have hP9 : va_P D vwCl (zmod cs o A S T xsm 0 xam f xtl xpl g) H := hP
          have hD9 : va_D A0 (zmod cs o A S T xsm 0 xam f xtl xpl g) := zD_addr hD rfl
          subst hAe
          exact W.iret hx hb hr (fun t ht hW => ⟨⟨_, (), rfl, (congrArg zI (show (-1) = zRe A xi from by exact zRe_no (fun k a b h9 => absurd (zRch_mono hI ⟨kok.1.1, kok.1.2, kok.2⟩ ⟨a, b⟩ h9) (by assumption)))), by rw [ht]; exact hP9, hD9⟩, hS.F ht⟩) hS.2.2 dX6_reaches_46
      · first | exact absurd c5 (by decide) | exact absurd (by decide) c5
set_option maxHeartbeats 4000000 in
set_option maxRecDepth 100000 in
theorem met_X6_reaches_no1 (l : Launch) (D : va_G) (cs : Nat → ClassId) (o : Nat → Nat) (sz : Nat) (A S T : Int → Int) (xsm xth xam : Int) (f : Int → Int) (xtl xpl : Int) (g : Int → Int) (xi : Int) (rxi : -2147483648 ≤ xi ∧ xi ≤ 2147483647) (kno : ¬ ((-50000 ≤ xi ∧ xi ≤ 50000) ∧ xi ≠ 0)) : Met l yX6_reaches wsX6_reaches ({ frames := 1, cells := 0, slots := 0, locals := 25 }) (va_Pc [.ref (o 0), .int (zI xi)] (zPreZ D (zTy cs) (zmod cs o A S T xsm xth xam f xtl xpl g) sz)) (zQi D (zmod cs o A S T xsm xth xam f xtl xpl g) sz (zI (0)) (zmod cs o A S T xsm 1 xam f xtl xpl g)) 0 0 (va_A (zmod cs o A S T xsm xth xam f xtl xpl g) sz) := by
  refine Met.ofW (cc := cX6_reaches) (maxL := 5) (ret := (some .int)) (by decide) rfl ?_
  intro p e s m args below meth c s₁ B hml hv
  obtain ⟨rfl, hsz, hP, hK, hD0, hN⟩ := hv
  have hx := B.exec
  have hb := B.bytes
  have hr := B.returns
  have hts := atoms_spec (ws := wsX6_reaches) B.pre
  have hown : s.vm.findClass RX6 = some m.cls := findClass_of_methodNamed B.named
  have hlocks := B.notSynchronized
  subst hsz
  obtain ⟨A0, hAe⟩ : ∃ A0, A0 = va_A (zmod cs o A S T xsm xth xam f xtl xpl g) s.heap.size := ⟨_, rfl⟩
  have hD := hD0.self (sz := s.heap.size)
  rw [← hAe] at hD
  have hA : ∀ q : Nat, s.heap.size ≤ q → A0 q := fun q h => by rw [hAe]; exact Or.inr h
  have hS : va_S A0 s.heap s.heap [] := va_S.rf
  have hP : va_P D vwCl (zmod cs o A S T xsm xth xam f xtl xpl g) s.heap := hP
  have hl := lv_entry ([.ref (o 0), .int (zI xi)]) (n := 5) (Nat.le_of_ble_eq_true rfl)
  rw [lg_entry_eq]
  generalize (lg_sl ([.ref (o 0), .int (zI xi)]) ++ List.replicate (5 - (lg_sl ([.ref (o 0), .int (zI xi)])).length) Slot.unset).toArray = ls at hl ⊢
  have hl : lv_has ls 5 [(0, .ref (o 0)), (1, .int (zI xi))] := hl
  refine lv_aload_n hx hb dX6_reaches_0 rfl (lv_at hl 0 rfl) ?_
  refine lv_iload_n hx hb dX6_reaches_1 rfl (lv_at hl 1 rfl) ?_
  refine zr_i2l hx hb dX6_reaches_2 (by omega) ?_
  refine zr_ldc2 (n := (-50000)) hx hb hown (hts (.constantLong RX6 189 (-50000)) (List.mem_of_getElem? (i := 1) rfl)) rfl dX6_reaches_3 ?_
  refine zr_ldc2 (n := 50000) hx hb hown (hts (.constantLong RX6 191 (50000)) (List.mem_of_getElem? (i := 2) rfl)) rfl dX6_reaches_6 ?_
  refine zc_ri (va_runS (As := [.long (zL xi), .long (zL (-50000)), .long (zL 50000)]) (rest := [.ref (o 0)]) ⟨hx, hb, hml, hown, hts⟩ (met_X6_in l xi (-50000) 50000 (by first | assumption | omega) (by first | assumption | omega) (by first | assumption | omega)) (va_cwS 3 hts gX6_reaches_X6_in rfl rfl rfl (by decide +kernel) ⟨Nat.le_of_ble_eq_true rfl, Nat.le_of_ble_eq_true rfl⟩) ⟨zTrue.blind, fun U hU hW => ⟨rfl, trivial⟩⟩ rfl rfl hl.1 rfl (lv_room (Nat.le_of_ble_eq_true rfl)) dX6_reaches_9 ⟨Nat.le_of_ble_eq_true rfl, Nat.le_of_ble_eq_true rfl⟩) ?_
  refine zr_ifb_eq (tgt := 23) hx hb dX6_reaches_12 (by decide) (fun c1 => ?_) (fun c1 => ?_)
  · refine zr_iconst hx hb dX6_reaches_23 ?_
    refine zr_iconst hx hb dX6_reaches_24 ?_
    refine zc_i (va_runV (As := [.int (zI 0), .int (zI 1)]) (rest := []) ⟨hx, hb, hml, hown, hts⟩ (met_X6_goes l D cs o s.heap.size A S T xsm xth xam f xtl xpl g False True ) (cwV 2 hts gX6_reaches_X6_goes rfl rfl rfl (by decide +kernel) ⟨Nat.le_of_ble_eq_true rfl, Nat.le_of_ble_eq_true rfl⟩) ⟨zPreZ.blind, va_recv hK hP (ci := 6) (q0 := 0) rfl rfl, fun U hU hW => zp_Z hP hK hD hN hU hW⟩ rfl rfl hl.1 rfl (lv_room (Nat.le_of_ble_eq_true rfl)) dX6_reaches_25 ⟨Nat.le_of_ble_eq_true rfl, Nat.le_of_ble_eq_true rfl⟩) hS hD hA (fun H locs hP hD hS => ?_)
    have hP : va_P D vwCl (zmod cs o A S T xsm 1 xam f xtl xpl g) H := by rw [show zGo False True = 1 from zGo_1 (by first | trivial | omega | (simp only [not_true, not_false_eq_true]) | (intro h; omega))] at hP; exact hP
    have hD : va_D A0 (zmod cs o A S T xsm 1 xam f xtl xpl g) := zD_addr hD rfl
    refine zr_ifb_ne (tgt := 33) hx hb dX6_reaches_28 (by decide) (fun c2 => ?_) (fun c2 => ?_)
    · first | exact absurd c2 (by decide) | exact absurd (by decide) c2
    · refine zr_iconst hx hb dX6_reaches_31 ?_
      have hP9 : va_P D vwCl (zmod cs o A S T xsm 1 xam f xtl xpl g) H := hP
      have hD9 : va_D A0 (zmod cs o A S T xsm 1 xam f xtl xpl g) := zD_addr hD rfl
      subst hAe
      exact W.iret hx hb hr (fun t ht hW => ⟨⟨_, (), rfl, (congrArg zI (show 0 = 0 from by rfl)), by rw [ht]; exact hP9, hD9⟩, hS.F ht⟩) hS.2.2 dX6_reaches_32
  · refine lv_iload_n hx hb dX6_reaches_15 rfl (lv_at hl 1 rfl) ?_
    refine zr_if_eq (tgt := 23) hx hb dX6_reaches_16 (by decide) (by omega) (fun c3 => ?_) (fun c3 => ?_)
    · refine zr_iconst hx hb dX6_reaches_23 ?_
      refine zr_iconst hx hb dX6_reaches_24 ?_
      refine zc_i (va_runV (As := [.int (zI 0), .int (zI 1)]) (rest := []) ⟨hx, hb, hml, hown, hts⟩ (met_X6_goes l D cs o s.heap.size A S T xsm xth xam f xtl xpl g False True ) (cwV 2 hts gX6_reaches_X6_goes rfl rfl rfl (by decide +kernel) ⟨Nat.le_of_ble_eq_true rfl, Nat.le_of_ble_eq_true rfl⟩) ⟨zPreZ.blind, va_recv hK hP (ci := 6) (q0 := 0) rfl rfl, fun U hU hW => zp_Z hP hK hD hN hU hW⟩ rfl rfl hl.1 rfl (lv_room (Nat.le_of_ble_eq_true rfl)) dX6_reaches_25 ⟨Nat.le_of_ble_eq_true rfl, Nat.le_of_ble_eq_true rfl⟩) hS hD hA (fun H locs hP hD hS => ?_)
      have hP : va_P D vwCl (zmod cs o A S T xsm 1 xam f xtl xpl g) H := by rw [show zGo False True = 1 from zGo_1 (by first | trivial | omega | (simp only [not_true, not_false_eq_true]) | (intro h; omega))] at hP; exact hP
      have hD : va_D A0 (zmod cs o A S T xsm 1 xam f xtl xpl g) := zD_addr hD rfl
      refine zr_ifb_ne (tgt := 33) hx hb dX6_reaches_28 (by decide) (fun c4 => ?_) (fun c4 => ?_)
      · first | exact absurd c4 (by decide) | exact absurd (by decide) c4
      · refine zr_iconst hx hb dX6_reaches_31 ?_
        have hP9 : va_P D vwCl (zmod cs o A S T xsm 1 xam f xtl xpl g) H := hP
        have hD9 : va_D A0 (zmod cs o A S T xsm 1 xam f xtl xpl g) := zD_addr hD rfl
        subst hAe
        exact W.iret hx hb hr (fun t ht hW => ⟨⟨_, (), rfl, (congrArg zI (show 0 = 0 from by rfl)), by rw [ht]; exact hP9, hD9⟩, hS.F ht⟩) hS.2.2 dX6_reaches_32
    · refine zr_iconst hx hb dX6_reaches_19 ?_
      refine lv_goto (tgt := 24) hx hb dX6_reaches_20 (by decide) ?_
      refine zr_iconst hx hb dX6_reaches_24 ?_
      refine zc_i (va_runV (As := [.int (zI 1), .int (zI 1)]) (rest := []) ⟨hx, hb, hml, hown, hts⟩ (met_X6_goes l D cs o s.heap.size A S T xsm xth xam f xtl xpl g True True ) (cwV 2 hts gX6_reaches_X6_goes rfl rfl rfl (by decide +kernel) ⟨Nat.le_of_ble_eq_true rfl, Nat.le_of_ble_eq_true rfl⟩) ⟨zPreZ.blind, va_recv hK hP (ci := 6) (q0 := 0) rfl rfl, fun U hU hW => zp_Z hP hK hD hN hU hW⟩ rfl rfl hl.1 rfl (lv_room (Nat.le_of_ble_eq_true rfl)) dX6_reaches_25 ⟨Nat.le_of_ble_eq_true rfl, Nat.le_of_ble_eq_true rfl⟩) hS hD hA (fun H locs hP hD hS => ?_)
      have hP : va_P D vwCl (zmod cs o A S T xsm 1 xam f xtl xpl g) H := by rw [show zGo True True = 1 from zGo_1 (by first | trivial | omega | (simp only [not_true, not_false_eq_true]) | (intro h; omega))] at hP; exact hP
      have hD : va_D A0 (zmod cs o A S T xsm 1 xam f xtl xpl g) := zD_addr hD rfl
      refine zr_ifb_ne (tgt := 33) hx hb dX6_reaches_28 (by decide) (fun c5 => ?_) (fun c5 => ?_)
      · exfalso; first | omega | (simp only [and_true, true_and] at c5; omega) | exact c5.2.elim
      · first | exact absurd c5 (by decide) | exact absurd (by decide) c5
set_option maxHeartbeats 4000000 in
set_option maxRecDepth 100000 in
theorem met_X6_lasts_ok (l : Launch) (D : va_G) (cs : Nat → ClassId) (o : Nat → Nat) (sz : Nat) (A S T : Int → Int) (xsm xth xam : Int) (f : Int → Int) (xtl xpl : Int) (g : Int → Int) (n : Int) (xi xr : Int) (hI : zOK n A) (hn : 0 ≤ n ∧ n ≤ 3100000) (rxi : -2147483648 ≤ xi ∧ xi ≤ 2147483647) (rxr : -2147483648 ≤ xr ∧ xr ≤ 2147483647) (kok : (-50000 ≤ xi ∧ xi ≤ -1) ∧ 0 ≤ xr ∧ xr ≤ 10000) : Met l yX6_lasts wsX6_lasts ({ frames := 3, cells := 0, slots := 0, locals := 74 }) (va_Pc [.ref (o 0), .int (zI xi), .int (zI xr)] (zPreZ D (zTy cs) (zmod cs o A S T xsm xth xam f xtl xpl g) sz)) (zQi D (zmod cs o A S T xsm xth xam f xtl xpl g) sz (zI (zLa A xi xr)) (zmod cs o A S T xsm 0 xam f xtl xpl g)) 0 0 (va_A (zmod cs o A S T xsm xth xam f xtl xpl g) sz) := by
  refine Met.ofW (cc := cX6_lasts) (maxL := 8) (ret := (some .int)) (by decide) rfl ?_
  intro p e s m args below meth c s₁ B hml hv
  obtain ⟨rfl, hsz, hP, hK, hD0, hN⟩ := hv
  have hx := B.exec
  have hb := B.bytes
  have hr := B.returns
  have hts := atoms_spec (ws := wsX6_lasts) B.pre
  have hown : s.vm.findClass RX6 = some m.cls := findClass_of_methodNamed B.named
  have hlocks := B.notSynchronized
  subst hsz
  obtain ⟨A0, hAe⟩ : ∃ A0, A0 = va_A (zmod cs o A S T xsm xth xam f xtl xpl g) s.heap.size := ⟨_, rfl⟩
  have hD := hD0.self (sz := s.heap.size)
  rw [← hAe] at hD
  have hA : ∀ q : Nat, s.heap.size ≤ q → A0 q := fun q h => by rw [hAe]; exact Or.inr h
  have hS : va_S A0 s.heap s.heap [] := va_S.rf
  have hP : va_P D vwCl (zmod cs o A S T xsm xth xam f xtl xpl g) s.heap := hP
  have hl := lv_entry ([.ref (o 0), .int (zI xi), .int (zI xr)]) (n := 8) (Nat.le_of_ble_eq_true rfl)
  rw [lg_entry_eq]
  generalize (lg_sl ([.ref (o 0), .int (zI xi), .int (zI xr)]) ++ List.replicate (8 - (lg_sl ([.ref (o 0), .int (zI xi), .int (zI xr)])).length) Slot.unset).toArray = ls at hl ⊢
  have hl : lv_has ls 8 [(0, .ref (o 0)), (1, .int (zI xi)), (2, .int (zI xr))] := hl
  have hiX6 : ∀ w ∈ wsX60, w ∈ wsX6_lasts := by decide +kernel
  have hC := zOK_C hI
  refine lv_aload_n hx hb dX6_lasts_0 rfl (lv_at hl 0 rfl) ?_
  refine lv_iload_n hx hb dX6_lasts_1 rfl (lv_at hl 1 rfl) ?_
  refine zr_i2l hx hb dX6_lasts_2 (by omega) ?_
  refine zr_ldc2 (n := (-50000)) hx hb hown (hts (.constantLong RX6 189 (-50000)) (List.mem_of_getElem? (i := 1) rfl)) rfl dX6_lasts_3 ?_
  refine zr_ldc2 (n := (-1)) hx hb hown (hts (.constantLong RX6 58 (-1)) (List.mem_of_getElem? (i := 2) rfl)) rfl dX6_lasts_6 ?_
  refine zc_ri (va_runS (As := [.long (zL xi), .long (zL (-50000)), .long (zL (-1))]) (rest := [.ref (o 0)]) ⟨hx, hb, hml, hown, hts⟩ (met_X6_in l xi (-50000) (-1) (by first | assumption | omega) (by first | assumption | omega) (by first | assumption | omega)) (va_cwS 3 hts gX6_lasts_X6_in rfl rfl rfl (by decide +kernel) ⟨Nat.le_of_ble_eq_true rfl, Nat.le_of_ble_eq_true rfl⟩) ⟨zTrue.blind, fun U hU hW => ⟨rfl, trivial⟩⟩ rfl rfl hl.1 rfl (lv_room (Nat.le_of_ble_eq_true rfl)) dX6_lasts_9 ⟨Nat.le_of_ble_eq_true rfl, Nat.le_of_ble_eq_true rfl⟩) ?_
  refine zr_ifb_eq (tgt := 31) hx hb dX6_lasts_12 (by decide) (fun c1 => ?_) (fun c1 => ?_)
  · refine zr_iconst hx hb dX6_lasts_31 ?_
    refine zr_iconst hx hb dX6_lasts_32 ?_
    refine zc_i (va_runV (As := [.int (zI 0), .int (zI 1)]) (rest := []) ⟨hx, hb, hml, hown, hts⟩ (met_X6_goes l D cs o s.heap.size A S T xsm xth xam f xtl xpl g False True ) (cwV 2 hts gX6_lasts_X6_goes rfl rfl rfl (by decide +kernel) ⟨Nat.le_of_ble_eq_true rfl, Nat.le_of_ble_eq_true rfl⟩) ⟨zPreZ.blind, va_recv hK hP (ci := 6) (q0 := 0) rfl rfl, fun U hU hW => zp_Z hP hK hD hN hU hW⟩ rfl rfl hl.1 rfl (lv_room (Nat.le_of_ble_eq_true rfl)) dX6_lasts_33 ⟨Nat.le_of_ble_eq_true rfl, Nat.le_of_ble_eq_true rfl⟩) hS hD hA (fun H locs hP hD hS => ?_)
    have hP : va_P D vwCl (zmod cs o A S T xsm 0 xam f xtl xpl g) H := by rw [show zGo False True = 0 from zGo_0 (by first | trivial | omega | (simp only [not_true, not_false_eq_true]) | (intro h; omega)) (by first | trivial | omega | (simp only [not_true, not_false_eq_true]) | (intro h; omega))] at hP; exact hP
    have hD : va_D A0 (zmod cs o A S T xsm 0 xam f xtl xpl g) := zD_addr hD rfl
    refine zr_ifb_ne (tgt := 41) hx hb dX6_lasts_36 (by decide) (fun c2 => ?_) (fun c2 => ?_)
    · first | exact absurd c2 (by decide) | exact absurd (by decide) c2
    · exfalso; first | omega | (simp only [and_true, true_and] at c2; omega) | exact c2.2.elim
  · refine lv_iload_n hx hb dX6_lasts_15 rfl (lv_at hl 2 rfl) ?_
    refine zr_i2l hx hb dX6_lasts_16 (by omega) ?_
    refine zr_lconst0 hx hb dX6_lasts_17 ?_
    refine zr_ldc2 (n := 10000) hx hb hown (hts (.constantLong RX6 93 (10000)) (List.mem_of_getElem? (i := 3) rfl)) rfl dX6_lasts_18 ?_
    refine zc_ri (va_runS (As := [.long (zL xr), .long (zL 0), .long (zL 10000)]) (rest := [.ref (o 0)]) ⟨hx, hb, hml, hown, hts⟩ (met_X6_in l xr 0 10000 (by first | assumption | omega) (by first | assumption | omega) (by first | assumption | omega)) (va_cwS 3 hts gX6_lasts_X6_in rfl rfl rfl (by decide +kernel) ⟨Nat.le_of_ble_eq_true rfl, Nat.le_of_ble_eq_true rfl⟩) ⟨zTrue.blind, fun U hU hW => ⟨rfl, trivial⟩⟩ rfl rfl hl.1 rfl (lv_room (Nat.le_of_ble_eq_true rfl)) dX6_lasts_21 ⟨Nat.le_of_ble_eq_true rfl, Nat.le_of_ble_eq_true rfl⟩) ?_
    refine zr_ifb_eq (tgt := 31) hx hb dX6_lasts_24 (by decide) (fun c3 => ?_) (fun c3 => ?_)
    · refine zr_iconst hx hb dX6_lasts_31 ?_
      refine zr_iconst hx hb dX6_lasts_32 ?_
      refine zc_i (va_runV (As := [.int (zI 0), .int (zI 1)]) (rest := []) ⟨hx, hb, hml, hown, hts⟩ (met_X6_goes l D cs o s.heap.size A S T xsm xth xam f xtl xpl g False True ) (cwV 2 hts gX6_lasts_X6_goes rfl rfl rfl (by decide +kernel) ⟨Nat.le_of_ble_eq_true rfl, Nat.le_of_ble_eq_true rfl⟩) ⟨zPreZ.blind, va_recv hK hP (ci := 6) (q0 := 0) rfl rfl, fun U hU hW => zp_Z hP hK hD hN hU hW⟩ rfl rfl hl.1 rfl (lv_room (Nat.le_of_ble_eq_true rfl)) dX6_lasts_33 ⟨Nat.le_of_ble_eq_true rfl, Nat.le_of_ble_eq_true rfl⟩) hS hD hA (fun H locs hP hD hS => ?_)
      have hP : va_P D vwCl (zmod cs o A S T xsm 0 xam f xtl xpl g) H := by rw [show zGo False True = 0 from zGo_0 (by first | trivial | omega | (simp only [not_true, not_false_eq_true]) | (intro h; omega)) (by first | trivial | omega | (simp only [not_true, not_false_eq_true]) | (intro h; omega))] at hP; exact hP
      have hD : va_D A0 (zmod cs o A S T xsm 0 xam f xtl xpl g) := zD_addr hD rfl
      refine zr_ifb_ne (tgt := 41) hx hb dX6_lasts_36 (by decide) (fun c4 => ?_) (fun c4 => ?_)
      · first | exact absurd c4 (by decide) | exact absurd (by decide) c4
      · exfalso; first | omega | (simp only [and_true, true_and] at c4; omega) | exact c4.2.elim
    · refine zr_iconst hx hb dX6_lasts_27 ?_
      refine lv_goto (tgt := 32) hx hb dX6_lasts_28 (by decide) ?_
      refine zr_iconst hx hb dX6_lasts_32 ?_
      refine zc_i (va_runV (As := [.int (zI 1), .int (zI 1)]) (rest := []) ⟨hx, hb, hml, hown, hts⟩ (met_X6_goes l D cs o s.heap.size A S T xsm xth xam f xtl xpl g True True ) (cwV 2 hts gX6_lasts_X6_goes rfl rfl rfl (by decide +kernel) ⟨Nat.le_of_ble_eq_true rfl, Nat.le_of_ble_eq_true rfl⟩) ⟨zPreZ.blind, va_recv hK hP (ci := 6) (q0 := 0) rfl rfl, fun U hU hW => zp_Z hP hK hD hN hU hW⟩ rfl rfl hl.1 rfl (lv_room (Nat.le_of_ble_eq_true rfl)) dX6_lasts_33 ⟨Nat.le_of_ble_eq_true rfl, Nat.le_of_ble_eq_true rfl⟩) hS hD hA (fun H locs hP hD hS => ?_)
      have hP : va_P D vwCl (zmod cs o A S T xsm 0 xam f xtl xpl g) H := by rw [show zGo True True = 0 from zGo_0 (by first | trivial | omega | (simp only [not_true, not_false_eq_true]) | (intro h; omega)) (by first | trivial | omega | (simp only [not_true, not_false_eq_true]) | (intro h; omega))] at hP; exact hP
      have hD : va_D A0 (zmod cs o A S T xsm 0 xam f xtl xpl g) := zD_addr hD rfl
      refine zr_ifb_ne (tgt := 41) hx hb dX6_lasts_36 (by decide) (fun c5 => ?_) (fun c5 => ?_)
      · refine lv_aload_n hx hb dX6_lasts_41 rfl (lv_at hl 0 rfl) ?_
        refine va_get (D := D) (ci := 6) (v := .ref (o 1)) (C := RX6) (T := TX6) (N := 10) hx hb hts hiX6 hown hK hP 0 rfl rfl 0 (by decide) (hts (.fieldLink RX6 7 "ChargeEstimatorModel" "all" "[J") (List.mem_of_getElem? (i := 4) rfl)) (fun _ h9 => h9) rfl dX6_lasts_42 ?_
        refine zr_bipush hx hb dX6_lasts_45 (by decide) ?_
        refine zr_lald (D := D) (g := A) hx hb hK hP 1 2 rfl rfl (by decide) (by decide) dX6_lasts_47 ?_
        refine lv_iload_n hx hb dX6_lasts_48 rfl (lv_at hl 2 rfl) ?_
        refine zr_i2l hx hb dX6_lasts_49 (by omega) ?_
        have hm9 := zmul_s (x := xr) (y := A 37) (a := 10000) (b := 108000000) (by omega) (by omega)
        rw [Int.mul_comm xr] at hm9
        have hm8 : 0 ≤ A 37 * xr := Int.mul_nonneg (by omega) (by omega)
        refine zr_lmul hx hb dX6_lasts_50 ?_
        refine zr_ldc2 (n := 10000) hx hb hown (hts (.constantLong RX6 93 (10000)) (List.mem_of_getElem? (i := 3) rfl)) rfl dX6_lasts_51 ?_
        refine zr_ldiv hx hb dX6_lasts_54 (by omega) (by decide) ?_
        refine lv_lstore_n (lv' := [(3, .long (zL (((A 37) * xr) / 10000))), (0, .ref (o 0)), (1, .int (zI xi)), (2, .int (zI xr))]) hx hb dX6_lasts_55 rfl hl (by decide) rfl (fun ls hl => ?_)
        refine zr_iconst hx hb dX6_lasts_56 ?_
        refine lv_istore (lv' := [(5, .int (zI (-1))), (3, .long (zL (((A 37) * xr) / 10000))), (0, .ref (o 0)), (1, .int (zI xi)), (2, .int (zI xr))]) hx hb dX6_lasts_57 hl (by decide) rfl (fun ls hl => ?_)
        refine zr_ldc (n := 1000001) hx hb hown (hts (.constant RX6 234 (1000001)) (List.mem_of_getElem? (i := 5) rfl)) rfl dX6_lasts_59 ?_
        refine lv_istore (lv' := [(6, .int (zI 1000001)), (5, .int (zI (-1))), (3, .long (zL (((A 37) * xr) / 10000))), (0, .ref (o 0)), (1, .int (zI xi)), (2, .int (zI xr))]) hx hb dX6_lasts_61 hl (by decide) rfl (fun ls hl => ?_)
        suffices J_63 : ∀ (nn : Nat) (xf : Int) (xg : Int) (jf : -1 ≤ xf ∧ xf < xg ∧ xg ≤ 1000001) (jl : ∀ k : Int, 0 ≤ k → k ≤ xf → A 37 * xr / 10000 ≤ zLow A xi k) (jh : xg < 1000001 → zLow A xi xg < A 37 * xr / 10000) (hmu : xg - xf < (nn : Int)) (H : Heap) (locs : List Loc) (hP : va_P D vwCl (zmod cs o A S T xsm 0 xam f xtl xpl g) H) (hD : va_D A0 (zmod cs o A S T xsm 0 xam f xtl xpl g)) (hS : va_S A0 s.heap H locs) (ls : Array Slot) (hl : lv_has ls 8 [(5, .int (zI xf)), (6, .int (zI xg)), (0, .ref (o 0)), (1, .int (zI xi)), (2, .int (zI xr)), (3, .long (zL (A 37 * xr / 10000)))]), W p l e (headSpec wsX6_lasts ({ frames := 3, cells := 0, slots := 0, locals := 74 })).room s m ([.ref (o 0), .int (zI xi), .int (zI xr)] : List Value).toArray below meth c H locs 0 0 (MQ below (zQi D (zmod cs o A S T xsm xth xam f xtl xpl g) s.heap.size (zI (zLa A xi xr)) (zmod cs o A S T xsm 0 xam f xtl xpl g)) ([.ref (o 0), .int (zI xi), .int (zI xr)] : List Value).toArray s 0 0 (va_A (zmod cs o A S T xsm xth xam f xtl xpl g) s.heap.size)) (F0 m 63 ls []) by
          exact J_63 (((1000001 - (-1)) : Int).toNat + 1) (-1) 1000001 (by omega) (by first | (intro k a b; omega) | assumption | (intro k a b; have := zLow_mono hI (i := xi) (t1 := k) (t2 := (xf + xg) / 2) (by omega) (by omega); omega)) (by first | (intro a; omega) | assumption | (intro _; omega)) (by have : (0 : Int) ≤ 1000001 - (-1) := (by omega); omega) _ _ hP hD hS _ (lv_sub hl [1, 0, 3, 4, 5, 2] rfl)
        intro nn
        induction nn with
        | zero => intro xf xg jf jl jh hmu; exfalso; have : (0 : Int) ≤ xg - xf := (by omega); omega
        | succ nn ih =>
          intro xf xg jf jl jh hmu H locs hP hD hS ls hl
          refine lv_iload hx hb dX6_lasts_63 (lv_at hl 1 rfl) ?_
          refine lv_iload hx hb dX6_lasts_65 (lv_at hl 0 rfl) ?_
          refine zr_isub hx hb dX6_lasts_67 ?_
          refine zr_iconst hx hb dX6_lasts_68 ?_
          refine zr_icmp_le (tgt := 110) hx hb dX6_lasts_69 (by decide) (by omega) (by decide) (fun c6 => ?_) (fun c6 => ?_)
          · refine lv_iload hx hb dX6_lasts_110 (lv_at hl 0 rfl) ?_
            have hP9 : va_P D vwCl (zmod cs o A S T xsm 0 xam f xtl xpl g) H := hP
            have hD9 : va_D A0 (zmod cs o A S T xsm 0 xam f xtl xpl g) := zD_addr hD rfl
            subst hAe
            exact W.iret hx hb hr (fun t ht hW => ⟨⟨_, (), rfl, (congrArg zI (show xf = zLa A xi xr from by exact zLa_eq (by omega) jl (by rw [show xf + 1 = xg by omega]; exact jh))), by rw [ht]; exact hP9, hD9⟩, hS.F ht⟩) hS.2.2 dX6_lasts_112
          · refine lv_iload hx hb dX6_lasts_72 (lv_at hl 0 rfl) ?_
            refine lv_iload hx hb dX6_lasts_74 (lv_at hl 1 rfl) ?_
            refine zr_iadd hx hb dX6_lasts_76 ?_
            refine zr_iconst hx hb dX6_lasts_77 ?_
            refine zr_idiv hx hb dX6_lasts_78 (by omega) (by decide) ?_
            refine lv_istore (lv' := [(7, .int (zI ((xf + xg) / 2))), (5, .int (zI xf)), (6, .int (zI xg)), (0, .ref (o 0)), (1, .int (zI xi)), (2, .int (zI xr)), (3, .long (zL (A 37 * xr / 10000)))]) hx hb dX6_lasts_79 hl (by decide) rfl (fun ls hl => ?_)
            refine lv_aload_n hx hb dX6_lasts_81 rfl (lv_at hl 3 rfl) ?_
            refine lv_iload_n hx hb dX6_lasts_82 rfl (lv_at hl 4 rfl) ?_
            refine zr_i2l hx hb dX6_lasts_83 (by omega) ?_
            refine lv_iload hx hb dX6_lasts_84 (lv_at hl 0 rfl) ?_
            refine zr_i2l hx hb dX6_lasts_86 (by omega) ?_
            refine zr_iconst hx hb dX6_lasts_87 ?_
            refine zc_rl (va_runV (As := [.long (zL xi), .long (zL ((xf + xg) / 2)), .int (zI 0)]) (rest := []) ⟨hx, hb, hml, hown, hts⟩ (met_X6_bound l D cs o A S T xsm 0 xam f xtl xpl g xi ((xf + xg) / 2) False (by exact zOK_w hI) (by first | assumption | omega) (by first | assumption | omega)) (cwV 3 hts gX6_lasts_X6_bound rfl rfl rfl (by decide +kernel) ⟨Nat.le_of_ble_eq_true rfl, Nat.le_of_ble_eq_true rfl⟩) ⟨zPre.blind, va_recv hK hP (ci := 6) (q0 := 0) rfl rfl, fun U hU hW => zp_R hP hK hD hN hU hW⟩ rfl rfl hl.1 rfl (lv_room (Nat.le_of_ble_eq_true rfl)) dX6_lasts_88 ⟨Nat.le_of_ble_eq_true rfl, Nat.le_of_ble_eq_true rfl⟩) ?_
            have hlo := zLow_e hI xi ((xf + xg) / 2)
            have hbz := zBo_f A xi ((xf + xg) / 2)
            refine lv_lload_n hx hb dX6_lasts_91 rfl (lv_at hl 6 rfl) ?_
            refine zr_lcmp_lt (tgt := 103) hx hb dX6_lasts_92 dX6_lasts_93 (by decide) (by omega) (by omega) (fun c7 => ?_) (fun c7 => ?_)
            · refine lv_iload hx hb dX6_lasts_103 (lv_at hl 0 rfl) ?_
              refine lv_istore (lv' := [(6, .int (zI ((xf + xg) / 2))), (7, .int (zI ((xf + xg) / 2))), (5, .int (zI xf)), (0, .ref (o 0)), (1, .int (zI xi)), (2, .int (zI xr)), (3, .long (zL (A 37 * xr / 10000)))]) hx hb dX6_lasts_105 hl (by decide) rfl (fun ls hl => ?_)
              refine lv_goto (tgt := 63) hx hb dX6_lasts_107 (by decide) ?_
              exact ih xf ((xf + xg) / 2) (by omega) (by first | (intro k a b; omega) | assumption | (intro k a b; have := zLow_mono hI (i := xi) (t1 := k) (t2 := (xf + xg) / 2) (by omega) (by omega); omega)) (by first | (intro a; omega) | assumption | (intro _; omega)) (by omega) _ _ hP hD hS _ (lv_sub hl [2, 0, 3, 4, 5, 6] rfl)
            · refine lv_iload hx hb dX6_lasts_96 (lv_at hl 0 rfl) ?_
              refine lv_istore (lv' := [(5, .int (zI ((xf + xg) / 2))), (7, .int (zI ((xf + xg) / 2))), (6, .int (zI xg)), (0, .ref (o 0)), (1, .int (zI xi)), (2, .int (zI xr)), (3, .long (zL (A 37 * xr / 10000)))]) hx hb dX6_lasts_98 hl (by decide) rfl (fun ls hl => ?_)
              refine lv_goto (tgt := 107) hx hb dX6_lasts_100 (by decide) ?_
              refine lv_goto (tgt := 63) hx hb dX6_lasts_107 (by decide) ?_
              exact ih ((xf + xg) / 2) xg (by omega) (by first | (intro k a b; omega) | assumption | (intro k a b; have := zLow_mono hI (i := xi) (t1 := k) (t2 := (xf + xg) / 2) (by omega) (by omega); omega)) (by first | (intro a; omega) | assumption | (intro _; omega)) (by omega) _ _ hP hD hS _ (lv_sub hl [0, 2, 3, 4, 5, 6] rfl)
      · first | exact absurd c5 (by decide) | exact absurd (by decide) c5
set_option maxHeartbeats 4000000 in
set_option maxRecDepth 100000 in
theorem met_X6_lasts_no1 (l : Launch) (D : va_G) (cs : Nat → ClassId) (o : Nat → Nat) (sz : Nat) (A S T : Int → Int) (xsm xth xam : Int) (f : Int → Int) (xtl xpl : Int) (g : Int → Int) (xi xr : Int) (rxi : -2147483648 ≤ xi ∧ xi ≤ 2147483647) (rxr : -2147483648 ≤ xr ∧ xr ≤ 2147483647) (kno : ¬ ((-50000 ≤ xi ∧ xi ≤ -1) ∧ 0 ≤ xr ∧ xr ≤ 10000)) : Met l yX6_lasts wsX6_lasts ({ frames := 1, cells := 0, slots := 0, locals := 25 }) (va_Pc [.ref (o 0), .int (zI xi), .int (zI xr)] (zPreZ D (zTy cs) (zmod cs o A S T xsm xth xam f xtl xpl g) sz)) (zQi D (zmod cs o A S T xsm xth xam f xtl xpl g) sz (zI (0)) (zmod cs o A S T xsm 1 xam f xtl xpl g)) 0 0 (va_A (zmod cs o A S T xsm xth xam f xtl xpl g) sz) := by
  refine Met.ofW (cc := cX6_lasts) (maxL := 8) (ret := (some .int)) (by decide) rfl ?_
  intro p e s m args below meth c s₁ B hml hv
  obtain ⟨rfl, hsz, hP, hK, hD0, hN⟩ := hv
  have hx := B.exec
  have hb := B.bytes
  have hr := B.returns
  have hts := atoms_spec (ws := wsX6_lasts) B.pre
  have hown : s.vm.findClass RX6 = some m.cls := findClass_of_methodNamed B.named
  have hlocks := B.notSynchronized
  subst hsz
  obtain ⟨A0, hAe⟩ : ∃ A0, A0 = va_A (zmod cs o A S T xsm xth xam f xtl xpl g) s.heap.size := ⟨_, rfl⟩
  have hD := hD0.self (sz := s.heap.size)
  rw [← hAe] at hD
  have hA : ∀ q : Nat, s.heap.size ≤ q → A0 q := fun q h => by rw [hAe]; exact Or.inr h
  have hS : va_S A0 s.heap s.heap [] := va_S.rf
  have hP : va_P D vwCl (zmod cs o A S T xsm xth xam f xtl xpl g) s.heap := hP
  have hl := lv_entry ([.ref (o 0), .int (zI xi), .int (zI xr)]) (n := 8) (Nat.le_of_ble_eq_true rfl)
  rw [lg_entry_eq]
  generalize (lg_sl ([.ref (o 0), .int (zI xi), .int (zI xr)]) ++ List.replicate (8 - (lg_sl ([.ref (o 0), .int (zI xi), .int (zI xr)])).length) Slot.unset).toArray = ls at hl ⊢
  have hl : lv_has ls 8 [(0, .ref (o 0)), (1, .int (zI xi)), (2, .int (zI xr))] := hl
  refine lv_aload_n hx hb dX6_lasts_0 rfl (lv_at hl 0 rfl) ?_
  refine lv_iload_n hx hb dX6_lasts_1 rfl (lv_at hl 1 rfl) ?_
  refine zr_i2l hx hb dX6_lasts_2 (by omega) ?_
  refine zr_ldc2 (n := (-50000)) hx hb hown (hts (.constantLong RX6 189 (-50000)) (List.mem_of_getElem? (i := 1) rfl)) rfl dX6_lasts_3 ?_
  refine zr_ldc2 (n := (-1)) hx hb hown (hts (.constantLong RX6 58 (-1)) (List.mem_of_getElem? (i := 2) rfl)) rfl dX6_lasts_6 ?_
  refine zc_ri (va_runS (As := [.long (zL xi), .long (zL (-50000)), .long (zL (-1))]) (rest := [.ref (o 0)]) ⟨hx, hb, hml, hown, hts⟩ (met_X6_in l xi (-50000) (-1) (by first | assumption | omega) (by first | assumption | omega) (by first | assumption | omega)) (va_cwS 3 hts gX6_lasts_X6_in rfl rfl rfl (by decide +kernel) ⟨Nat.le_of_ble_eq_true rfl, Nat.le_of_ble_eq_true rfl⟩) ⟨zTrue.blind, fun U hU hW => ⟨rfl, trivial⟩⟩ rfl rfl hl.1 rfl (lv_room (Nat.le_of_ble_eq_true rfl)) dX6_lasts_9 ⟨Nat.le_of_ble_eq_true rfl, Nat.le_of_ble_eq_true rfl⟩) ?_
  refine zr_ifb_eq (tgt := 31) hx hb dX6_lasts_12 (by decide) (fun c1 => ?_) (fun c1 => ?_)
  · refine zr_iconst hx hb dX6_lasts_31 ?_
    refine zr_iconst hx hb dX6_lasts_32 ?_
    refine zc_i (va_runV (As := [.int (zI 0), .int (zI 1)]) (rest := []) ⟨hx, hb, hml, hown, hts⟩ (met_X6_goes l D cs o s.heap.size A S T xsm xth xam f xtl xpl g False True ) (cwV 2 hts gX6_lasts_X6_goes rfl rfl rfl (by decide +kernel) ⟨Nat.le_of_ble_eq_true rfl, Nat.le_of_ble_eq_true rfl⟩) ⟨zPreZ.blind, va_recv hK hP (ci := 6) (q0 := 0) rfl rfl, fun U hU hW => zp_Z hP hK hD hN hU hW⟩ rfl rfl hl.1 rfl (lv_room (Nat.le_of_ble_eq_true rfl)) dX6_lasts_33 ⟨Nat.le_of_ble_eq_true rfl, Nat.le_of_ble_eq_true rfl⟩) hS hD hA (fun H locs hP hD hS => ?_)
    have hP : va_P D vwCl (zmod cs o A S T xsm 1 xam f xtl xpl g) H := by rw [show zGo False True = 1 from zGo_1 (by first | trivial | omega | (simp only [not_true, not_false_eq_true]) | (intro h; omega))] at hP; exact hP
    have hD : va_D A0 (zmod cs o A S T xsm 1 xam f xtl xpl g) := zD_addr hD rfl
    refine zr_ifb_ne (tgt := 41) hx hb dX6_lasts_36 (by decide) (fun c2 => ?_) (fun c2 => ?_)
    · first | exact absurd c2 (by decide) | exact absurd (by decide) c2
    · refine zr_iconst hx hb dX6_lasts_39 ?_
      have hP9 : va_P D vwCl (zmod cs o A S T xsm 1 xam f xtl xpl g) H := hP
      have hD9 : va_D A0 (zmod cs o A S T xsm 1 xam f xtl xpl g) := zD_addr hD rfl
      subst hAe
      exact W.iret hx hb hr (fun t ht hW => ⟨⟨_, (), rfl, (congrArg zI (show 0 = 0 from by rfl)), by rw [ht]; exact hP9, hD9⟩, hS.F ht⟩) hS.2.2 dX6_lasts_40
  · refine lv_iload_n hx hb dX6_lasts_15 rfl (lv_at hl 2 rfl) ?_
    refine zr_i2l hx hb dX6_lasts_16 (by omega) ?_
    refine zr_lconst0 hx hb dX6_lasts_17 ?_
    refine zr_ldc2 (n := 10000) hx hb hown (hts (.constantLong RX6 93 (10000)) (List.mem_of_getElem? (i := 3) rfl)) rfl dX6_lasts_18 ?_
    refine zc_ri (va_runS (As := [.long (zL xr), .long (zL 0), .long (zL 10000)]) (rest := [.ref (o 0)]) ⟨hx, hb, hml, hown, hts⟩ (met_X6_in l xr 0 10000 (by first | assumption | omega) (by first | assumption | omega) (by first | assumption | omega)) (va_cwS 3 hts gX6_lasts_X6_in rfl rfl rfl (by decide +kernel) ⟨Nat.le_of_ble_eq_true rfl, Nat.le_of_ble_eq_true rfl⟩) ⟨zTrue.blind, fun U hU hW => ⟨rfl, trivial⟩⟩ rfl rfl hl.1 rfl (lv_room (Nat.le_of_ble_eq_true rfl)) dX6_lasts_21 ⟨Nat.le_of_ble_eq_true rfl, Nat.le_of_ble_eq_true rfl⟩) ?_
    refine zr_ifb_eq (tgt := 31) hx hb dX6_lasts_24 (by decide) (fun c3 => ?_) (fun c3 => ?_)
    · refine zr_iconst hx hb dX6_lasts_31 ?_
      refine zr_iconst hx hb dX6_lasts_32 ?_
      refine zc_i (va_runV (As := [.int (zI 0), .int (zI 1)]) (rest := []) ⟨hx, hb, hml, hown, hts⟩ (met_X6_goes l D cs o s.heap.size A S T xsm xth xam f xtl xpl g False True ) (cwV 2 hts gX6_lasts_X6_goes rfl rfl rfl (by decide +kernel) ⟨Nat.le_of_ble_eq_true rfl, Nat.le_of_ble_eq_true rfl⟩) ⟨zPreZ.blind, va_recv hK hP (ci := 6) (q0 := 0) rfl rfl, fun U hU hW => zp_Z hP hK hD hN hU hW⟩ rfl rfl hl.1 rfl (lv_room (Nat.le_of_ble_eq_true rfl)) dX6_lasts_33 ⟨Nat.le_of_ble_eq_true rfl, Nat.le_of_ble_eq_true rfl⟩) hS hD hA (fun H locs hP hD hS => ?_)
      have hP : va_P D vwCl (zmod cs o A S T xsm 1 xam f xtl xpl g) H := by rw [show zGo False True = 1 from zGo_1 (by first | trivial | omega | (simp only [not_true, not_false_eq_true]) | (intro h; omega))] at hP; exact hP
      have hD : va_D A0 (zmod cs o A S T xsm 1 xam f xtl xpl g) := zD_addr hD rfl
      refine zr_ifb_ne (tgt := 41) hx hb dX6_lasts_36 (by decide) (fun c4 => ?_) (fun c4 => ?_)
      · first | exact absurd c4 (by decide) | exact absurd (by decide) c4
      · refine zr_iconst hx hb dX6_lasts_39 ?_
        have hP9 : va_P D vwCl (zmod cs o A S T xsm 1 xam f xtl xpl g) H := hP
        have hD9 : va_D A0 (zmod cs o A S T xsm 1 xam f xtl xpl g) := zD_addr hD rfl
        subst hAe
        exact W.iret hx hb hr (fun t ht hW => ⟨⟨_, (), rfl, (congrArg zI (show 0 = 0 from by rfl)), by rw [ht]; exact hP9, hD9⟩, hS.F ht⟩) hS.2.2 dX6_lasts_40
    · refine zr_iconst hx hb dX6_lasts_27 ?_
      refine lv_goto (tgt := 32) hx hb dX6_lasts_28 (by decide) ?_
      refine zr_iconst hx hb dX6_lasts_32 ?_
      refine zc_i (va_runV (As := [.int (zI 1), .int (zI 1)]) (rest := []) ⟨hx, hb, hml, hown, hts⟩ (met_X6_goes l D cs o s.heap.size A S T xsm xth xam f xtl xpl g True True ) (cwV 2 hts gX6_lasts_X6_goes rfl rfl rfl (by decide +kernel) ⟨Nat.le_of_ble_eq_true rfl, Nat.le_of_ble_eq_true rfl⟩) ⟨zPreZ.blind, va_recv hK hP (ci := 6) (q0 := 0) rfl rfl, fun U hU hW => zp_Z hP hK hD hN hU hW⟩ rfl rfl hl.1 rfl (lv_room (Nat.le_of_ble_eq_true rfl)) dX6_lasts_33 ⟨Nat.le_of_ble_eq_true rfl, Nat.le_of_ble_eq_true rfl⟩) hS hD hA (fun H locs hP hD hS => ?_)
      have hP : va_P D vwCl (zmod cs o A S T xsm 1 xam f xtl xpl g) H := by rw [show zGo True True = 1 from zGo_1 (by first | trivial | omega | (simp only [not_true, not_false_eq_true]) | (intro h; omega))] at hP; exact hP
      have hD : va_D A0 (zmod cs o A S T xsm 1 xam f xtl xpl g) := zD_addr hD rfl
      refine zr_ifb_ne (tgt := 41) hx hb dX6_lasts_36 (by decide) (fun c5 => ?_) (fun c5 => ?_)
      · exfalso; first | omega | (simp only [and_true, true_and] at c5; omega) | exact c5.2.elim
      · first | exact absurd c5 (by decide) | exact absurd (by decide) c5
def zUn (S A : Int → Int) (m : Int) : Int → Int := zC S A (213 * (m - 1)) 0 213
set_option maxHeartbeats 4000000 in
set_option maxRecDepth 100000 in
theorem met_X6_undo_ok (l : Launch) (D : va_G) (cs : Nat → ClassId) (o : Nat → Nat) (sz : Nat) (A S T : Int → Int) (xsm xth xam : Int) (f : Int → Int) (xtl xpl : Int) (g : Int → Int) (ksm : 0 ≤ xsm ∧ xsm ≤ 4) (kok : 0 < xsm) : Met l yX6_undo wsX6_undo ({ frames := 1, cells := 0, slots := 0, locals := 22 }) (va_Pc [.ref (o 0)] (zPreZ D (zTy cs) (zmod cs o A S T xsm xth xam f xtl xpl g) sz)) (zQi D (zmod cs o A S T xsm xth xam f xtl xpl g) sz (zI (xsm - 1)) (zmod cs o (zUn S A xsm) S T (xsm - 1) 0 xam f xtl xpl g)) 0 0 (va_A (zmod cs o A S T xsm xth xam f xtl xpl g) sz) := by
  refine Met.ofW (cc := cX6_undo) (maxL := 2) (ret := (some .int)) (by decide) rfl ?_
  intro p e s m args below meth c s₁ B hml hv
  obtain ⟨rfl, hsz, hP, hK, hD0, hN⟩ := hv
  have hx := B.exec
  have hb := B.bytes
  have hr := B.returns
  have hts := atoms_spec (ws := wsX6_undo) B.pre
  have hown : s.vm.findClass RX6 = some m.cls := findClass_of_methodNamed B.named
  have hlocks := B.notSynchronized
  subst hsz
  obtain ⟨A0, hAe⟩ : ∃ A0, A0 = va_A (zmod cs o A S T xsm xth xam f xtl xpl g) s.heap.size := ⟨_, rfl⟩
  have hD := hD0.self (sz := s.heap.size)
  rw [← hAe] at hD
  have hA : ∀ q : Nat, s.heap.size ≤ q → A0 q := fun q h => by rw [hAe]; exact Or.inr h
  have hS : va_S A0 s.heap s.heap [] := va_S.rf
  have hP : va_P D vwCl (zmod cs o A S T xsm xth xam f xtl xpl g) s.heap := hP
  have hl := lv_entry ([.ref (o 0)]) (n := 2) (Nat.le_of_ble_eq_true rfl)
  rw [lg_entry_eq]
  generalize (lg_sl ([.ref (o 0)]) ++ List.replicate (2 - (lg_sl ([.ref (o 0)])).length) Slot.unset).toArray = ls at hl ⊢
  have hl : lv_has ls 2 [(0, .ref (o 0))] := hl
  have hiX6 : ∀ w ∈ wsX60, w ∈ wsX6_undo := by decide +kernel
  refine lv_aload_n hx hb dX6_undo_0 rfl (lv_at hl 0 rfl) ?_
  refine lv_aload_n hx hb dX6_undo_1 rfl (lv_at hl 0 rfl) ?_
  refine va_get (D := D) (ci := 6) (v := .int (zI xsm)) (C := RX6) (T := TX6) (N := 10) hx hb hts hiX6 hown hK hP 0 rfl rfl 3 (by decide) (hts (.fieldLink RX6 90 "ChargeEstimatorModel" "savedMany" "I") (List.mem_of_getElem? (i := 1) rfl)) (fun _ h9 => h9) rfl dX6_undo_2 ?_
  refine zr_if_le (tgt := 12) hx hb dX6_undo_5 (by decide) (by omega) (fun c1 => ?_) (fun c1 => ?_)
  · refine zr_iconst hx hb dX6_undo_12 ?_
    refine zr_iconst hx hb dX6_undo_13 ?_
    refine zc_i (va_runV (As := [.int (zI 0), .int (zI 1)]) (rest := []) ⟨hx, hb, hml, hown, hts⟩ (met_X6_goes l D cs o s.heap.size A S T xsm xth xam f xtl xpl g False True ) (cwV 2 hts gX6_undo_X6_goes rfl rfl rfl (by decide +kernel) ⟨Nat.le_of_ble_eq_true rfl, Nat.le_of_ble_eq_true rfl⟩) ⟨zPreZ.blind, va_recv hK hP (ci := 6) (q0 := 0) rfl rfl, fun U hU hW => zp_Z hP hK hD hN hU hW⟩ rfl rfl hl.1 rfl (lv_room (Nat.le_of_ble_eq_true rfl)) dX6_undo_14 ⟨Nat.le_of_ble_eq_true rfl, Nat.le_of_ble_eq_true rfl⟩) hS hD hA (fun H locs hP hD hS => ?_)
    have hP : va_P D vwCl (zmod cs o A S T xsm 0 xam f xtl xpl g) H := by rw [show zGo False True = 0 from zGo_0 (by first | trivial | omega | (simp only [not_true, not_false_eq_true]) | (intro h; omega)) (by first | trivial | omega | (simp only [not_true, not_false_eq_true]) | (intro h; omega))] at hP; exact hP
    have hD : va_D A0 (zmod cs o A S T xsm 0 xam f xtl xpl g) := zD_addr hD rfl
    refine zr_ifb_ne (tgt := 22) hx hb dX6_undo_17 (by decide) (fun c2 => ?_) (fun c2 => ?_)
    · first | exact absurd c2 (by decide) | exact absurd (by decide) c2
    · exfalso; first | omega | (simp only [and_true, true_and] at c2; omega) | exact c2.2.elim
  · refine zr_iconst hx hb dX6_undo_8 ?_
    refine lv_goto (tgt := 13) hx hb dX6_undo_9 (by decide) ?_
    refine zr_iconst hx hb dX6_undo_13 ?_
    refine zc_i (va_runV (As := [.int (zI 1), .int (zI 1)]) (rest := []) ⟨hx, hb, hml, hown, hts⟩ (met_X6_goes l D cs o s.heap.size A S T xsm xth xam f xtl xpl g True True ) (cwV 2 hts gX6_undo_X6_goes rfl rfl rfl (by decide +kernel) ⟨Nat.le_of_ble_eq_true rfl, Nat.le_of_ble_eq_true rfl⟩) ⟨zPreZ.blind, va_recv hK hP (ci := 6) (q0 := 0) rfl rfl, fun U hU hW => zp_Z hP hK hD hN hU hW⟩ rfl rfl hl.1 rfl (lv_room (Nat.le_of_ble_eq_true rfl)) dX6_undo_14 ⟨Nat.le_of_ble_eq_true rfl, Nat.le_of_ble_eq_true rfl⟩) hS hD hA (fun H locs hP hD hS => ?_)
    have hP : va_P D vwCl (zmod cs o A S T xsm 0 xam f xtl xpl g) H := by rw [show zGo True True = 0 from zGo_0 (by first | trivial | omega | (simp only [not_true, not_false_eq_true]) | (intro h; omega)) (by first | trivial | omega | (simp only [not_true, not_false_eq_true]) | (intro h; omega))] at hP; exact hP
    have hD : va_D A0 (zmod cs o A S T xsm 0 xam f xtl xpl g) := zD_addr hD rfl
    refine zr_ifb_ne (tgt := 22) hx hb dX6_undo_17 (by decide) (fun c3 => ?_) (fun c3 => ?_)
    · refine lv_aload_n hx hb dX6_undo_22 rfl (lv_at hl 0 rfl) ?_
      refine lv_dup hx hb dX6_undo_23 rfl ?_
      refine va_get (D := D) (ci := 6) (v := .int (zI xsm)) (C := RX6) (T := TX6) (N := 10) hx hb hts hiX6 hown hK hP 0 rfl rfl 3 (by decide) (hts (.fieldLink RX6 90 "ChargeEstimatorModel" "savedMany" "I") (List.mem_of_getElem? (i := 1) rfl)) (fun _ h9 => h9) rfl dX6_undo_24 ?_
      refine zr_iconst hx hb dX6_undo_27 ?_
      refine zr_isub hx hb dX6_undo_28 ?_
      refine va_put (D := D) (ci := 6) (v := .int (zI (xsm - 1))) (ty := .int) (C := RX6) (T := TX6) (N := 10) hx hb hts hiX6 tyX6 tyX6_ok nmX6 hown hK hP hD hS 0 rfl rfl 3 (by decide) (hts (.fieldLink RX6 90 "ChargeEstimatorModel" "savedMany" "I") (List.mem_of_getElem? (i := 1) rfl)) (fun _ h9 => h9) rfl (by decide +kernel) rfl rfl (Nat.le_of_ble_eq_true rfl) dX6_undo_29 (fun H locs hP hD hS => ?_)
      have hP : va_P D vwCl (zmod cs o A S T (xsm - 1) 0 xam f xtl xpl g) H := hP
      have hD : va_D A0 (zmod cs o A S T (xsm - 1) 0 xam f xtl xpl g) := zD_addr hD rfl
      refine zr_iconst hx hb dX6_undo_32 ?_
      refine lv_istore_n (lv' := [(1, .int (zI 0)), (0, .ref (o 0))]) hx hb dX6_undo_33 rfl hl (by decide) rfl (fun ls hl => ?_)
      suffices J_34 : ∀ (nn : Nat) (xj : Int) (jj : 0 ≤ xj ∧ xj ≤ 213) (hmu : 213 - xj < (nn : Int)) (H : Heap) (locs : List Loc) (hP : va_P D vwCl (zmod cs o (zC S A (213 * (xsm - 1)) 0 xj) S T (xsm - 1) 0 xam f xtl xpl g) H) (hD : va_D A0 (zmod cs o (zC S A (213 * (xsm - 1)) 0 xj) S T (xsm - 1) 0 xam f xtl xpl g)) (hS : va_S A0 s.heap H locs) (ls : Array Slot) (hl : lv_has ls 2 [(1, .int (zI xj)), (0, .ref (o 0))]), W p l e (headSpec wsX6_undo ({ frames := 1, cells := 0, slots := 0, locals := 22 })).room s m ([.ref (o 0)] : List Value).toArray below meth c H locs 0 0 (MQ below (zQi D (zmod cs o A S T xsm xth xam f xtl xpl g) s.heap.size (zI (xsm - 1)) (zmod cs o (zUn S A xsm) S T (xsm - 1) 0 xam f xtl xpl g)) ([.ref (o 0)] : List Value).toArray s 0 0 (va_A (zmod cs o A S T xsm xth xam f xtl xpl g) s.heap.size)) (F0 m 34 ls []) by
        exact J_34 (((213 - 0) : Int).toNat + 1) 0 (by omega) (by have : (0 : Int) ≤ 213 - 0 := (by omega); omega) _ _ (by rw [zC_0 rfl]; exact hP) (zD_addr hD rfl) hS _ (lv_sub hl [0, 1] rfl)
      intro nn
      induction nn with
      | zero => intro xj jj hmu; exfalso; have : (0 : Int) ≤ 213 - xj := (by omega); omega
      | succ nn ih =>
        intro xj jj hmu H locs hP hD hS ls hl
        refine lv_iload_n hx hb dX6_undo_34 rfl (lv_at hl 0 rfl) ?_
        refine zr_sipush hx hb dX6_undo_35 (by decide) ?_
        refine zr_icmp_ge (tgt := 68) hx hb dX6_undo_38 (by decide) (by omega) (by decide) (fun c4 => ?_) (fun c4 => ?_)
        · refine lv_aload_n hx hb dX6_undo_68 rfl (lv_at hl 1 rfl) ?_
          refine va_get (D := D) (ci := 6) (v := .int (zI (xsm - 1))) (C := RX6) (T := TX6) (N := 10) hx hb hts hiX6 hown hK hP 0 rfl rfl 3 (by decide) (hts (.fieldLink RX6 90 "ChargeEstimatorModel" "savedMany" "I") (List.mem_of_getElem? (i := 1) rfl)) (fun _ h9 => h9) rfl dX6_undo_69 ?_
          have e9 : xj = 213 := by omega
          subst e9
          have hP8 := hP
          have hP9 : va_P D vwCl (zmod cs o (zUn S A xsm) S T (xsm - 1) 0 xam f xtl xpl g) H := hP8
          have hD9 : va_D A0 (zmod cs o (zUn S A xsm) S T (xsm - 1) 0 xam f xtl xpl g) := zD_addr hD rfl
          subst hAe
          exact W.iret hx hb hr (fun t ht hW => ⟨⟨_, (), rfl, (congrArg zI (show xsm - 1 = xsm - 1 from by rfl)), by rw [ht]; exact hP9, hD9⟩, hS.F ht⟩) hS.2.2 dX6_undo_72
        · refine lv_aload_n hx hb dX6_undo_41 rfl (lv_at hl 1 rfl) ?_
          refine va_get (D := D) (ci := 6) (v := .ref (o 1)) (C := RX6) (T := TX6) (N := 10) hx hb hts hiX6 hown hK hP 0 rfl rfl 0 (by decide) (hts (.fieldLink RX6 7 "ChargeEstimatorModel" "all" "[J") (List.mem_of_getElem? (i := 2) rfl)) (fun _ h9 => h9) rfl dX6_undo_42 ?_
          refine lv_iload_n hx hb dX6_undo_45 rfl (lv_at hl 0 rfl) ?_
          refine lv_aload_n hx hb dX6_undo_46 rfl (lv_at hl 1 rfl) ?_
          refine va_get (D := D) (ci := 6) (v := .ref (o 2)) (C := RX6) (T := TX6) (N := 10) hx hb hts hiX6 hown hK hP 0 rfl rfl 1 (by decide) (hts (.fieldLink RX6 13 "ChargeEstimatorModel" "saved" "[J") (List.mem_of_getElem? (i := 3) rfl)) (fun _ h9 => h9) rfl dX6_undo_47 ?_
          refine zr_sipush hx hb dX6_undo_50 (by decide) ?_
          refine lv_aload_n hx hb dX6_undo_53 rfl (lv_at hl 1 rfl) ?_
          refine va_get (D := D) (ci := 6) (v := .int (zI (xsm - 1))) (C := RX6) (T := TX6) (N := 10) hx hb hts hiX6 hown hK hP 0 rfl rfl 3 (by decide) (hts (.fieldLink RX6 90 "ChargeEstimatorModel" "savedMany" "I") (List.mem_of_getElem? (i := 1) rfl)) (fun _ h9 => h9) rfl dX6_undo_54 ?_
          refine zr_imul hx hb dX6_undo_57 ?_
          refine lv_iload_n hx hb dX6_undo_58 rfl (lv_at hl 0 rfl) ?_
          refine zr_iadd hx hb dX6_undo_59 ?_
          refine zr_lald (D := D) (g := S) hx hb hK hP 2 2 rfl rfl (by decide) (by omega) dX6_undo_60 ?_
          refine zr_last (D := D) (g := zC S A (213 * (xsm - 1)) 0 xj) hx hb hK hP hD hS 1 2 rfl rfl (by decide) (by omega) dX6_undo_61 (fun H locs hP hD hS => ?_)
          have hP : va_P D vwCl (zmod cs o (zU (zC S A (213 * (xsm - 1)) 0 xj) xj (S ((213 * (xsm - 1)) + xj))) S T (xsm - 1) 0 xam f xtl xpl g) H := hP
          have hD : va_D A0 (zmod cs o (zU (zC S A (213 * (xsm - 1)) 0 xj) xj (S ((213 * (xsm - 1)) + xj))) S T (xsm - 1) 0 xam f xtl xpl g) := zD_addr hD rfl
          refine zr_iinc (kk := 0) (lv' := [(1, .int (zI (xj + 1))), (0, .ref (o 0))]) hx hb dX6_undo_62 hl rfl (by decide) rfl (fun ls hl => ?_)
          refine lv_goto (tgt := 34) hx hb dX6_undo_65 (by decide) ?_
          exact ih (xj + 1) (by omega) (by omega) _ _ (by rw [← zC_c (by omega), Int.zero_add]; exact hP) (zD_addr hD rfl) hS _ (lv_sub hl [0, 1] rfl)
    · first | exact absurd c3 (by decide) | exact absurd (by decide) c3
set_option maxHeartbeats 4000000 in
set_option maxRecDepth 100000 in
theorem met_X6_undo_no1 (l : Launch) (D : va_G) (cs : Nat → ClassId) (o : Nat → Nat) (sz : Nat) (A S T : Int → Int) (xsm xth xam : Int) (f : Int → Int) (xtl xpl : Int) (g : Int → Int) (ksm : 0 ≤ xsm ∧ xsm ≤ 4) (kno : ¬ (0 < xsm)) : Met l yX6_undo wsX6_undo ({ frames := 1, cells := 0, slots := 0, locals := 22 }) (va_Pc [.ref (o 0)] (zPreZ D (zTy cs) (zmod cs o A S T xsm xth xam f xtl xpl g) sz)) (zQi D (zmod cs o A S T xsm xth xam f xtl xpl g) sz (zI (0)) (zmod cs o A S T xsm 1 xam f xtl xpl g)) 0 0 (va_A (zmod cs o A S T xsm xth xam f xtl xpl g) sz) := by
  refine Met.ofW (cc := cX6_undo) (maxL := 2) (ret := (some .int)) (by decide) rfl ?_
  intro p e s m args below meth c s₁ B hml hv
  obtain ⟨rfl, hsz, hP, hK, hD0, hN⟩ := hv
  have hx := B.exec
  have hb := B.bytes
  have hr := B.returns
  have hts := atoms_spec (ws := wsX6_undo) B.pre
  have hown : s.vm.findClass RX6 = some m.cls := findClass_of_methodNamed B.named
  have hlocks := B.notSynchronized
  subst hsz
  obtain ⟨A0, hAe⟩ : ∃ A0, A0 = va_A (zmod cs o A S T xsm xth xam f xtl xpl g) s.heap.size := ⟨_, rfl⟩
  have hD := hD0.self (sz := s.heap.size)
  rw [← hAe] at hD
  have hA : ∀ q : Nat, s.heap.size ≤ q → A0 q := fun q h => by rw [hAe]; exact Or.inr h
  have hS : va_S A0 s.heap s.heap [] := va_S.rf
  have hP : va_P D vwCl (zmod cs o A S T xsm xth xam f xtl xpl g) s.heap := hP
  have hl := lv_entry ([.ref (o 0)]) (n := 2) (Nat.le_of_ble_eq_true rfl)
  rw [lg_entry_eq]
  generalize (lg_sl ([.ref (o 0)]) ++ List.replicate (2 - (lg_sl ([.ref (o 0)])).length) Slot.unset).toArray = ls at hl ⊢
  have hl : lv_has ls 2 [(0, .ref (o 0))] := hl
  have hiX6 : ∀ w ∈ wsX60, w ∈ wsX6_undo := by decide +kernel
  refine lv_aload_n hx hb dX6_undo_0 rfl (lv_at hl 0 rfl) ?_
  refine lv_aload_n hx hb dX6_undo_1 rfl (lv_at hl 0 rfl) ?_
  refine va_get (D := D) (ci := 6) (v := .int (zI xsm)) (C := RX6) (T := TX6) (N := 10) hx hb hts hiX6 hown hK hP 0 rfl rfl 3 (by decide) (hts (.fieldLink RX6 90 "ChargeEstimatorModel" "savedMany" "I") (List.mem_of_getElem? (i := 1) rfl)) (fun _ h9 => h9) rfl dX6_undo_2 ?_
  refine zr_if_le (tgt := 12) hx hb dX6_undo_5 (by decide) (by omega) (fun c1 => ?_) (fun c1 => ?_)
  · refine zr_iconst hx hb dX6_undo_12 ?_
    refine zr_iconst hx hb dX6_undo_13 ?_
    refine zc_i (va_runV (As := [.int (zI 0), .int (zI 1)]) (rest := []) ⟨hx, hb, hml, hown, hts⟩ (met_X6_goes l D cs o s.heap.size A S T xsm xth xam f xtl xpl g False True ) (cwV 2 hts gX6_undo_X6_goes rfl rfl rfl (by decide +kernel) ⟨Nat.le_of_ble_eq_true rfl, Nat.le_of_ble_eq_true rfl⟩) ⟨zPreZ.blind, va_recv hK hP (ci := 6) (q0 := 0) rfl rfl, fun U hU hW => zp_Z hP hK hD hN hU hW⟩ rfl rfl hl.1 rfl (lv_room (Nat.le_of_ble_eq_true rfl)) dX6_undo_14 ⟨Nat.le_of_ble_eq_true rfl, Nat.le_of_ble_eq_true rfl⟩) hS hD hA (fun H locs hP hD hS => ?_)
    have hP : va_P D vwCl (zmod cs o A S T xsm 1 xam f xtl xpl g) H := by rw [show zGo False True = 1 from zGo_1 (by first | trivial | omega | (simp only [not_true, not_false_eq_true]) | (intro h; omega))] at hP; exact hP
    have hD : va_D A0 (zmod cs o A S T xsm 1 xam f xtl xpl g) := zD_addr hD rfl
    refine zr_ifb_ne (tgt := 22) hx hb dX6_undo_17 (by decide) (fun c2 => ?_) (fun c2 => ?_)
    · first | exact absurd c2 (by decide) | exact absurd (by decide) c2
    · refine zr_iconst hx hb dX6_undo_20 ?_
      have hP9 : va_P D vwCl (zmod cs o A S T xsm 1 xam f xtl xpl g) H := hP
      have hD9 : va_D A0 (zmod cs o A S T xsm 1 xam f xtl xpl g) := zD_addr hD rfl
      subst hAe
      exact W.iret hx hb hr (fun t ht hW => ⟨⟨_, (), rfl, (congrArg zI (show 0 = 0 from by rfl)), by rw [ht]; exact hP9, hD9⟩, hS.F ht⟩) hS.2.2 dX6_undo_21
  · refine zr_iconst hx hb dX6_undo_8 ?_
    refine lv_goto (tgt := 13) hx hb dX6_undo_9 (by decide) ?_
    refine zr_iconst hx hb dX6_undo_13 ?_
    refine zc_i (va_runV (As := [.int (zI 1), .int (zI 1)]) (rest := []) ⟨hx, hb, hml, hown, hts⟩ (met_X6_goes l D cs o s.heap.size A S T xsm xth xam f xtl xpl g True True ) (cwV 2 hts gX6_undo_X6_goes rfl rfl rfl (by decide +kernel) ⟨Nat.le_of_ble_eq_true rfl, Nat.le_of_ble_eq_true rfl⟩) ⟨zPreZ.blind, va_recv hK hP (ci := 6) (q0 := 0) rfl rfl, fun U hU hW => zp_Z hP hK hD hN hU hW⟩ rfl rfl hl.1 rfl (lv_room (Nat.le_of_ble_eq_true rfl)) dX6_undo_14 ⟨Nat.le_of_ble_eq_true rfl, Nat.le_of_ble_eq_true rfl⟩) hS hD hA (fun H locs hP hD hS => ?_)
    have hP : va_P D vwCl (zmod cs o A S T xsm 1 xam f xtl xpl g) H := by rw [show zGo True True = 1 from zGo_1 (by first | trivial | omega | (simp only [not_true, not_false_eq_true]) | (intro h; omega))] at hP; exact hP
    have hD : va_D A0 (zmod cs o A S T xsm 1 xam f xtl xpl g) := zD_addr hD rfl
    refine zr_ifb_ne (tgt := 22) hx hb dX6_undo_17 (by decide) (fun c3 => ?_) (fun c3 => ?_)
    · exfalso; first | omega | (simp only [and_true, true_and] at c3; omega) | exact c3.2.elim
    · first | exact absurd c3 (by decide) | exact absurd (by decide) c3
def zDg (A : Int → Int) (m t : Int) : Int := 31 * zHs (zO A 53) (4 * A 52).toNat (31 * (31 * zHs (zStt A) 6 (zHs A 41 (92969 + t)) + A 41) + A 52) + m
set_option maxHeartbeats 4000000 in
set_option maxRecDepth 100000 in
theorem met_X6_digest (l : Launch) (D : va_G) (cs : Nat → ClassId) (o : Nat → Nat) (sz : Nat) (A S T : Int → Int) (xsm xth xam : Int) (f : Int → Int) (xtl xpl : Int) (g : Int → Int) (n : Int) (hI : zOK n A) (hn : 0 ≤ n ∧ n ≤ 3100000) (ksm : 0 ≤ xsm ∧ xsm ≤ 4) (ktl : 0 ≤ xtl ∧ xtl ≤ 120) : Met l yX6_digest wsX6_digest ({ frames := 3, cells := 0, slots := 0, locals := 61 }) (va_Pc [.ref (o 0)] (zPreZ D (zTy cs) (zmod cs o A S T xsm xth xam f xtl xpl g) sz)) (zQl D (zmod cs o A S T xsm xth xam f xtl xpl g) sz (zL (zDg A xsm xtl)) (zmod cs o A S T xsm 0 xam f xtl xpl g)) 0 0 (va_A (zmod cs o A S T xsm xth xam f xtl xpl g) sz) := by
  refine Met.ofW (cc := cX6_digest) (maxL := 4) (ret := (some .long)) (by decide) rfl ?_
  intro p e s m args below meth c s₁ B hml hv
  obtain ⟨rfl, hsz, hP, hK, hD0, hN⟩ := hv
  have hx := B.exec
  have hb := B.bytes
  have hr := B.returns
  have hts := atoms_spec (ws := wsX6_digest) B.pre
  have hown : s.vm.findClass RX6 = some m.cls := findClass_of_methodNamed B.named
  have hlocks := B.notSynchronized
  subst hsz
  obtain ⟨A0, hAe⟩ : ∃ A0, A0 = va_A (zmod cs o A S T xsm xth xam f xtl xpl g) s.heap.size := ⟨_, rfl⟩
  have hD := hD0.self (sz := s.heap.size)
  rw [← hAe] at hD
  have hA : ∀ q : Nat, s.heap.size ≤ q → A0 q := fun q h => by rw [hAe]; exact Or.inr h
  have hS : va_S A0 s.heap s.heap [] := va_S.rf
  have hP : va_P D vwCl (zmod cs o A S T xsm xth xam f xtl xpl g) s.heap := hP
  have hl := lv_entry ([.ref (o 0)]) (n := 4) (Nat.le_of_ble_eq_true rfl)
  rw [lg_entry_eq]
  generalize (lg_sl ([.ref (o 0)]) ++ List.replicate (4 - (lg_sl ([.ref (o 0)])).length) Slot.unset).toArray = ls at hl ⊢
  have hl : lv_has ls 4 [(0, .ref (o 0))] := hl
  have hiX6 : ∀ w ∈ wsX60, w ∈ wsX6_digest := by decide +kernel
  obtain ⟨qN, qC, qQ, qL, qH, q40, q41, q42, q43, q44, q45, q46, q47, q48, q49, q50, q51, q52, qhad, qlast, qrow⟩ := zOK_q hI
  refine lv_aload_n hx hb dX6_digest_0 rfl (lv_at hl 0 rfl) ?_
  refine zr_iconst hx hb dX6_digest_1 ?_
  refine va_put (D := D) (ci := 6) (v := .int (zI 0)) (ty := .int) (C := RX6) (T := TX6) (N := 10) hx hb hts hiX6 tyX6 tyX6_ok nmX6 hown hK hP hD hS 0 rfl rfl 4 (by decide) (hts (.fieldLink RX6 86 "ChargeEstimatorModel" "thrown" "I") (List.mem_of_getElem? (i := 1) rfl)) (fun _ h9 => h9) rfl (by decide +kernel) rfl rfl (Nat.le_of_ble_eq_true rfl) dX6_digest_2 (fun H locs hP hD hS => ?_)
  have hP : va_P D vwCl (zmod cs o A S T xsm 0 xam f xtl xpl g) H := hP
  have hD : va_D A0 (zmod cs o A S T xsm 0 xam f xtl xpl g) := zD_addr hD rfl
  refine zr_ldc2 (n := 92969) hx hb hown (hts (.constantLong RX6 258 (92969)) (List.mem_of_getElem? (i := 2) rfl)) rfl dX6_digest_5 ?_
  refine lv_aload_n hx hb dX6_digest_8 rfl (lv_at hl 0 rfl) ?_
  refine va_get (D := D) (ci := 6) (v := .int (zI xtl)) (C := RX6) (T := TX6) (N := 10) hx hb hts hiX6 hown hK hP 0 rfl rfl 7 (by decide) (hts (.fieldLink RX6 237 "ChargeEstimatorModel" "textLong" "I") (List.mem_of_getElem? (i := 3) rfl)) (fun _ h9 => h9) rfl dX6_digest_9 ?_
  refine zr_i2l hx hb dX6_digest_12 (by omega) ?_
  refine zr_ladd hx hb dX6_digest_13 ?_
  refine lv_lstore_n (lv' := [(1, .long (zL (92969 + xtl))), (0, .ref (o 0))]) hx hb dX6_digest_14 rfl hl (by decide) rfl (fun ls hl => ?_)
  refine zr_iconst hx hb dX6_digest_15 ?_
  refine lv_istore_n (lv' := [(3, .int (zI 0)), (1, .long (zL (92969 + xtl))), (0, .ref (o 0))]) hx hb dX6_digest_16 rfl hl (by decide) rfl (fun ls hl => ?_)
  suffices J_17 : ∀ (nn : Nat) (xh : Int) (xj : Int) (jj : 0 ≤ xj ∧ xj ≤ 41) (jh : xh = zHs (A) xj.toNat (92969 + xtl)) (hmu : 41 - xj < (nn : Int)) (H : Heap) (locs : List Loc) (hP : va_P D vwCl (zmod cs o A S T xsm 0 xam f xtl xpl g) H) (hD : va_D A0 (zmod cs o A S T xsm 0 xam f xtl xpl g)) (hS : va_S A0 s.heap H locs) (ls : Array Slot) (hl : lv_has ls 4 [(1, .long (zL xh)), (3, .int (zI xj)), (0, .ref (o 0))]), W p l e (headSpec wsX6_digest ({ frames := 3, cells := 0, slots := 0, locals := 61 })).room s m ([.ref (o 0)] : List Value).toArray below meth c H locs 0 0 (MQ below (zQl D (zmod cs o A S T xsm xth xam f xtl xpl g) s.heap.size (zL (zDg A xsm xtl)) (zmod cs o A S T xsm 0 xam f xtl xpl g)) ([.ref (o 0)] : List Value).toArray s 0 0 (va_A (zmod cs o A S T xsm xth xam f xtl xpl g) s.heap.size)) (F0 m 17 ls []) by
    exact J_17 (((41 - 0) : Int).toNat + 1) (92969 + xtl) 0 (by omega) (by first | rfl | (rw [zHs_s _ _ (by omega), ← jh]; first | done | rfl)) (by have : (0 : Int) ≤ 41 - 0 := (by omega); omega) _ _ hP hD hS _ (lv_sub hl [1, 0, 2] rfl)
  intro nn
  induction nn with
  | zero => intro xh xj jj jh hmu; exfalso; have : (0 : Int) ≤ 41 - xj := (by omega); omega
  | succ nn ih =>
    intro xh xj jj jh hmu H locs hP hD hS ls hl
    refine lv_iload_n hx hb dX6_digest_17 rfl (lv_at hl 1 rfl) ?_
    refine zr_bipush hx hb dX6_digest_18 (by decide) ?_
    refine zr_icmp_ge (tgt := 42) hx hb dX6_digest_20 (by decide) (by omega) (by decide) (fun c1 => ?_) (fun c1 => ?_)
    · refine zr_iconst hx hb dX6_digest_42 ?_
      refine lv_istore_n (lv' := [(3, .int (zI 0)), (1, .long (zL xh)), (0, .ref (o 0))]) hx hb dX6_digest_43 rfl hl (by decide) rfl (fun ls hl => ?_)
      suffices J_44 : ∀ (nn : Nat) (xh : Int) (xj : Int) (jj : 0 ≤ xj ∧ xj ≤ 6) (jh : xh = zHs (zStt A) xj.toNat (zHs A 41 (92969 + xtl))) (hmu : 6 - xj < (nn : Int)) (H : Heap) (locs : List Loc) (hP : va_P D vwCl (zmod cs o A S T xsm 0 xam f xtl xpl g) H) (hD : va_D A0 (zmod cs o A S T xsm 0 xam f xtl xpl g)) (hS : va_S A0 s.heap H locs) (ls : Array Slot) (hl : lv_has ls 4 [(1, .long (zL xh)), (3, .int (zI xj)), (0, .ref (o 0))]), W p l e (headSpec wsX6_digest ({ frames := 3, cells := 0, slots := 0, locals := 61 })).room s m ([.ref (o 0)] : List Value).toArray below meth c H locs 0 0 (MQ below (zQl D (zmod cs o A S T xsm xth xam f xtl xpl g) s.heap.size (zL (zDg A xsm xtl)) (zmod cs o A S T xsm 0 xam f xtl xpl g)) ([.ref (o 0)] : List Value).toArray s 0 0 (va_A (zmod cs o A S T xsm xth xam f xtl xpl g) s.heap.size)) (F0 m 44 ls []) by
        exact J_44 (((6 - 0) : Int).toNat + 1) xh 0 (by omega) (by first | (rw [jh]; exact zHs_eq _ _ (by omega)) | (rw [zHs_s _ _ (by omega), ← jh]; first | done | rfl)) (by have : (0 : Int) ≤ 6 - 0 := (by omega); omega) _ _ hP hD hS _ (lv_sub hl [1, 0, 2] rfl)
      intro nn
      induction nn with
      | zero => intro xh xj jj jh hmu; exfalso; have : (0 : Int) ≤ 6 - xj := (by omega); omega
      | succ nn ih =>
        intro xh xj jj jh hmu H locs hP hD hS ls hl
        have hr1 := zStt_r hI hn xj
        refine lv_iload_n hx hb dX6_digest_44 rfl (lv_at hl 1 rfl) ?_
        refine zr_bipush hx hb dX6_digest_45 (by decide) ?_
        refine zr_icmp_ge (tgt := 69) hx hb dX6_digest_47 (by decide) (by omega) (by decide) (fun c2 => ?_) (fun c2 => ?_)
        · refine zr_ldc2 (n := 31) hx hb hown (hts (.constantLong RX6 260 (31)) (List.mem_of_getElem? (i := 4) rfl)) rfl dX6_digest_69 ?_
          refine zr_ldc2 (n := 31) hx hb hown (hts (.constantLong RX6 260 (31)) (List.mem_of_getElem? (i := 4) rfl)) rfl dX6_digest_72 ?_
          refine lv_lload_n hx hb dX6_digest_75 rfl (lv_at hl 0 rfl) ?_
          refine zr_lmul hx hb dX6_digest_76 ?_
          refine lv_aload_n hx hb dX6_digest_77 rfl (lv_at hl 2 rfl) ?_
          refine va_get (D := D) (ci := 6) (v := .ref (o 1)) (C := RX6) (T := TX6) (N := 10) hx hb hts hiX6 hown hK hP 0 rfl rfl 0 (by decide) (hts (.fieldLink RX6 7 "ChargeEstimatorModel" "all" "[J") (List.mem_of_getElem? (i := 5) rfl)) (fun _ h9 => h9) rfl dX6_digest_78 ?_
          refine zr_bipush hx hb dX6_digest_81 (by decide) ?_
          refine zr_lald (D := D) (g := A) hx hb hK hP 1 2 rfl rfl (by decide) (by decide) dX6_digest_83 ?_
          refine zr_ladd hx hb dX6_digest_84 ?_
          refine zr_lmul hx hb dX6_digest_85 ?_
          refine lv_aload_n hx hb dX6_digest_86 rfl (lv_at hl 2 rfl) ?_
          refine va_get (D := D) (ci := 6) (v := .ref (o 1)) (C := RX6) (T := TX6) (N := 10) hx hb hts hiX6 hown hK hP 0 rfl rfl 0 (by decide) (hts (.fieldLink RX6 7 "ChargeEstimatorModel" "all" "[J") (List.mem_of_getElem? (i := 5) rfl)) (fun _ h9 => h9) rfl dX6_digest_87 ?_
          refine zr_bipush hx hb dX6_digest_90 (by decide) ?_
          refine zr_lald (D := D) (g := A) hx hb hK hP 1 2 rfl rfl (by decide) (by decide) dX6_digest_92 ?_
          refine zr_ladd hx hb dX6_digest_93 ?_
          refine lv_lstore_n (lv' := [(1, .long (zL ((31 * ((31 * xh) + (A 41))) + (A 52)))), (3, .int (zI xj)), (0, .ref (o 0))]) hx hb dX6_digest_94 rfl hl (by decide) rfl (fun ls hl => ?_)
          refine zr_iconst hx hb dX6_digest_95 ?_
          refine lv_istore_n (lv' := [(3, .int (zI 0)), (1, .long (zL ((31 * ((31 * xh) + (A 41))) + (A 52)))), (0, .ref (o 0))]) hx hb dX6_digest_96 rfl hl (by decide) rfl (fun ls hl => ?_)
          suffices J_97 : ∀ (nn : Nat) (xh : Int) (xj : Int) (jj : 0 ≤ xj ∧ xj ≤ 4 * A 52) (jh : xh = zHs (zO A 53) xj.toNat (31 * (31 * zHs (zStt A) 6 (zHs A 41 (92969 + xtl)) + A 41) + A 52)) (hmu : 4 * A 52 - xj < (nn : Int)) (H : Heap) (locs : List Loc) (hP : va_P D vwCl (zmod cs o A S T xsm 0 xam f xtl xpl g) H) (hD : va_D A0 (zmod cs o A S T xsm 0 xam f xtl xpl g)) (hS : va_S A0 s.heap H locs) (ls : Array Slot) (hl : lv_has ls 4 [(1, .long (zL xh)), (3, .int (zI xj)), (0, .ref (o 0))]), W p l e (headSpec wsX6_digest ({ frames := 3, cells := 0, slots := 0, locals := 61 })).room s m ([.ref (o 0)] : List Value).toArray below meth c H locs 0 0 (MQ below (zQl D (zmod cs o A S T xsm xth xam f xtl xpl g) s.heap.size (zL (zDg A xsm xtl)) (zmod cs o A S T xsm 0 xam f xtl xpl g)) ([.ref (o 0)] : List Value).toArray s 0 0 (va_A (zmod cs o A S T xsm xth xam f xtl xpl g) s.heap.size)) (F0 m 97 ls []) by
            exact J_97 (((4 * A 52 - 0) : Int).toNat + 1) ((31 * ((31 * xh) + (A 41))) + (A 52)) 0 (by omega) (by first | (rw [jh, zHs_eq (n := 6) _ _ (by omega)]; rfl) | (rw [zHs_s _ _ (by omega), ← jh]; first | done | rfl)) (by have : (0 : Int) ≤ 4 * A 52 - 0 := (by omega); omega) _ _ hP hD hS _ (lv_sub hl [1, 0, 2] rfl)
          intro nn
          induction nn with
          | zero => intro xh xj jj jh hmu; exfalso; have : (0 : Int) ≤ 4 * A 52 - xj := (by omega); omega
          | succ nn ih =>
            intro xh xj jj jh hmu H locs hP hD hS ls hl
            refine lv_iload_n hx hb dX6_digest_97 rfl (lv_at hl 1 rfl) ?_
            refine zr_i2l hx hb dX6_digest_98 (by omega) ?_
            refine zr_ldc2 (n := 4) hx hb hown (hts (.constantLong RX6 157 (4)) (List.mem_of_getElem? (i := 6) rfl)) rfl dX6_digest_99 ?_
            refine lv_aload_n hx hb dX6_digest_102 rfl (lv_at hl 2 rfl) ?_
            refine va_get (D := D) (ci := 6) (v := .ref (o 1)) (C := RX6) (T := TX6) (N := 10) hx hb hts hiX6 hown hK hP 0 rfl rfl 0 (by decide) (hts (.fieldLink RX6 7 "ChargeEstimatorModel" "all" "[J") (List.mem_of_getElem? (i := 5) rfl)) (fun _ h9 => h9) rfl dX6_digest_103 ?_
            refine zr_bipush hx hb dX6_digest_106 (by decide) ?_
            refine zr_lald (D := D) (g := A) hx hb hK hP 1 2 rfl rfl (by decide) (by decide) dX6_digest_108 ?_
            refine zr_lmul hx hb dX6_digest_109 ?_
            refine zr_lcmp_ge (tgt := 136) hx hb dX6_digest_110 dX6_digest_111 (by decide) (by omega) (by omega) (fun c3 => ?_) (fun c3 => ?_)
            · refine zr_ldc2 (n := 31) hx hb hown (hts (.constantLong RX6 260 (31)) (List.mem_of_getElem? (i := 4) rfl)) rfl dX6_digest_136 ?_
              refine lv_lload_n hx hb dX6_digest_139 rfl (lv_at hl 0 rfl) ?_
              refine zr_lmul hx hb dX6_digest_140 ?_
              refine lv_aload_n hx hb dX6_digest_141 rfl (lv_at hl 2 rfl) ?_
              refine va_get (D := D) (ci := 6) (v := .int (zI xsm)) (C := RX6) (T := TX6) (N := 10) hx hb hts hiX6 hown hK hP 0 rfl rfl 3 (by decide) (hts (.fieldLink RX6 90 "ChargeEstimatorModel" "savedMany" "I") (List.mem_of_getElem? (i := 7) rfl)) (fun _ h9 => h9) rfl dX6_digest_142 ?_
              refine zr_i2l hx hb dX6_digest_145 (by omega) ?_
              refine zr_ladd hx hb dX6_digest_146 ?_
              have hP9 : va_P D vwCl (zmod cs o A S T xsm 0 xam f xtl xpl g) H := hP
              have hD9 : va_D A0 (zmod cs o A S T xsm 0 xam f xtl xpl g) := zD_addr hD rfl
              subst hAe
              exact W.lret hx hb hr (fun t ht hW => ⟨⟨_, (), rfl, (congrArg zL (show (31 * xh) + xsm = zDg A xsm xtl from by unfold zDg; rw [jh, show xj = 4 * A 52 by omega])), by rw [ht]; exact hP9, hD9⟩, hS.F ht⟩) hS.2.2 dX6_digest_147
            · refine zr_ldc2 (n := 31) hx hb hown (hts (.constantLong RX6 260 (31)) (List.mem_of_getElem? (i := 4) rfl)) rfl dX6_digest_114 ?_
              refine lv_lload_n hx hb dX6_digest_117 rfl (lv_at hl 0 rfl) ?_
              refine zr_lmul hx hb dX6_digest_118 ?_
              refine lv_aload_n hx hb dX6_digest_119 rfl (lv_at hl 2 rfl) ?_
              refine va_get (D := D) (ci := 6) (v := .ref (o 1)) (C := RX6) (T := TX6) (N := 10) hx hb hts hiX6 hown hK hP 0 rfl rfl 0 (by decide) (hts (.fieldLink RX6 7 "ChargeEstimatorModel" "all" "[J") (List.mem_of_getElem? (i := 5) rfl)) (fun _ h9 => h9) rfl dX6_digest_120 ?_
              refine zr_bipush hx hb dX6_digest_123 (by decide) ?_
              refine lv_iload_n hx hb dX6_digest_125 rfl (lv_at hl 1 rfl) ?_
              refine zr_iadd hx hb dX6_digest_126 ?_
              refine zr_lald (D := D) (g := A) hx hb hK hP 1 2 rfl rfl (by decide) (by omega) dX6_digest_127 ?_
              refine zr_ladd hx hb dX6_digest_128 ?_
              refine lv_lstore_n (lv' := [(1, .long (zL ((31 * xh) + (A (53 + xj))))), (3, .int (zI xj)), (0, .ref (o 0))]) hx hb dX6_digest_129 rfl hl (by decide) rfl (fun ls hl => ?_)
              refine zr_iinc (kk := 1) (lv' := [(3, .int (zI (xj + 1))), (1, .long (zL ((31 * xh) + (A (53 + xj))))), (0, .ref (o 0))]) hx hb dX6_digest_130 hl rfl (by decide) rfl (fun ls hl => ?_)
              refine lv_goto (tgt := 97) hx hb dX6_digest_133 (by decide) ?_
              exact ih ((31 * xh) + (A (53 + xj))) (xj + 1) (by omega) (by first | (rw [jh, zHs_eq (n := 6) _ _ (by omega)]; rfl) | (rw [zHs_s _ _ (by omega), ← jh]; first | done | rfl)) (by omega) _ _ hP hD hS _ (lv_sub hl [1, 0, 2] rfl)
        · refine zr_ldc2 (n := 31) hx hb hown (hts (.constantLong RX6 260 (31)) (List.mem_of_getElem? (i := 4) rfl)) rfl dX6_digest_50 ?_
          refine lv_lload_n hx hb dX6_digest_53 rfl (lv_at hl 0 rfl) ?_
          refine zr_lmul hx hb dX6_digest_54 ?_
          refine lv_aload_n hx hb dX6_digest_55 rfl (lv_at hl 2 rfl) ?_
          refine lv_iload_n hx hb dX6_digest_56 rfl (lv_at hl 1 rfl) ?_
          refine zc_ri (va_runV (As := [.int (zI xj)]) (rest := [.long (zL (31 * xh))]) ⟨hx, hb, hml, hown, hts⟩ (met_X6_statusNow l D cs o A S T xsm 0 xam f xtl xpl g _ xj (by assumption) (by assumption) (by first | assumption | omega)) (cwV 1 hts gX6_digest_X6_statusNow rfl rfl rfl (by decide +kernel) ⟨Nat.le_of_ble_eq_true rfl, Nat.le_of_ble_eq_true rfl⟩) ⟨zPre.blind, va_recv hK hP (ci := 6) (q0 := 0) rfl rfl, fun U hU hW => zp_R hP hK hD hN hU hW⟩ rfl rfl hl.1 rfl (lv_room (Nat.le_of_ble_eq_true rfl)) dX6_digest_57 ⟨Nat.le_of_ble_eq_true rfl, Nat.le_of_ble_eq_true rfl⟩) ?_
          refine zr_i2l hx hb dX6_digest_60 (by omega) ?_
          refine zr_ladd hx hb dX6_digest_61 ?_
          refine lv_lstore_n (lv' := [(1, .long (zL ((31 * xh) + (zStt A xj)))), (3, .int (zI xj)), (0, .ref (o 0))]) hx hb dX6_digest_62 rfl hl (by decide) rfl (fun ls hl => ?_)
          refine zr_iinc (kk := 1) (lv' := [(3, .int (zI (xj + 1))), (1, .long (zL ((31 * xh) + (zStt A xj)))), (0, .ref (o 0))]) hx hb dX6_digest_63 hl rfl (by decide) rfl (fun ls hl => ?_)
          refine lv_goto (tgt := 44) hx hb dX6_digest_66 (by decide) ?_
          exact ih ((31 * xh) + (zStt A xj)) (xj + 1) (by omega) (by first | (rw [jh]; exact zHs_eq _ _ (by omega)) | (rw [zHs_s _ _ (by omega), ← jh]; first | done | rfl)) (by omega) _ _ hP hD hS _ (lv_sub hl [1, 0, 2] rfl)
    · refine zr_ldc2 (n := 31) hx hb hown (hts (.constantLong RX6 260 (31)) (List.mem_of_getElem? (i := 4) rfl)) rfl dX6_digest_23 ?_
      refine lv_lload_n hx hb dX6_digest_26 rfl (lv_at hl 0 rfl) ?_
      refine zr_lmul hx hb dX6_digest_27 ?_
      refine lv_aload_n hx hb dX6_digest_28 rfl (lv_at hl 2 rfl) ?_
      refine va_get (D := D) (ci := 6) (v := .ref (o 1)) (C := RX6) (T := TX6) (N := 10) hx hb hts hiX6 hown hK hP 0 rfl rfl 0 (by decide) (hts (.fieldLink RX6 7 "ChargeEstimatorModel" "all" "[J") (List.mem_of_getElem? (i := 5) rfl)) (fun _ h9 => h9) rfl dX6_digest_29 ?_
      refine lv_iload_n hx hb dX6_digest_32 rfl (lv_at hl 1 rfl) ?_
      refine zr_lald (D := D) (g := A) hx hb hK hP 1 2 rfl rfl (by decide) (by omega) dX6_digest_33 ?_
      refine zr_ladd hx hb dX6_digest_34 ?_
      refine lv_lstore_n (lv' := [(1, .long (zL ((31 * xh) + (A xj)))), (3, .int (zI xj)), (0, .ref (o 0))]) hx hb dX6_digest_35 rfl hl (by decide) rfl (fun ls hl => ?_)
      refine zr_iinc (kk := 1) (lv' := [(3, .int (zI (xj + 1))), (1, .long (zL ((31 * xh) + (A xj)))), (0, .ref (o 0))]) hx hb dX6_digest_36 hl rfl (by decide) rfl (fun ls hl => ?_)
      refine lv_goto (tgt := 17) hx hb dX6_digest_39 (by decide) ?_
      exact ih ((31 * xh) + (A xj)) (xj + 1) (by omega) (by first | rfl | (rw [zHs_s _ _ (by omega), ← jh]; first | done | rfl)) (by omega) _ _ hP hD hS _ (lv_sub hl [1, 0, 2] rfl)
