/-! the calls of the class: what there is -/
set_option maxHeartbeats 4000000 in
set_option maxRecDepth 100000 in
theorem met_X5_charge_ok (l : Launch) (D : va_G) (cs : Nat → ClassId) (o : Nat → Nat → Nat) (A : Int → Int) (xw : Int) (rxw : -2147483648 ≤ xw ∧ xw ≤ 2147483647) (kok : 0 ≤ xw ∧ xw ≤ 6) : Met l yX5_charge wsX5_charge ({ frames := 2, cells := 0, slots := 0, locals := 44 }) (va_Pc [.ref ((o 0) 0), .int (zI xw)] (zPre D (zTy cs) ([((o 0) 0, .inr (5, [.ref ((o 1) 0), .ref ((o 2) 0), .ref ((o 3) 0), .ref ((o 8) 0)]))] ++ zbat cs (o 1) A))) (zRl (zL (A (34 + xw)))) 0 0 (fun _ => False) := by
  refine Met.ofW (cc := cX5_charge) (maxL := 2) (ret := (some .long)) (by decide) rfl ?_
  intro p e s m args below meth c s₁ B hml hv
  obtain ⟨rfl, hP, hK, hD0, hN⟩ := hv
  have hx := B.exec
  have hb := B.bytes
  have hr := B.returns
  have hts := atoms_spec (ws := wsX5_charge) B.pre
  have hown : s.vm.findClass RX5 = some m.cls := findClass_of_methodNamed B.named
  have hlocks := B.notSynchronized
  have hD := hD0
  have hl := lv_entry ([.ref ((o 0) 0), .int (zI xw)]) (n := 2) (Nat.le_of_ble_eq_true rfl)
  rw [lg_entry_eq]
  generalize (lg_sl ([.ref ((o 0) 0), .int (zI xw)]) ++ List.replicate (2 - (lg_sl ([.ref ((o 0) 0), .int (zI xw)])).length) Slot.unset).toArray = ls at hl ⊢
  have hl : lv_has ls 2 [(0, .ref ((o 0) 0)), (1, .int (zI xw))] := hl
  have hiX5 : ∀ w ∈ wsX50, w ∈ wsX5_charge := by decide +kernel
  refine lv_iload_n hx hb dX5_charge_0 rfl (lv_at hl 1 rfl) ?_
  refine zr_iconst hx hb dX5_charge_1 ?_
  refine zr_bipush hx hb dX5_charge_2 (by decide) ?_
  refine zc_rv (va_runS (As := [.int (zI xw), .int (zI 0), .int (zI 6)]) (rest := []) ⟨hx, hb, hml, hown, hts⟩ (met_X5_requireWithin_ok l xw 0 6 (by omega) (by decide) (by decide) (by first | assumption | omega)) (va_cwS 3 hts gX5_charge_X5_requireWithin rfl rfl rfl (by decide +kernel) ⟨(Nat.le_of_ble_eq_true rfl), (Nat.le_of_ble_eq_true rfl)⟩) ⟨zTrue.blind, fun U hU hW => ⟨rfl, trivial⟩⟩ rfl rfl hl.1 rfl (lv_room ((Nat.le_of_ble_eq_true rfl))) dX5_charge_4 ⟨(Nat.le_of_ble_eq_true rfl), (Nat.le_of_ble_eq_true rfl)⟩) ?_
  refine lv_aload_n hx hb dX5_charge_7 rfl (lv_at hl 0 rfl) ?_
  refine va_get (D := D) (ci := 5) (v := .ref ((o 1) 0)) (C := RX5) (T := TX5) (N := 4) hx hb hts hiX5 hown hK hP 0 rfl rfl 0 (by decide) (hts (.fieldLink RX5 10 "ChargeEstimator" "battery" "LChargeEstimator$Battery;") (List.mem_of_getElem? (i := 1) rfl)) (fun _ h9 => h9) rfl dX5_charge_8 ?_
  refine lv_iload_n hx hb dX5_charge_11 rfl (lv_at hl 1 rfl) ?_
  refine zc_rl (va_runV (As := [.int (zI xw)]) (rest := []) ⟨hx, hb, hml, hown, hts⟩ (met_X1_chargeOf l D cs (o 1) (0 : Int) A xw (by first | assumption | omega)) (cwV 1 hts gX5_charge_X1_chargeOf rfl rfl rfl (by decide +kernel) ⟨Nat.le_of_ble_eq_true rfl, Nat.le_of_ble_eq_true rfl⟩) ⟨zPre.blind, va_recv hK hP (ci := 1) (q0 := 1) rfl rfl, fun U hU hW => zp_R (hP.sub (ws' := zbat cs (o 1) A) [1, 2, 3, 4, 5, 6, 7] rfl) hK (hD.sub (ws' := zbat cs (o 1) A) [1, 2, 3, 4, 5, 6, 7] (by decide) rfl) hN hU hW⟩ rfl rfl hl.1 rfl (lv_room (Nat.le_of_ble_eq_true rfl)) dX5_charge_12 ⟨Nat.le_of_ble_eq_true rfl, Nat.le_of_ble_eq_true rfl⟩) ?_
  exact W.lret hx hb hr (fun t ht hW => ⟨_, rfl, (congrArg zL (show A (34 + xw) = A (34 + xw) from by rfl)), ht⟩) (fun q hq => absurd hq List.not_mem_nil) dX5_charge_15
set_option maxHeartbeats 4000000 in
set_option maxRecDepth 100000 in
theorem met_X5_charge_x (l : Launch) (hfl : l.stackTraces = false) (D : va_G) (cs : Nat → ClassId) (o : Nat → Nat → Nat) (A : Int → Int) (xw : Int) (rxw : -2147483648 ≤ xw ∧ xw ≤ 2147483647) (kno : ¬ (0 ≤ xw ∧ xw ≤ 6)) : vx_Met l yX5_charge wsX5_charge ({ frames := 7, cells := 1, slots := 6, locals := 104 }) (va_Pc [.ref ((o 0) 0), .int (zI xw)] (zPreX D (zTy cs) ([((o 0) 0, .inr (5, [.ref ((o 1) 0), .ref ((o 2) 0), .ref ((o 3) 0), .ref ((o 8) 0)]))] ++ zbat cs (o 1) A))) zQXl (zXC "java/lang/IllegalArgumentException") 1 6 (fun _ => False) := by
  refine vx_ofW (cc := cX5_charge) (maxL := 2) (ret := (some .long)) (by decide +kernel) rfl ?_
  intro p e s m args below meth c s₁ B hml hnx hv
  obtain ⟨rfl, ⟨hP, hK, hD0, hN⟩, hX⟩ := hv
  have hx := B.exec
  have hb := B.bytes
  have hr := B.returns
  have hts := atoms_spec (ws := wsX5_charge) B.pre
  have hown : s.vm.findClass RX5 = some m.cls := findClass_of_methodNamed B.named
  have hlocks := B.notSynchronized
  have hX : zXF s s.heap := hX
  have hS : va_S (fun _ => False) s.heap s.heap [] := va_S.rf
  have hD := hD0
  have hl := lv_entry ([.ref ((o 0) 0), .int (zI xw)]) (n := 2) (Nat.le_of_ble_eq_true rfl)
  rw [lg_entry_eq]
  generalize (lg_sl ([.ref ((o 0) 0), .int (zI xw)]) ++ List.replicate (2 - (lg_sl ([.ref ((o 0) 0), .int (zI xw)])).length) Slot.unset).toArray = ls at hl ⊢
  have hl : lv_has ls 2 [(0, .ref ((o 0) 0)), (1, .int (zI xw))] := hl
  refine lv_iload_n hx hb dX5_charge_0 rfl (lv_at hl 1 rfl) ?_
  refine zr_iconst hx hb dX5_charge_1 ?_
  refine zr_bipush hx hb dX5_charge_2 (by decide) ?_
  by_cases r1 : (0 : Int) ≤ xw ∧ xw ≤ (6 : Int)
  rotate_left
  · exact zc_xv (vx_runS (As := [.int (zI xw), .int (zI 0), .int (zI 6)]) (rest := []) ⟨hx, hb, hml, hown, hts⟩ (met_X5_requireWithin_x l hfl xw 0 6 (by omega) (by decide) (by decide) r1) (va_cwS 3 hts gX5_charge_X5_requireWithin rfl rfl rfl (by decide +kernel) ⟨(Nat.le_of_ble_eq_true rfl), (Nat.le_of_ble_eq_true rfl)⟩) ⟨zPreY.blind, fun U hU hW => zp_Y hX hU hW⟩ rfl rfl hl.1 rfl (lv_room ((Nat.le_of_ble_eq_true rfl))) dX5_charge_4 ⟨(Nat.le_of_ble_eq_true rfl), (Nat.le_of_ble_eq_true rfl)⟩) hnx hlocks hS (Nat.le_of_ble_eq_true rfl) (Nat.le_of_ble_eq_true rfl)
  refine zc_rv (va_runS (As := [.int (zI xw), .int (zI 0), .int (zI 6)]) (rest := []) ⟨hx, hb, hml, hown, hts⟩ (met_X5_requireWithin_ok l xw 0 6 (by omega) (by decide) (by decide) r1) (va_cwS 3 hts gX5_charge_X5_requireWithin rfl rfl rfl (by decide +kernel) ⟨(Nat.le_of_ble_eq_true rfl), (Nat.le_of_ble_eq_true rfl)⟩) ⟨zTrue.blind, fun U hU hW => ⟨rfl, trivial⟩⟩ rfl rfl hl.1 rfl (lv_room ((Nat.le_of_ble_eq_true rfl))) dX5_charge_4 ⟨(Nat.le_of_ble_eq_true rfl), (Nat.le_of_ble_eq_true rfl)⟩) ?_
  exfalso; first | omega | (simp only [and_true, true_and] at hx; omega) | exact hx.2.elim
set_option maxHeartbeats 4000000 in
set_option maxRecDepth 100000 in
theorem met_X5_soc_ok (l : Launch) (D : va_G) (cs : Nat → ClassId) (o : Nat → Nat → Nat) (A : Int → Int) (n : Int) (xw : Int) (hI : zOK n A) (hn : 0 ≤ n ∧ n ≤ 3100000) (rxw : -2147483648 ≤ xw ∧ xw ≤ 2147483647) (kok : 0 ≤ xw ∧ xw ≤ 2) : Met l yX5_soc wsX5_soc ({ frames := 2, cells := 0, slots := 0, locals := 44 }) (va_Pc [.ref ((o 0) 0), .int (zI xw)] (zPre D (zTy cs) ([((o 0) 0, .inr (5, [.ref ((o 1) 0), .ref ((o 2) 0), .ref ((o 3) 0), .ref ((o 8) 0)]))] ++ zbat cs (o 1) A))) (zRi (zI (A (34 + xw) * 10000 / A 37))) 0 0 (fun _ => False) := by
  refine Met.ofW (cc := cX5_soc) (maxL := 2) (ret := (some .int)) (by decide) rfl ?_
  intro p e s m args below meth c s₁ B hml hv
  obtain ⟨rfl, hP, hK, hD0, hN⟩ := hv
  have hx := B.exec
  have hb := B.bytes
  have hr := B.returns
  have hts := atoms_spec (ws := wsX5_soc) B.pre
  have hown : s.vm.findClass RX5 = some m.cls := findClass_of_methodNamed B.named
  have hlocks := B.notSynchronized
  have hD := hD0
  have hl := lv_entry ([.ref ((o 0) 0), .int (zI xw)]) (n := 2) (Nat.le_of_ble_eq_true rfl)
  rw [lg_entry_eq]
  generalize (lg_sl ([.ref ((o 0) 0), .int (zI xw)]) ++ List.replicate (2 - (lg_sl ([.ref ((o 0) 0), .int (zI xw)])).length) Slot.unset).toArray = ls at hl ⊢
  have hl : lv_has ls 2 [(0, .ref ((o 0) 0)), (1, .int (zI xw))] := hl
  have hiX5 : ∀ w ∈ wsX50, w ∈ wsX5_soc := by decide +kernel
  have qq := zOK_q hI
  have hC := zOK_C hI
  have hv9 : 0 ≤ A (34 + xw) ∧ A (34 + xw) ≤ 1000000000 := by
    rcases (show xw = 0 ∨ xw = 1 ∨ xw = 2 by omega) with rfl | rfl | rfl
    · show 0 ≤ A 34 ∧ A 34 ≤ 1000000000
      have := qq.2.2.1
      omega
    · show 0 ≤ A 35 ∧ A 35 ≤ 1000000000
      have := qq.2.2.2.1
      omega
    · show 0 ≤ A 36 ∧ A 36 ≤ 1000000000
      have := qq.2.2.2.1
      omega
  refine lv_iload_n hx hb dX5_soc_0 rfl (lv_at hl 1 rfl) ?_
  refine zr_iconst hx hb dX5_soc_1 ?_
  refine zr_iconst hx hb dX5_soc_2 ?_
  refine zc_rv (va_runS (As := [.int (zI xw), .int (zI 0), .int (zI 2)]) (rest := []) ⟨hx, hb, hml, hown, hts⟩ (met_X5_requireWithin_ok l xw 0 2 (by omega) (by decide) (by decide) (by first | assumption | omega)) (va_cwS 3 hts gX5_soc_X5_requireWithin rfl rfl rfl (by decide +kernel) ⟨(Nat.le_of_ble_eq_true rfl), (Nat.le_of_ble_eq_true rfl)⟩) ⟨zTrue.blind, fun U hU hW => ⟨rfl, trivial⟩⟩ rfl rfl hl.1 rfl (lv_room ((Nat.le_of_ble_eq_true rfl))) dX5_soc_3 ⟨(Nat.le_of_ble_eq_true rfl), (Nat.le_of_ble_eq_true rfl)⟩) ?_
  refine lv_aload_n hx hb dX5_soc_6 rfl (lv_at hl 0 rfl) ?_
  refine va_get (D := D) (ci := 5) (v := .ref ((o 1) 0)) (C := RX5) (T := TX5) (N := 4) hx hb hts hiX5 hown hK hP 0 rfl rfl 0 (by decide) (hts (.fieldLink RX5 10 "ChargeEstimator" "battery" "LChargeEstimator$Battery;") (List.mem_of_getElem? (i := 1) rfl)) (fun _ h9 => h9) rfl dX5_soc_7 ?_
  refine lv_aload_n hx hb dX5_soc_10 rfl (lv_at hl 0 rfl) ?_
  refine va_get (D := D) (ci := 5) (v := .ref ((o 1) 0)) (C := RX5) (T := TX5) (N := 4) hx hb hts hiX5 hown hK hP 0 rfl rfl 0 (by decide) (hts (.fieldLink RX5 10 "ChargeEstimator" "battery" "LChargeEstimator$Battery;") (List.mem_of_getElem? (i := 1) rfl)) (fun _ h9 => h9) rfl dX5_soc_11 ?_
  refine lv_iload_n hx hb dX5_soc_14 rfl (lv_at hl 1 rfl) ?_
  refine zc_rl (va_runV (As := [.int (zI xw)]) (rest := [.ref ((o 1) 0)]) ⟨hx, hb, hml, hown, hts⟩ (met_X1_chargeOf l D cs (o 1) n A xw (by first | assumption | omega)) (cwV 1 hts gX5_soc_X1_chargeOf rfl rfl rfl (by decide +kernel) ⟨Nat.le_of_ble_eq_true rfl, Nat.le_of_ble_eq_true rfl⟩) ⟨zPre.blind, va_recv hK hP (ci := 1) (q0 := 1) rfl rfl, fun U hU hW => zp_R (hP.sub (ws' := zbat cs (o 1) A) [1, 2, 3, 4, 5, 6, 7] rfl) hK (hD.sub (ws' := zbat cs (o 1) A) [1, 2, 3, 4, 5, 6, 7] (by decide) rfl) hN hU hW⟩ rfl rfl hl.1 rfl (lv_room (Nat.le_of_ble_eq_true rfl)) dX5_soc_15 ⟨Nat.le_of_ble_eq_true rfl, Nat.le_of_ble_eq_true rfl⟩) ?_
  refine zc_ri (va_runV (As := [.long (zL (A (34 + xw)))]) (rest := []) ⟨hx, hb, hml, hown, hts⟩ (met_X1_socOf l D cs (o 1) _ A (A (34 + xw)) (by assumption) (by assumption) (by first | assumption | omega)) (cwV 1 hts gX5_soc_X1_socOf rfl rfl rfl (by decide +kernel) ⟨Nat.le_of_ble_eq_true rfl, Nat.le_of_ble_eq_true rfl⟩) ⟨zPre.blind, va_recv hK hP (ci := 1) (q0 := 1) rfl rfl, fun U hU hW => zp_R (hP.sub (ws' := zbat cs (o 1) A) [1, 2, 3, 4, 5, 6, 7] rfl) hK (hD.sub (ws' := zbat cs (o 1) A) [1, 2, 3, 4, 5, 6, 7] (by decide) rfl) hN hU hW⟩ rfl rfl hl.1 rfl (lv_room (Nat.le_of_ble_eq_true rfl)) dX5_soc_18 ⟨Nat.le_of_ble_eq_true rfl, Nat.le_of_ble_eq_true rfl⟩) ?_
  exact W.iret hx hb hr (fun t ht hW => ⟨_, rfl, (congrArg zI (show (A (34 + xw)) * 10000 / A 37 = A (34 + xw) * 10000 / A 37 from by rfl)), ht⟩) (fun q hq => absurd hq List.not_mem_nil) dX5_soc_21
set_option maxHeartbeats 4000000 in
set_option maxRecDepth 100000 in
theorem met_X5_soc_x (l : Launch) (hfl : l.stackTraces = false) (D : va_G) (cs : Nat → ClassId) (o : Nat → Nat → Nat) (A : Int → Int) (xw : Int) (rxw : -2147483648 ≤ xw ∧ xw ≤ 2147483647) (kno : ¬ (0 ≤ xw ∧ xw ≤ 2)) : vx_Met l yX5_soc wsX5_soc ({ frames := 7, cells := 1, slots := 6, locals := 104 }) (va_Pc [.ref ((o 0) 0), .int (zI xw)] (zPreX D (zTy cs) ([((o 0) 0, .inr (5, [.ref ((o 1) 0), .ref ((o 2) 0), .ref ((o 3) 0), .ref ((o 8) 0)]))] ++ zbat cs (o 1) A))) zQXi (zXC "java/lang/IllegalArgumentException") 1 6 (fun _ => False) := by
  refine vx_ofW (cc := cX5_soc) (maxL := 2) (ret := (some .int)) (by decide +kernel) rfl ?_
  intro p e s m args below meth c s₁ B hml hnx hv
  obtain ⟨rfl, ⟨hP, hK, hD0, hN⟩, hX⟩ := hv
  have hx := B.exec
  have hb := B.bytes
  have hr := B.returns
  have hts := atoms_spec (ws := wsX5_soc) B.pre
  have hown : s.vm.findClass RX5 = some m.cls := findClass_of_methodNamed B.named
  have hlocks := B.notSynchronized
  have hX : zXF s s.heap := hX
  have hS : va_S (fun _ => False) s.heap s.heap [] := va_S.rf
  have hD := hD0
  have hl := lv_entry ([.ref ((o 0) 0), .int (zI xw)]) (n := 2) (Nat.le_of_ble_eq_true rfl)
  rw [lg_entry_eq]
  generalize (lg_sl ([.ref ((o 0) 0), .int (zI xw)]) ++ List.replicate (2 - (lg_sl ([.ref ((o 0) 0), .int (zI xw)])).length) Slot.unset).toArray = ls at hl ⊢
  have hl : lv_has ls 2 [(0, .ref ((o 0) 0)), (1, .int (zI xw))] := hl
  refine lv_iload_n hx hb dX5_soc_0 rfl (lv_at hl 1 rfl) ?_
  refine zr_iconst hx hb dX5_soc_1 ?_
  refine zr_iconst hx hb dX5_soc_2 ?_
  by_cases r1 : (0 : Int) ≤ xw ∧ xw ≤ (2 : Int)
  rotate_left
  · exact zc_xv (vx_runS (As := [.int (zI xw), .int (zI 0), .int (zI 2)]) (rest := []) ⟨hx, hb, hml, hown, hts⟩ (met_X5_requireWithin_x l hfl xw 0 2 (by omega) (by decide) (by decide) r1) (va_cwS 3 hts gX5_soc_X5_requireWithin rfl rfl rfl (by decide +kernel) ⟨(Nat.le_of_ble_eq_true rfl), (Nat.le_of_ble_eq_true rfl)⟩) ⟨zPreY.blind, fun U hU hW => zp_Y hX hU hW⟩ rfl rfl hl.1 rfl (lv_room ((Nat.le_of_ble_eq_true rfl))) dX5_soc_3 ⟨(Nat.le_of_ble_eq_true rfl), (Nat.le_of_ble_eq_true rfl)⟩) hnx hlocks hS (Nat.le_of_ble_eq_true rfl) (Nat.le_of_ble_eq_true rfl)
  refine zc_rv (va_runS (As := [.int (zI xw), .int (zI 0), .int (zI 2)]) (rest := []) ⟨hx, hb, hml, hown, hts⟩ (met_X5_requireWithin_ok l xw 0 2 (by omega) (by decide) (by decide) r1) (va_cwS 3 hts gX5_soc_X5_requireWithin rfl rfl rfl (by decide +kernel) ⟨(Nat.le_of_ble_eq_true rfl), (Nat.le_of_ble_eq_true rfl)⟩) ⟨zTrue.blind, fun U hU hW => ⟨rfl, trivial⟩⟩ rfl rfl hl.1 rfl (lv_room ((Nat.le_of_ble_eq_true rfl))) dX5_soc_3 ⟨(Nat.le_of_ble_eq_true rfl), (Nat.le_of_ble_eq_true rfl)⟩) ?_
  exfalso; first | omega | (simp only [and_true, true_and] at hx; omega) | exact hx.2.elim
set_option maxHeartbeats 4000000 in
set_option maxRecDepth 100000 in
theorem met_X5_status_ok (l : Launch) (D : va_G) (cs : Nat → ClassId) (o : Nat → Nat → Nat) (A : Int → Int) (n : Int) (xw : Int) (hI : zOK n A) (hn : 0 ≤ n ∧ n ≤ 3100000) (rxw : -2147483648 ≤ xw ∧ xw ≤ 2147483647) (kok : 0 ≤ xw ∧ xw ≤ 5) : Met l yX5_status wsX5_status ({ frames := 3, cells := 0, slots := 0, locals := 63 }) (va_Pc [.ref ((o 0) 0), .int (zI xw)] (zPre D (zTy cs) ([((o 0) 0, .inr (5, [.ref ((o 1) 0), .ref ((o 2) 0), .ref ((o 3) 0), .ref ((o 8) 0)]))] ++ zbat cs (o 1) A))) (zRi (zI (zStt A xw))) 0 0 (fun _ => False) := by
  refine Met.ofW (cc := cX5_status) (maxL := 2) (ret := (some .int)) (by decide) rfl ?_
  intro p e s m args below meth c s₁ B hml hv
  obtain ⟨rfl, hP, hK, hD0, hN⟩ := hv
  have hx := B.exec
  have hb := B.bytes
  have hr := B.returns
  have hts := atoms_spec (ws := wsX5_status) B.pre
  have hown : s.vm.findClass RX5 = some m.cls := findClass_of_methodNamed B.named
  have hlocks := B.notSynchronized
  have hD := hD0
  have hl := lv_entry ([.ref ((o 0) 0), .int (zI xw)]) (n := 2) (Nat.le_of_ble_eq_true rfl)
  rw [lg_entry_eq]
  generalize (lg_sl ([.ref ((o 0) 0), .int (zI xw)]) ++ List.replicate (2 - (lg_sl ([.ref ((o 0) 0), .int (zI xw)])).length) Slot.unset).toArray = ls at hl ⊢
  have hl : lv_has ls 2 [(0, .ref ((o 0) 0)), (1, .int (zI xw))] := hl
  have hiX5 : ∀ w ∈ wsX50, w ∈ wsX5_status := by decide +kernel
  refine lv_iload_n hx hb dX5_status_0 rfl (lv_at hl 1 rfl) ?_
  refine zr_iconst hx hb dX5_status_1 ?_
  refine zr_iconst hx hb dX5_status_2 ?_
  refine zc_rv (va_runS (As := [.int (zI xw), .int (zI 0), .int (zI 5)]) (rest := []) ⟨hx, hb, hml, hown, hts⟩ (met_X5_requireWithin_ok l xw 0 5 (by omega) (by decide) (by decide) (by first | assumption | omega)) (va_cwS 3 hts gX5_status_X5_requireWithin rfl rfl rfl (by decide +kernel) ⟨(Nat.le_of_ble_eq_true rfl), (Nat.le_of_ble_eq_true rfl)⟩) ⟨zTrue.blind, fun U hU hW => ⟨rfl, trivial⟩⟩ rfl rfl hl.1 rfl (lv_room ((Nat.le_of_ble_eq_true rfl))) dX5_status_3 ⟨(Nat.le_of_ble_eq_true rfl), (Nat.le_of_ble_eq_true rfl)⟩) ?_
  refine lv_aload_n hx hb dX5_status_6 rfl (lv_at hl 0 rfl) ?_
  refine va_get (D := D) (ci := 5) (v := .ref ((o 1) 0)) (C := RX5) (T := TX5) (N := 4) hx hb hts hiX5 hown hK hP 0 rfl rfl 0 (by decide) (hts (.fieldLink RX5 10 "ChargeEstimator" "battery" "LChargeEstimator$Battery;") (List.mem_of_getElem? (i := 1) rfl)) (fun _ h9 => h9) rfl dX5_status_7 ?_
  refine lv_iload_n hx hb dX5_status_10 rfl (lv_at hl 1 rfl) ?_
  refine zc_ri (va_runV (As := [.int (zI xw)]) (rest := []) ⟨hx, hb, hml, hown, hts⟩ (met_X1_statusOf l D cs (o 1) _ A xw (by assumption) (by assumption) (by first | assumption | omega)) (cwV 1 hts gX5_status_X1_statusOf rfl rfl rfl (by decide +kernel) ⟨Nat.le_of_ble_eq_true rfl, Nat.le_of_ble_eq_true rfl⟩) ⟨zPre.blind, va_recv hK hP (ci := 1) (q0 := 1) rfl rfl, fun U hU hW => zp_R (hP.sub (ws' := zbat cs (o 1) A) [1, 2, 3, 4, 5, 6, 7] rfl) hK (hD.sub (ws' := zbat cs (o 1) A) [1, 2, 3, 4, 5, 6, 7] (by decide) rfl) hN hU hW⟩ rfl rfl hl.1 rfl (lv_room (Nat.le_of_ble_eq_true rfl)) dX5_status_11 ⟨Nat.le_of_ble_eq_true rfl, Nat.le_of_ble_eq_true rfl⟩) ?_
  exact W.iret hx hb hr (fun t ht hW => ⟨_, rfl, (congrArg zI (show zStt A xw = zStt A xw from by rfl)), ht⟩) (fun q hq => absurd hq List.not_mem_nil) dX5_status_14
set_option maxHeartbeats 4000000 in
set_option maxRecDepth 100000 in
theorem met_X5_status_x (l : Launch) (hfl : l.stackTraces = false) (D : va_G) (cs : Nat → ClassId) (o : Nat → Nat → Nat) (A : Int → Int) (xw : Int) (rxw : -2147483648 ≤ xw ∧ xw ≤ 2147483647) (kno : ¬ (0 ≤ xw ∧ xw ≤ 5)) : vx_Met l yX5_status wsX5_status ({ frames := 7, cells := 1, slots := 6, locals := 104 }) (va_Pc [.ref ((o 0) 0), .int (zI xw)] (zPreX D (zTy cs) ([((o 0) 0, .inr (5, [.ref ((o 1) 0), .ref ((o 2) 0), .ref ((o 3) 0), .ref ((o 8) 0)]))] ++ zbat cs (o 1) A))) zQXi (zXC "java/lang/IllegalArgumentException") 1 6 (fun _ => False) := by
  refine vx_ofW (cc := cX5_status) (maxL := 2) (ret := (some .int)) (by decide +kernel) rfl ?_
  intro p e s m args below meth c s₁ B hml hnx hv
  obtain ⟨rfl, ⟨hP, hK, hD0, hN⟩, hX⟩ := hv
  have hx := B.exec
  have hb := B.bytes
  have hr := B.returns
  have hts := atoms_spec (ws := wsX5_status) B.pre
  have hown : s.vm.findClass RX5 = some m.cls := findClass_of_methodNamed B.named
  have hlocks := B.notSynchronized
  have hX : zXF s s.heap := hX
  have hS : va_S (fun _ => False) s.heap s.heap [] := va_S.rf
  have hD := hD0
  have hl := lv_entry ([.ref ((o 0) 0), .int (zI xw)]) (n := 2) (Nat.le_of_ble_eq_true rfl)
  rw [lg_entry_eq]
  generalize (lg_sl ([.ref ((o 0) 0), .int (zI xw)]) ++ List.replicate (2 - (lg_sl ([.ref ((o 0) 0), .int (zI xw)])).length) Slot.unset).toArray = ls at hl ⊢
  have hl : lv_has ls 2 [(0, .ref ((o 0) 0)), (1, .int (zI xw))] := hl
  refine lv_iload_n hx hb dX5_status_0 rfl (lv_at hl 1 rfl) ?_
  refine zr_iconst hx hb dX5_status_1 ?_
  refine zr_iconst hx hb dX5_status_2 ?_
  by_cases r1 : (0 : Int) ≤ xw ∧ xw ≤ (5 : Int)
  rotate_left
  · exact zc_xv (vx_runS (As := [.int (zI xw), .int (zI 0), .int (zI 5)]) (rest := []) ⟨hx, hb, hml, hown, hts⟩ (met_X5_requireWithin_x l hfl xw 0 5 (by omega) (by decide) (by decide) r1) (va_cwS 3 hts gX5_status_X5_requireWithin rfl rfl rfl (by decide +kernel) ⟨(Nat.le_of_ble_eq_true rfl), (Nat.le_of_ble_eq_true rfl)⟩) ⟨zPreY.blind, fun U hU hW => zp_Y hX hU hW⟩ rfl rfl hl.1 rfl (lv_room ((Nat.le_of_ble_eq_true rfl))) dX5_status_3 ⟨(Nat.le_of_ble_eq_true rfl), (Nat.le_of_ble_eq_true rfl)⟩) hnx hlocks hS (Nat.le_of_ble_eq_true rfl) (Nat.le_of_ble_eq_true rfl)
  refine zc_rv (va_runS (As := [.int (zI xw), .int (zI 0), .int (zI 5)]) (rest := []) ⟨hx, hb, hml, hown, hts⟩ (met_X5_requireWithin_ok l xw 0 5 (by omega) (by decide) (by decide) r1) (va_cwS 3 hts gX5_status_X5_requireWithin rfl rfl rfl (by decide +kernel) ⟨(Nat.le_of_ble_eq_true rfl), (Nat.le_of_ble_eq_true rfl)⟩) ⟨zTrue.blind, fun U hU hW => ⟨rfl, trivial⟩⟩ rfl rfl hl.1 rfl (lv_room ((Nat.le_of_ble_eq_true rfl))) dX5_status_3 ⟨(Nat.le_of_ble_eq_true rfl), (Nat.le_of_ble_eq_true rfl)⟩) ?_
  exfalso; first | omega | (simp only [and_true, true_and] at hx; omega) | exact hx.2.elim
set_option maxHeartbeats 4000000 in
set_option maxRecDepth 100000 in
theorem met_X5_throughput_ok (l : Launch) (D : va_G) (cs : Nat → ClassId) (o : Nat → Nat → Nat) (A : Int → Int)  : Met l yX5_throughput wsX5_throughput ({ frames := 0, cells := 0, slots := 0, locals := 0 }) (va_Pc [.ref ((o 0) 0)] (zPre D (zTy cs) ([((o 0) 0, .inr (5, [.ref ((o 1) 0), .ref ((o 2) 0), .ref ((o 3) 0), .ref ((o 8) 0)]))] ++ zbat cs (o 1) A))) (zRl (zL (A 41))) 0 0 (fun _ => False) := by
  refine Met.ofW (cc := cX5_throughput) (maxL := 1) (ret := (some .long)) (by decide) rfl ?_
  intro p e s m args below meth c s₁ B hml hv
  obtain ⟨rfl, hP, hK, hD0, hN⟩ := hv
  have hx := B.exec
  have hb := B.bytes
  have hr := B.returns
  have hts := atoms_spec (ws := wsX5_throughput) B.pre
  have hown : s.vm.findClass RX5 = some m.cls := findClass_of_methodNamed B.named
  have hlocks := B.notSynchronized
  have hD := hD0
  have hl := lv_entry ([.ref ((o 0) 0)]) (n := 1) (Nat.le_of_ble_eq_true rfl)
  rw [lg_entry_eq]
  generalize (lg_sl ([.ref ((o 0) 0)]) ++ List.replicate (1 - (lg_sl ([.ref ((o 0) 0)])).length) Slot.unset).toArray = ls at hl ⊢
  have hl : lv_has ls 1 [(0, .ref ((o 0) 0))] := hl
  have hiX1 : ∀ w ∈ wsX10, w ∈ wsX5_throughput := by decide +kernel
  have hiX5 : ∀ w ∈ wsX50, w ∈ wsX5_throughput := by decide +kernel
  refine lv_aload_n hx hb dX5_throughput_0 rfl (lv_at hl 0 rfl) ?_
  refine va_get (D := D) (ci := 5) (v := .ref ((o 1) 0)) (C := RX5) (T := TX5) (N := 4) hx hb hts hiX5 hown hK hP 0 rfl rfl 0 (by decide) (hts (.fieldLink RX5 10 "ChargeEstimator" "battery" "LChargeEstimator$Battery;") (List.mem_of_getElem? (i := 1) rfl)) (fun _ h9 => h9) rfl dX5_throughput_1 ?_
  refine va_getN (D := D) (ci := 1) (v := .long (zL (A 41))) (C := RX1) (T := TX1) (N := 18) hx hb hts hiX1 hown hK hP 1 rfl rfl 9 (by decide) (va_Nw.use rfl (zn_RX5_135 hN)) (fun _ h9 => h9) rfl dX5_throughput_4 ?_
  exact W.lret hx hb hr (fun t ht hW => ⟨_, rfl, (congrArg zL (show A 41 = A 41 from by rfl)), ht⟩) (fun q hq => absurd hq List.not_mem_nil) dX5_throughput_7
set_option maxHeartbeats 4000000 in
set_option maxRecDepth 100000 in
theorem met_X5_anchors_ok (l : Launch) (D : va_G) (cs : Nat → ClassId) (o : Nat → Nat → Nat) (A : Int → Int)  : Met l yX5_anchors wsX5_anchors ({ frames := 1, cells := 0, slots := 0, locals := 20 }) (va_Pc [.ref ((o 0) 0)] (zPre D (zTy cs) ([((o 0) 0, .inr (5, [.ref ((o 1) 0), .ref ((o 2) 0), .ref ((o 3) 0), .ref ((o 8) 0)]))] ++ zbat cs (o 1) A))) (zRi (zI (A 52))) 0 0 (fun _ => False) := by
  refine Met.ofW (cc := cX5_anchors) (maxL := 1) (ret := (some .int)) (by decide) rfl ?_
  intro p e s m args below meth c s₁ B hml hv
  obtain ⟨rfl, hP, hK, hD0, hN⟩ := hv
  have hx := B.exec
  have hb := B.bytes
  have hr := B.returns
  have hts := atoms_spec (ws := wsX5_anchors) B.pre
  have hown : s.vm.findClass RX5 = some m.cls := findClass_of_methodNamed B.named
  have hlocks := B.notSynchronized
  have hD := hD0
  have hl := lv_entry ([.ref ((o 0) 0)]) (n := 1) (Nat.le_of_ble_eq_true rfl)
  rw [lg_entry_eq]
  generalize (lg_sl ([.ref ((o 0) 0)]) ++ List.replicate (1 - (lg_sl ([.ref ((o 0) 0)])).length) Slot.unset).toArray = ls at hl ⊢
  have hl : lv_has ls 1 [(0, .ref ((o 0) 0))] := hl
  have hiX1 : ∀ w ∈ wsX10, w ∈ wsX5_anchors := by decide +kernel
  have hiX5 : ∀ w ∈ wsX50, w ∈ wsX5_anchors := by decide +kernel
  refine lv_aload_n hx hb dX5_anchors_0 rfl (lv_at hl 0 rfl) ?_
  refine va_get (D := D) (ci := 5) (v := .ref ((o 1) 0)) (C := RX5) (T := TX5) (N := 4) hx hb hts hiX5 hown hK hP 0 rfl rfl 0 (by decide) (hts (.fieldLink RX5 10 "ChargeEstimator" "battery" "LChargeEstimator$Battery;") (List.mem_of_getElem? (i := 1) rfl)) (fun _ h9 => h9) rfl dX5_anchors_1 ?_
  refine va_getN (D := D) (ci := 1) (v := .ref ((o 1) 5)) (C := RX1) (T := TX1) (N := 18) hx hb hts hiX1 hown hK hP 1 rfl rfl 2 (by decide) (va_Nw.use rfl (zn_RX5_41 hN)) (fun _ h9 => h9) rfl dX5_anchors_4 ?_
  refine zc_ri (va_runV (As := []) (rest := []) ⟨hx, hb, hml, hown, hts⟩ (met_X0_size l D cs (o 1) (0 : Int) A ) (cwV 0 hts gX5_anchors_X0_size rfl rfl rfl (by decide +kernel) ⟨Nat.le_of_ble_eq_true rfl, Nat.le_of_ble_eq_true rfl⟩) ⟨zPre.blind, va_recv hK hP (ci := 0) (q0 := 6) rfl rfl, fun U hU hW => zp_R (hP.sub (ws' := zbat cs (o 1) A) [1, 2, 3, 4, 5, 6, 7] rfl) hK (hD.sub (ws' := zbat cs (o 1) A) [1, 2, 3, 4, 5, 6, 7] (by decide) rfl) hN hU hW⟩ rfl rfl hl.1 rfl (lv_room (Nat.le_of_ble_eq_true rfl)) dX5_anchors_7 ⟨Nat.le_of_ble_eq_true rfl, Nat.le_of_ble_eq_true rfl⟩) ?_
  exact W.iret hx hb hr (fun t ht hW => ⟨_, rfl, (congrArg zI (show A 52 = A 52 from by rfl)), ht⟩) (fun q hq => absurd hq List.not_mem_nil) dX5_anchors_10
set_option maxHeartbeats 4000000 in
set_option maxRecDepth 100000 in
theorem met_X5_openVoltage_ok (l : Launch) (D : va_G) (cs : Nat → ClassId) (o : Nat → Nat → Nat) (A : Int → Int) (n : Int) (xs : Int) (xh : Int) (hI : zOK n A) (hn : 0 ≤ n ∧ n ≤ 3100000) (rxs : -2147483648 ≤ xs ∧ xs ≤ 2147483647) (rxh : -2147483648 ≤ xh ∧ xh ≤ 2147483647) (kok : (0 ≤ xs ∧ xs ≤ 10000) ∧ 0 ≤ xh ∧ xh ≤ 1000) : Met l yX5_openVoltage wsX5_openVoltage ({ frames := 3, cells := 0, slots := 0, locals := 59 }) (va_Pc [.ref ((o 0) 0), .int (zI xs), .int (zI xh)] (zPre D (zTy cs) ([((o 0) 0, .inr (5, [.ref ((o 1) 0), .ref ((o 2) 0), .ref ((o 3) 0), .ref ((o 8) 0)]))] ++ zbat cs (o 1) A))) (zRi (zI (zV A xs xh))) 0 0 (fun _ => False) := by
  refine Met.ofW (cc := cX5_openVoltage) (maxL := 3) (ret := (some .int)) (by decide) rfl ?_
  intro p e s m args below meth c s₁ B hml hv
  obtain ⟨rfl, hP, hK, hD0, hN⟩ := hv
  have hx := B.exec
  have hb := B.bytes
  have hr := B.returns
  have hts := atoms_spec (ws := wsX5_openVoltage) B.pre
  have hown : s.vm.findClass RX5 = some m.cls := findClass_of_methodNamed B.named
  have hlocks := B.notSynchronized
  have hD := hD0
  have hl := lv_entry ([.ref ((o 0) 0), .int (zI xs), .int (zI xh)]) (n := 3) (Nat.le_of_ble_eq_true rfl)
  rw [lg_entry_eq]
  generalize (lg_sl ([.ref ((o 0) 0), .int (zI xs), .int (zI xh)]) ++ List.replicate (3 - (lg_sl ([.ref ((o 0) 0), .int (zI xs), .int (zI xh)])).length) Slot.unset).toArray = ls at hl ⊢
  have hl : lv_has ls 3 [(0, .ref ((o 0) 0)), (1, .int (zI xs)), (2, .int (zI xh))] := hl
  have hiX1 : ∀ w ∈ wsX10, w ∈ wsX5_openVoltage := by decide +kernel
  have hiX5 : ∀ w ∈ wsX50, w ∈ wsX5_openVoltage := by decide +kernel
  refine lv_iload_n hx hb dX5_openVoltage_0 rfl (lv_at hl 1 rfl) ?_
  refine zr_iconst hx hb dX5_openVoltage_1 ?_
  refine zr_sipush hx hb dX5_openVoltage_2 (by decide) ?_
  refine zc_rv (va_runS (As := [.int (zI xs), .int (zI 0), .int (zI 10000)]) (rest := []) ⟨hx, hb, hml, hown, hts⟩ (met_X5_requireWithin_ok l xs 0 10000 (by omega) (by decide) (by decide) (by first | assumption | omega)) (va_cwS 3 hts gX5_openVoltage_X5_requireWithin rfl rfl rfl (by decide +kernel) ⟨(Nat.le_of_ble_eq_true rfl), (Nat.le_of_ble_eq_true rfl)⟩) ⟨zTrue.blind, fun U hU hW => ⟨rfl, trivial⟩⟩ rfl rfl hl.1 rfl (lv_room ((Nat.le_of_ble_eq_true rfl))) dX5_openVoltage_5 ⟨(Nat.le_of_ble_eq_true rfl), (Nat.le_of_ble_eq_true rfl)⟩) ?_
  refine lv_iload_n hx hb dX5_openVoltage_8 rfl (lv_at hl 2 rfl) ?_
  refine zr_iconst hx hb dX5_openVoltage_9 ?_
  refine zr_sipush hx hb dX5_openVoltage_10 (by decide) ?_
  refine zc_rv (va_runS (As := [.int (zI xh), .int (zI 0), .int (zI 1000)]) (rest := []) ⟨hx, hb, hml, hown, hts⟩ (met_X5_requireWithin_ok l xh 0 1000 (by omega) (by decide) (by decide) (by first | assumption | omega)) (va_cwS 3 hts gX5_openVoltage_X5_requireWithin rfl rfl rfl (by decide +kernel) ⟨(Nat.le_of_ble_eq_true rfl), (Nat.le_of_ble_eq_true rfl)⟩) ⟨zTrue.blind, fun U hU hW => ⟨rfl, trivial⟩⟩ rfl rfl hl.1 rfl (lv_room ((Nat.le_of_ble_eq_true rfl))) dX5_openVoltage_13 ⟨(Nat.le_of_ble_eq_true rfl), (Nat.le_of_ble_eq_true rfl)⟩) ?_
  refine lv_aload_n hx hb dX5_openVoltage_16 rfl (lv_at hl 0 rfl) ?_
  refine va_get (D := D) (ci := 5) (v := .ref ((o 1) 0)) (C := RX5) (T := TX5) (N := 4) hx hb hts hiX5 hown hK hP 0 rfl rfl 0 (by decide) (hts (.fieldLink RX5 10 "ChargeEstimator" "battery" "LChargeEstimator$Battery;") (List.mem_of_getElem? (i := 1) rfl)) (fun _ h9 => h9) rfl dX5_openVoltage_17 ?_
  refine va_getN (D := D) (ci := 1) (v := .ref ((o 1) 2)) (C := RX1) (T := TX1) (N := 18) hx hb hts hiX1 hown hK hP 1 rfl rfl 1 (by decide) (va_Nw.use rfl (zn_RX5_80 hN)) (fun _ h9 => h9) rfl dX5_openVoltage_20 ?_
  refine lv_iload_n hx hb dX5_openVoltage_23 rfl (lv_at hl 1 rfl) ?_
  refine lv_iload_n hx hb dX5_openVoltage_24 rfl (lv_at hl 2 rfl) ?_
  refine zc_ri (va_runV (As := [.int (zI xs), .int (zI xh)]) (rest := []) ⟨hx, hb, hml, hown, hts⟩ (met_X2_voltageAt l D cs (o 1) _ A xs xh (by assumption) (by assumption) (by first | assumption | omega) (by first | assumption | omega)) (cwV 2 hts gX5_openVoltage_X2_voltageAt rfl rfl rfl (by decide +kernel) ⟨Nat.le_of_ble_eq_true rfl, Nat.le_of_ble_eq_true rfl⟩) ⟨zPre.blind, va_recv hK hP (ci := 2) (q0 := 3) rfl rfl, fun U hU hW => zp_R (hP.sub (ws' := zbat cs (o 1) A) [1, 2, 3, 4, 5, 6, 7] rfl) hK (hD.sub (ws' := zbat cs (o 1) A) [1, 2, 3, 4, 5, 6, 7] (by decide) rfl) hN hU hW⟩ rfl rfl hl.1 rfl (lv_room (Nat.le_of_ble_eq_true rfl)) dX5_openVoltage_25 ⟨Nat.le_of_ble_eq_true rfl, Nat.le_of_ble_eq_true rfl⟩) ?_
  exact W.iret hx hb hr (fun t ht hW => ⟨_, rfl, (congrArg zI (show zV A xs xh = zV A xs xh from by rfl)), ht⟩) (fun q hq => absurd hq List.not_mem_nil) dX5_openVoltage_28
set_option maxHeartbeats 4000000 in
set_option maxRecDepth 100000 in
theorem met_X5_openVoltage_x (l : Launch) (hfl : l.stackTraces = false) (D : va_G) (cs : Nat → ClassId) (o : Nat → Nat → Nat) (A : Int → Int) (xs : Int) (xh : Int) (rxs : -2147483648 ≤ xs ∧ xs ≤ 2147483647) (rxh : -2147483648 ≤ xh ∧ xh ≤ 2147483647) (kno : ¬ ((0 ≤ xs ∧ xs ≤ 10000) ∧ 0 ≤ xh ∧ xh ≤ 1000)) : vx_Met l yX5_openVoltage wsX5_openVoltage ({ frames := 7, cells := 1, slots := 6, locals := 104 }) (va_Pc [.ref ((o 0) 0), .int (zI xs), .int (zI xh)] (zPreX D (zTy cs) ([((o 0) 0, .inr (5, [.ref ((o 1) 0), .ref ((o 2) 0), .ref ((o 3) 0), .ref ((o 8) 0)]))] ++ zbat cs (o 1) A))) zQXi (zXC "java/lang/IllegalArgumentException") 1 6 (fun _ => False) := by
  refine vx_ofW (cc := cX5_openVoltage) (maxL := 3) (ret := (some .int)) (by decide +kernel) rfl ?_
  intro p e s m args below meth c s₁ B hml hnx hv
  obtain ⟨rfl, ⟨hP, hK, hD0, hN⟩, hX⟩ := hv
  have hx := B.exec
  have hb := B.bytes
  have hr := B.returns
  have hts := atoms_spec (ws := wsX5_openVoltage) B.pre
  have hown : s.vm.findClass RX5 = some m.cls := findClass_of_methodNamed B.named
  have hlocks := B.notSynchronized
  have hX : zXF s s.heap := hX
  have hS : va_S (fun _ => False) s.heap s.heap [] := va_S.rf
  have hD := hD0
  have hl := lv_entry ([.ref ((o 0) 0), .int (zI xs), .int (zI xh)]) (n := 3) (Nat.le_of_ble_eq_true rfl)
  rw [lg_entry_eq]
  generalize (lg_sl ([.ref ((o 0) 0), .int (zI xs), .int (zI xh)]) ++ List.replicate (3 - (lg_sl ([.ref ((o 0) 0), .int (zI xs), .int (zI xh)])).length) Slot.unset).toArray = ls at hl ⊢
  have hl : lv_has ls 3 [(0, .ref ((o 0) 0)), (1, .int (zI xs)), (2, .int (zI xh))] := hl
  refine lv_iload_n hx hb dX5_openVoltage_0 rfl (lv_at hl 1 rfl) ?_
  refine zr_iconst hx hb dX5_openVoltage_1 ?_
  refine zr_sipush hx hb dX5_openVoltage_2 (by decide) ?_
  by_cases r1 : (0 : Int) ≤ xs ∧ xs ≤ (10000 : Int)
  rotate_left
  · exact zc_xv (vx_runS (As := [.int (zI xs), .int (zI 0), .int (zI 10000)]) (rest := []) ⟨hx, hb, hml, hown, hts⟩ (met_X5_requireWithin_x l hfl xs 0 10000 (by omega) (by decide) (by decide) r1) (va_cwS 3 hts gX5_openVoltage_X5_requireWithin rfl rfl rfl (by decide +kernel) ⟨(Nat.le_of_ble_eq_true rfl), (Nat.le_of_ble_eq_true rfl)⟩) ⟨zPreY.blind, fun U hU hW => zp_Y hX hU hW⟩ rfl rfl hl.1 rfl (lv_room ((Nat.le_of_ble_eq_true rfl))) dX5_openVoltage_5 ⟨(Nat.le_of_ble_eq_true rfl), (Nat.le_of_ble_eq_true rfl)⟩) hnx hlocks hS (Nat.le_of_ble_eq_true rfl) (Nat.le_of_ble_eq_true rfl)
  refine zc_rv (va_runS (As := [.int (zI xs), .int (zI 0), .int (zI 10000)]) (rest := []) ⟨hx, hb, hml, hown, hts⟩ (met_X5_requireWithin_ok l xs 0 10000 (by omega) (by decide) (by decide) r1) (va_cwS 3 hts gX5_openVoltage_X5_requireWithin rfl rfl rfl (by decide +kernel) ⟨(Nat.le_of_ble_eq_true rfl), (Nat.le_of_ble_eq_true rfl)⟩) ⟨zTrue.blind, fun U hU hW => ⟨rfl, trivial⟩⟩ rfl rfl hl.1 rfl (lv_room ((Nat.le_of_ble_eq_true rfl))) dX5_openVoltage_5 ⟨(Nat.le_of_ble_eq_true rfl), (Nat.le_of_ble_eq_true rfl)⟩) ?_
  refine lv_iload_n hx hb dX5_openVoltage_8 rfl (lv_at hl 2 rfl) ?_
  refine zr_iconst hx hb dX5_openVoltage_9 ?_
  refine zr_sipush hx hb dX5_openVoltage_10 (by decide) ?_
  by_cases r2 : (0 : Int) ≤ xh ∧ xh ≤ (1000 : Int)
  rotate_left
  · exact zc_xv (vx_runS (As := [.int (zI xh), .int (zI 0), .int (zI 1000)]) (rest := []) ⟨hx, hb, hml, hown, hts⟩ (met_X5_requireWithin_x l hfl xh 0 1000 (by omega) (by decide) (by decide) r2) (va_cwS 3 hts gX5_openVoltage_X5_requireWithin rfl rfl rfl (by decide +kernel) ⟨(Nat.le_of_ble_eq_true rfl), (Nat.le_of_ble_eq_true rfl)⟩) ⟨zPreY.blind, fun U hU hW => zp_Y hX hU hW⟩ rfl rfl hl.1 rfl (lv_room ((Nat.le_of_ble_eq_true rfl))) dX5_openVoltage_13 ⟨(Nat.le_of_ble_eq_true rfl), (Nat.le_of_ble_eq_true rfl)⟩) hnx hlocks hS (Nat.le_of_ble_eq_true rfl) (Nat.le_of_ble_eq_true rfl)
  refine zc_rv (va_runS (As := [.int (zI xh), .int (zI 0), .int (zI 1000)]) (rest := []) ⟨hx, hb, hml, hown, hts⟩ (met_X5_requireWithin_ok l xh 0 1000 (by omega) (by decide) (by decide) r2) (va_cwS 3 hts gX5_openVoltage_X5_requireWithin rfl rfl rfl (by decide +kernel) ⟨(Nat.le_of_ble_eq_true rfl), (Nat.le_of_ble_eq_true rfl)⟩) ⟨zTrue.blind, fun U hU hW => ⟨rfl, trivial⟩⟩ rfl rfl hl.1 rfl (lv_room ((Nat.le_of_ble_eq_true rfl))) dX5_openVoltage_13 ⟨(Nat.le_of_ble_eq_true rfl), (Nat.le_of_ble_eq_true rfl)⟩) ?_
  exfalso; first | omega | (simp only [and_true, true_and] at hx; omega) | exact hx.2.elim
set_option maxHeartbeats 4000000 in
set_option maxRecDepth 100000 in
theorem met_X5_invert_ok (l : Launch) (D : va_G) (cs : Nat → ClassId) (o : Nat → Nat → Nat) (A : Int → Int) (n : Int) (xv : Int) (xh : Int) (hI : zOK n A) (hn : 0 ≤ n ∧ n ≤ 3100000) (rxv : -2147483648 ≤ xv ∧ xv ≤ 2147483647) (rxh : -2147483648 ≤ xh ∧ xh ≤ 2147483647) (kok : (0 ≤ xv ∧ xv ≤ 6000) ∧ 0 ≤ xh ∧ xh ≤ 1000) : Met l yX5_invert wsX5_invert ({ frames := 4, cells := 0, slots := 0, locals := 85 }) (va_Pc [.ref ((o 0) 0), .int (zI xv), .int (zI xh)] (zPre D (zTy cs) ([((o 0) 0, .inr (5, [.ref ((o 1) 0), .ref ((o 2) 0), .ref ((o 3) 0), .ref ((o 8) 0)]))] ++ zbat cs (o 1) A))) (zRi (zI (zInv A xv xh))) 0 0 (fun _ => False) := by
  refine Met.ofW (cc := cX5_invert) (maxL := 3) (ret := (some .int)) (by decide) rfl ?_
  intro p e s m args below meth c s₁ B hml hv
  obtain ⟨rfl, hP, hK, hD0, hN⟩ := hv
  have hx := B.exec
  have hb := B.bytes
  have hr := B.returns
  have hts := atoms_spec (ws := wsX5_invert) B.pre
  have hown : s.vm.findClass RX5 = some m.cls := findClass_of_methodNamed B.named
  have hlocks := B.notSynchronized
  have hD := hD0
  have hl := lv_entry ([.ref ((o 0) 0), .int (zI xv), .int (zI xh)]) (n := 3) (Nat.le_of_ble_eq_true rfl)
  rw [lg_entry_eq]
  generalize (lg_sl ([.ref ((o 0) 0), .int (zI xv), .int (zI xh)]) ++ List.replicate (3 - (lg_sl ([.ref ((o 0) 0), .int (zI xv), .int (zI xh)])).length) Slot.unset).toArray = ls at hl ⊢
  have hl : lv_has ls 3 [(0, .ref ((o 0) 0)), (1, .int (zI xv)), (2, .int (zI xh))] := hl
  have hiX1 : ∀ w ∈ wsX10, w ∈ wsX5_invert := by decide +kernel
  have hiX5 : ∀ w ∈ wsX50, w ∈ wsX5_invert := by decide +kernel
  refine lv_iload_n hx hb dX5_invert_0 rfl (lv_at hl 1 rfl) ?_
  refine zr_iconst hx hb dX5_invert_1 ?_
  refine zr_sipush hx hb dX5_invert_2 (by decide) ?_
  refine zc_rv (va_runS (As := [.int (zI xv), .int (zI 0), .int (zI 6000)]) (rest := []) ⟨hx, hb, hml, hown, hts⟩ (met_X5_requireWithin_ok l xv 0 6000 (by omega) (by decide) (by decide) (by first | assumption | omega)) (va_cwS 3 hts gX5_invert_X5_requireWithin rfl rfl rfl (by decide +kernel) ⟨(Nat.le_of_ble_eq_true rfl), (Nat.le_of_ble_eq_true rfl)⟩) ⟨zTrue.blind, fun U hU hW => ⟨rfl, trivial⟩⟩ rfl rfl hl.1 rfl (lv_room ((Nat.le_of_ble_eq_true rfl))) dX5_invert_5 ⟨(Nat.le_of_ble_eq_true rfl), (Nat.le_of_ble_eq_true rfl)⟩) ?_
  refine lv_iload_n hx hb dX5_invert_8 rfl (lv_at hl 2 rfl) ?_
  refine zr_iconst hx hb dX5_invert_9 ?_
  refine zr_sipush hx hb dX5_invert_10 (by decide) ?_
  refine zc_rv (va_runS (As := [.int (zI xh), .int (zI 0), .int (zI 1000)]) (rest := []) ⟨hx, hb, hml, hown, hts⟩ (met_X5_requireWithin_ok l xh 0 1000 (by omega) (by decide) (by decide) (by first | assumption | omega)) (va_cwS 3 hts gX5_invert_X5_requireWithin rfl rfl rfl (by decide +kernel) ⟨(Nat.le_of_ble_eq_true rfl), (Nat.le_of_ble_eq_true rfl)⟩) ⟨zTrue.blind, fun U hU hW => ⟨rfl, trivial⟩⟩ rfl rfl hl.1 rfl (lv_room ((Nat.le_of_ble_eq_true rfl))) dX5_invert_13 ⟨(Nat.le_of_ble_eq_true rfl), (Nat.le_of_ble_eq_true rfl)⟩) ?_
  refine lv_aload_n hx hb dX5_invert_16 rfl (lv_at hl 0 rfl) ?_
  refine va_get (D := D) (ci := 5) (v := .ref ((o 1) 0)) (C := RX5) (T := TX5) (N := 4) hx hb hts hiX5 hown hK hP 0 rfl rfl 0 (by decide) (hts (.fieldLink RX5 10 "ChargeEstimator" "battery" "LChargeEstimator$Battery;") (List.mem_of_getElem? (i := 1) rfl)) (fun _ h9 => h9) rfl dX5_invert_17 ?_
  refine va_getN (D := D) (ci := 1) (v := .ref ((o 1) 2)) (C := RX1) (T := TX1) (N := 18) hx hb hts hiX1 hown hK hP 1 rfl rfl 1 (by decide) (va_Nw.use rfl (zn_RX5_80 hN)) (fun _ h9 => h9) rfl dX5_invert_20 ?_
  refine lv_iload_n hx hb dX5_invert_23 rfl (lv_at hl 1 rfl) ?_
  refine lv_iload_n hx hb dX5_invert_24 rfl (lv_at hl 2 rfl) ?_
  refine zc_ri (va_runV (As := [.int (zI xv), .int (zI xh)]) (rest := []) ⟨hx, hb, hml, hown, hts⟩ (met_X2_socAt l D cs (o 1) _ A xv xh (by assumption) (by assumption) (by first | assumption | omega) (by first | assumption | omega)) (cwV 2 hts gX5_invert_X2_socAt rfl rfl rfl (by decide +kernel) ⟨Nat.le_of_ble_eq_true rfl, Nat.le_of_ble_eq_true rfl⟩) ⟨zPre.blind, va_recv hK hP (ci := 2) (q0 := 3) rfl rfl, fun U hU hW => zp_R (hP.sub (ws' := zbat cs (o 1) A) [1, 2, 3, 4, 5, 6, 7] rfl) hK (hD.sub (ws' := zbat cs (o 1) A) [1, 2, 3, 4, 5, 6, 7] (by decide) rfl) hN hU hW⟩ rfl rfl hl.1 rfl (lv_room (Nat.le_of_ble_eq_true rfl)) dX5_invert_25 ⟨Nat.le_of_ble_eq_true rfl, Nat.le_of_ble_eq_true rfl⟩) ?_
  exact W.iret hx hb hr (fun t ht hW => ⟨_, rfl, (congrArg zI (show zInv A xv xh = zInv A xv xh from by rfl)), ht⟩) (fun q hq => absurd hq List.not_mem_nil) dX5_invert_28
set_option maxHeartbeats 4000000 in
set_option maxRecDepth 100000 in
theorem met_X5_invert_x (l : Launch) (hfl : l.stackTraces = false) (D : va_G) (cs : Nat → ClassId) (o : Nat → Nat → Nat) (A : Int → Int) (xv : Int) (xh : Int) (rxv : -2147483648 ≤ xv ∧ xv ≤ 2147483647) (rxh : -2147483648 ≤ xh ∧ xh ≤ 2147483647) (kno : ¬ ((0 ≤ xv ∧ xv ≤ 6000) ∧ 0 ≤ xh ∧ xh ≤ 1000)) : vx_Met l yX5_invert wsX5_invert ({ frames := 7, cells := 1, slots := 6, locals := 104 }) (va_Pc [.ref ((o 0) 0), .int (zI xv), .int (zI xh)] (zPreX D (zTy cs) ([((o 0) 0, .inr (5, [.ref ((o 1) 0), .ref ((o 2) 0), .ref ((o 3) 0), .ref ((o 8) 0)]))] ++ zbat cs (o 1) A))) zQXi (zXC "java/lang/IllegalArgumentException") 1 6 (fun _ => False) := by
  refine vx_ofW (cc := cX5_invert) (maxL := 3) (ret := (some .int)) (by decide +kernel) rfl ?_
  intro p e s m args below meth c s₁ B hml hnx hv
  obtain ⟨rfl, ⟨hP, hK, hD0, hN⟩, hX⟩ := hv
  have hx := B.exec
  have hb := B.bytes
  have hr := B.returns
  have hts := atoms_spec (ws := wsX5_invert) B.pre
  have hown : s.vm.findClass RX5 = some m.cls := findClass_of_methodNamed B.named
  have hlocks := B.notSynchronized
  have hX : zXF s s.heap := hX
  have hS : va_S (fun _ => False) s.heap s.heap [] := va_S.rf
  have hD := hD0
  have hl := lv_entry ([.ref ((o 0) 0), .int (zI xv), .int (zI xh)]) (n := 3) (Nat.le_of_ble_eq_true rfl)
  rw [lg_entry_eq]
  generalize (lg_sl ([.ref ((o 0) 0), .int (zI xv), .int (zI xh)]) ++ List.replicate (3 - (lg_sl ([.ref ((o 0) 0), .int (zI xv), .int (zI xh)])).length) Slot.unset).toArray = ls at hl ⊢
  have hl : lv_has ls 3 [(0, .ref ((o 0) 0)), (1, .int (zI xv)), (2, .int (zI xh))] := hl
  refine lv_iload_n hx hb dX5_invert_0 rfl (lv_at hl 1 rfl) ?_
  refine zr_iconst hx hb dX5_invert_1 ?_
  refine zr_sipush hx hb dX5_invert_2 (by decide) ?_
  by_cases r1 : (0 : Int) ≤ xv ∧ xv ≤ (6000 : Int)
  rotate_left
  · exact zc_xv (vx_runS (As := [.int (zI xv), .int (zI 0), .int (zI 6000)]) (rest := []) ⟨hx, hb, hml, hown, hts⟩ (met_X5_requireWithin_x l hfl xv 0 6000 (by omega) (by decide) (by decide) r1) (va_cwS 3 hts gX5_invert_X5_requireWithin rfl rfl rfl (by decide +kernel) ⟨(Nat.le_of_ble_eq_true rfl), (Nat.le_of_ble_eq_true rfl)⟩) ⟨zPreY.blind, fun U hU hW => zp_Y hX hU hW⟩ rfl rfl hl.1 rfl (lv_room ((Nat.le_of_ble_eq_true rfl))) dX5_invert_5 ⟨(Nat.le_of_ble_eq_true rfl), (Nat.le_of_ble_eq_true rfl)⟩) hnx hlocks hS (Nat.le_of_ble_eq_true rfl) (Nat.le_of_ble_eq_true rfl)
  refine zc_rv (va_runS (As := [.int (zI xv), .int (zI 0), .int (zI 6000)]) (rest := []) ⟨hx, hb, hml, hown, hts⟩ (met_X5_requireWithin_ok l xv 0 6000 (by omega) (by decide) (by decide) r1) (va_cwS 3 hts gX5_invert_X5_requireWithin rfl rfl rfl (by decide +kernel) ⟨(Nat.le_of_ble_eq_true rfl), (Nat.le_of_ble_eq_true rfl)⟩) ⟨zTrue.blind, fun U hU hW => ⟨rfl, trivial⟩⟩ rfl rfl hl.1 rfl (lv_room ((Nat.le_of_ble_eq_true rfl))) dX5_invert_5 ⟨(Nat.le_of_ble_eq_true rfl), (Nat.le_of_ble_eq_true rfl)⟩) ?_
  refine lv_iload_n hx hb dX5_invert_8 rfl (lv_at hl 2 rfl) ?_
  refine zr_iconst hx hb dX5_invert_9 ?_
  refine zr_sipush hx hb dX5_invert_10 (by decide) ?_
  by_cases r2 : (0 : Int) ≤ xh ∧ xh ≤ (1000 : Int)
  rotate_left
  · exact zc_xv (vx_runS (As := [.int (zI xh), .int (zI 0), .int (zI 1000)]) (rest := []) ⟨hx, hb, hml, hown, hts⟩ (met_X5_requireWithin_x l hfl xh 0 1000 (by omega) (by decide) (by decide) r2) (va_cwS 3 hts gX5_invert_X5_requireWithin rfl rfl rfl (by decide +kernel) ⟨(Nat.le_of_ble_eq_true rfl), (Nat.le_of_ble_eq_true rfl)⟩) ⟨zPreY.blind, fun U hU hW => zp_Y hX hU hW⟩ rfl rfl hl.1 rfl (lv_room ((Nat.le_of_ble_eq_true rfl))) dX5_invert_13 ⟨(Nat.le_of_ble_eq_true rfl), (Nat.le_of_ble_eq_true rfl)⟩) hnx hlocks hS (Nat.le_of_ble_eq_true rfl) (Nat.le_of_ble_eq_true rfl)
  refine zc_rv (va_runS (As := [.int (zI xh), .int (zI 0), .int (zI 1000)]) (rest := []) ⟨hx, hb, hml, hown, hts⟩ (met_X5_requireWithin_ok l xh 0 1000 (by omega) (by decide) (by decide) r2) (va_cwS 3 hts gX5_invert_X5_requireWithin rfl rfl rfl (by decide +kernel) ⟨(Nat.le_of_ble_eq_true rfl), (Nat.le_of_ble_eq_true rfl)⟩) ⟨zTrue.blind, fun U hU hW => ⟨rfl, trivial⟩⟩ rfl rfl hl.1 rfl (lv_room ((Nat.le_of_ble_eq_true rfl))) dX5_invert_13 ⟨(Nat.le_of_ble_eq_true rfl), (Nat.le_of_ble_eq_true rfl)⟩) ?_
  exfalso; first | omega | (simp only [and_true, true_and] at hx; omega) | exact hx.2.elim
set_option maxHeartbeats 4000000 in
set_option maxRecDepth 100000 in
theorem met_X5_anchor_ok (l : Launch) (D : va_G) (cs : Nat → ClassId) (o : Nat → Nat → Nat) (A : Int → Int) (n : Int) (xa : Int) (xw : Int) (hI : zOK n A) (hn : 0 ≤ n ∧ n ≤ 3100000) (rxa : -2147483648 ≤ xa ∧ xa ≤ 2147483647) (rxw : -2147483648 ≤ xw ∧ xw ≤ 2147483647) (kok : (0 ≤ xa ∧ xa < A 52) ∧ 0 ≤ xw ∧ xw ≤ 3) : Met l yX5_anchor wsX5_anchor ({ frames := 2, cells := 0, slots := 0, locals := 44 }) (va_Pc [.ref ((o 0) 0), .int (zI xa), .int (zI xw)] (zPre D (zTy cs) ([((o 0) 0, .inr (5, [.ref ((o 1) 0), .ref ((o 2) 0), .ref ((o 3) 0), .ref ((o 8) 0)]))] ++ zbat cs (o 1) A))) (zRi (zI (A (53 + (4 * xa + xw))))) 0 0 (fun _ => False) := by
  refine Met.ofW (cc := cX5_anchor) (maxL := 3) (ret := (some .int)) (by decide) rfl ?_
  intro p e s m args below meth c s₁ B hml hv
  obtain ⟨rfl, hP, hK, hD0, hN⟩ := hv
  have hx := B.exec
  have hb := B.bytes
  have hr := B.returns
  have hts := atoms_spec (ws := wsX5_anchor) B.pre
  have hown : s.vm.findClass RX5 = some m.cls := findClass_of_methodNamed B.named
  have hlocks := B.notSynchronized
  have hD := hD0
  have hl := lv_entry ([.ref ((o 0) 0), .int (zI xa), .int (zI xw)]) (n := 3) (Nat.le_of_ble_eq_true rfl)
  rw [lg_entry_eq]
  generalize (lg_sl ([.ref ((o 0) 0), .int (zI xa), .int (zI xw)]) ++ List.replicate (3 - (lg_sl ([.ref ((o 0) 0), .int (zI xa), .int (zI xw)])).length) Slot.unset).toArray = ls at hl ⊢
  have hl : lv_has ls 3 [(0, .ref ((o 0) 0)), (1, .int (zI xa)), (2, .int (zI xw))] := hl
  have hiX1 : ∀ w ∈ wsX10, w ∈ wsX5_anchor := by decide +kernel
  have hiX5 : ∀ w ∈ wsX50, w ∈ wsX5_anchor := by decide +kernel
  have qm := (zOK_q hI).2.2.2.2.2.2.2.2.2.2.2.2.2.2.2.2.2.1
  refine lv_iload_n hx hb dX5_anchor_0 rfl (lv_at hl 1 rfl) ?_
  refine zr_if_lt (tgt := 18) hx hb dX5_anchor_1 (by decide) (by omega) (fun c1 => ?_) (fun c1 => ?_)
  · exfalso; first | omega | (simp only [and_true, true_and] at c1; omega) | exact c1.2.elim
  · refine lv_iload_n hx hb dX5_anchor_4 rfl (lv_at hl 1 rfl) ?_
    refine lv_aload_n hx hb dX5_anchor_5 rfl (lv_at hl 0 rfl) ?_
    refine va_get (D := D) (ci := 5) (v := .ref ((o 1) 0)) (C := RX5) (T := TX5) (N := 4) hx hb hts hiX5 hown hK hP 0 rfl rfl 0 (by decide) (hts (.fieldLink RX5 10 "ChargeEstimator" "battery" "LChargeEstimator$Battery;") (List.mem_of_getElem? (i := 3) rfl)) (fun _ h9 => h9) rfl dX5_anchor_6 ?_
    refine va_getN (D := D) (ci := 1) (v := .ref ((o 1) 5)) (C := RX1) (T := TX1) (N := 18) hx hb hts hiX1 hown hK hP 1 rfl rfl 2 (by decide) (va_Nw.use rfl (zn_RX5_41 hN)) (fun _ h9 => h9) rfl dX5_anchor_9 ?_
    refine zc_ri (va_runV (As := []) (rest := [.int (zI xa)]) ⟨hx, hb, hml, hown, hts⟩ (met_X0_size l D cs (o 1) n A ) (cwV 0 hts gX5_anchor_X0_size rfl rfl rfl (by decide +kernel) ⟨Nat.le_of_ble_eq_true rfl, Nat.le_of_ble_eq_true rfl⟩) ⟨zPre.blind, va_recv hK hP (ci := 0) (q0 := 6) rfl rfl, fun U hU hW => zp_R (hP.sub (ws' := zbat cs (o 1) A) [1, 2, 3, 4, 5, 6, 7] rfl) hK (hD.sub (ws' := zbat cs (o 1) A) [1, 2, 3, 4, 5, 6, 7] (by decide) rfl) hN hU hW⟩ rfl rfl hl.1 rfl (lv_room (Nat.le_of_ble_eq_true rfl)) dX5_anchor_12 ⟨Nat.le_of_ble_eq_true rfl, Nat.le_of_ble_eq_true rfl⟩) ?_
    refine zr_icmp_lt (tgt := 28) hx hb dX5_anchor_15 (by decide) (by omega) (by omega) (fun c2 => ?_) (fun c2 => ?_)
    · refine lv_iload_n hx hb dX5_anchor_28 rfl (lv_at hl 2 rfl) ?_
      refine zr_iconst hx hb dX5_anchor_29 ?_
      refine zr_iconst hx hb dX5_anchor_30 ?_
      refine zc_rv (va_runS (As := [.int (zI xw), .int (zI 0), .int (zI 3)]) (rest := []) ⟨hx, hb, hml, hown, hts⟩ (met_X5_requireWithin_ok l xw 0 3 (by omega) (by decide) (by decide) (by first | assumption | omega)) (va_cwS 3 hts gX5_anchor_X5_requireWithin rfl rfl rfl (by decide +kernel) ⟨(Nat.le_of_ble_eq_true rfl), (Nat.le_of_ble_eq_true rfl)⟩) ⟨zTrue.blind, fun U hU hW => ⟨rfl, trivial⟩⟩ rfl rfl hl.1 rfl (lv_room ((Nat.le_of_ble_eq_true rfl))) dX5_anchor_31 ⟨(Nat.le_of_ble_eq_true rfl), (Nat.le_of_ble_eq_true rfl)⟩) ?_
      refine lv_aload_n hx hb dX5_anchor_34 rfl (lv_at hl 0 rfl) ?_
      refine va_get (D := D) (ci := 5) (v := .ref ((o 1) 0)) (C := RX5) (T := TX5) (N := 4) hx hb hts hiX5 hown hK hP 0 rfl rfl 0 (by decide) (hts (.fieldLink RX5 10 "ChargeEstimator" "battery" "LChargeEstimator$Battery;") (List.mem_of_getElem? (i := 3) rfl)) (fun _ h9 => h9) rfl dX5_anchor_35 ?_
      refine va_getN (D := D) (ci := 1) (v := .ref ((o 1) 5)) (C := RX1) (T := TX1) (N := 18) hx hb hts hiX1 hown hK hP 1 rfl rfl 2 (by decide) (va_Nw.use rfl (zn_RX5_41 hN)) (fun _ h9 => h9) rfl dX5_anchor_38 ?_
      refine lv_iload_n hx hb dX5_anchor_41 rfl (lv_at hl 1 rfl) ?_
      refine lv_iload_n hx hb dX5_anchor_42 rfl (lv_at hl 2 rfl) ?_
      refine zc_ri (va_runV (As := [.int (zI xa), .int (zI xw)]) (rest := []) ⟨hx, hb, hml, hown, hts⟩ (met_X0_part l D cs (o 1) n A xa xw (by first | assumption | omega) (by first | assumption | omega)) (cwV 2 hts gX5_anchor_X0_part rfl rfl rfl (by decide +kernel) ⟨Nat.le_of_ble_eq_true rfl, Nat.le_of_ble_eq_true rfl⟩) ⟨zPre.blind, va_recv hK hP (ci := 0) (q0 := 6) rfl rfl, fun U hU hW => zp_R (hP.sub (ws' := zbat cs (o 1) A) [1, 2, 3, 4, 5, 6, 7] rfl) hK (hD.sub (ws' := zbat cs (o 1) A) [1, 2, 3, 4, 5, 6, 7] (by decide) rfl) hN hU hW⟩ rfl rfl hl.1 rfl (lv_room (Nat.le_of_ble_eq_true rfl)) dX5_anchor_43 ⟨Nat.le_of_ble_eq_true rfl, Nat.le_of_ble_eq_true rfl⟩) ?_
      exact W.iret hx hb hr (fun t ht hW => ⟨_, rfl, (congrArg zI (show A (53 + (4 * xa + xw)) = A (53 + (4 * xa + xw)) from by rfl)), ht⟩) (fun q hq => absurd hq List.not_mem_nil) dX5_anchor_46
    · exfalso; first | omega | (simp only [and_true, true_and] at c2; omega) | exact c2.2.elim
set_option maxHeartbeats 4000000 in
set_option maxRecDepth 100000 in
theorem met_X5_anchor_x1 (l : Launch) (hfl : l.stackTraces = false) (D : va_G) (cs : Nat → ClassId) (o : Nat → Nat → Nat) (A : Int → Int) (n : Int) (xa : Int) (xw : Int) (hI : zOK n A) (hn : 0 ≤ n ∧ n ≤ 3100000) (rxa : -2147483648 ≤ xa ∧ xa ≤ 2147483647) (rxw : -2147483648 ≤ xw ∧ xw ≤ 2147483647) (kno : ¬ (0 ≤ xa ∧ xa < A 52)) : vx_Met l yX5_anchor wsX5_anchor ({ frames := 6, cells := 1, slots := 6, locals := 82 }) (va_Pc [.ref ((o 0) 0), .int (zI xa), .int (zI xw)] (zPreX D (zTy cs) ([((o 0) 0, .inr (5, [.ref ((o 1) 0), .ref ((o 2) 0), .ref ((o 3) 0), .ref ((o 8) 0)]))] ++ zbat cs (o 1) A))) zQXi (zXC "java/lang/IndexOutOfBoundsException") 1 6 (fun _ => False) := by
  refine vx_ofW (cc := cX5_anchor) (maxL := 3) (ret := (some .int)) (by decide +kernel) rfl ?_
  intro p e s m args below meth c s₁ B hml hnx hv
  obtain ⟨rfl, ⟨hP, hK, hD0, hN⟩, hX⟩ := hv
  have hx := B.exec
  have hb := B.bytes
  have hr := B.returns
  have hts := atoms_spec (ws := wsX5_anchor) B.pre
  have hown : s.vm.findClass RX5 = some m.cls := findClass_of_methodNamed B.named
  have hlocks := B.notSynchronized
  have hX : zXF s s.heap := hX
  have hS : va_S (fun _ => False) s.heap s.heap [] := va_S.rf
  have hD := hD0
  have hl := lv_entry ([.ref ((o 0) 0), .int (zI xa), .int (zI xw)]) (n := 3) (Nat.le_of_ble_eq_true rfl)
  rw [lg_entry_eq]
  generalize (lg_sl ([.ref ((o 0) 0), .int (zI xa), .int (zI xw)]) ++ List.replicate (3 - (lg_sl ([.ref ((o 0) 0), .int (zI xa), .int (zI xw)])).length) Slot.unset).toArray = ls at hl ⊢
  have hl : lv_has ls 3 [(0, .ref ((o 0) 0)), (1, .int (zI xa)), (2, .int (zI xw))] := hl
  have hiX1 : ∀ w ∈ wsX10, w ∈ wsX5_anchor := by decide +kernel
  have hiX5 : ∀ w ∈ wsX50, w ∈ wsX5_anchor := by decide +kernel
  have qm := (zOK_q hI).2.2.2.2.2.2.2.2.2.2.2.2.2.2.2.2.2.1
  refine lv_iload_n hx hb dX5_anchor_0 rfl (lv_at hl 1 rfl) ?_
  refine zr_if_lt (tgt := 18) hx hb dX5_anchor_1 (by decide) (by omega) (fun c1 => ?_) (fun c1 => ?_)
  · obtain ⟨sa9, hstr9⟩ := hX.1.2 (159, "there is no such anchor") (by decide +kernel)
    exact vx_throwS (pc := 18) (own := RX5) (cls := "java/lang/IndexOutOfBoundsException") (text := "there is no such anchor") (names := ["java/lang/RuntimeException", "java/lang/Exception"]) (ik := 157) (is := 159) (ic := 161) (mc := 1) (ms := 6) hx hb hfl hown (by decide +kernel) (by decide +kernel) (hts (.classLink RX5 157 "java/lang/IndexOutOfBoundsException") (List.mem_of_getElem? (i := 1) rfl)) (hts (.initialized "java/lang/IndexOutOfBoundsException") (List.mem_of_getElem? (i := 2) rfl)) hstr9 (vx_hat (B := zXw) (fun w hw => hts w ((show ∀ w ∈ (vx_atS RX5 161 "java/lang/IndexOutOfBoundsException" ["java/lang/RuntimeException", "java/lang/Exception"]).filter goodWord, w ∈ wsX5_anchor by decide +kernel) w hw)) (by decide +kernel) (fun w hw => va_Nw.use (zXb_t (List.all_eq_true.mp zXw_b w hw)) (hX.1.1 w hw))) (by decide +kernel) hX.2.1.1 hX.2.1.2 hS (hl.1.trans hml.symm) dX5_anchor_18 dX5_anchor_21 dX5_anchor_22 dX5_anchor_24 dX5_anchor_27 (fun x hx => (hnx x hx).elim) (by decide) (Nat.le_of_ble_eq_true rfl) (Nat.le_of_ble_eq_true rfl) (Nat.le_of_ble_eq_true rfl) hlocks (fun t hvm hz hk => ⟨(), trivial, rfl, hz, fun q h _ => hk q h⟩) (fun z hz => by cases hz) (Nat.le_of_ble_eq_true rfl) (Nat.le_of_ble_eq_true rfl)
  · refine lv_iload_n hx hb dX5_anchor_4 rfl (lv_at hl 1 rfl) ?_
    refine lv_aload_n hx hb dX5_anchor_5 rfl (lv_at hl 0 rfl) ?_
    refine va_get (D := D) (ci := 5) (v := .ref ((o 1) 0)) (C := RX5) (T := TX5) (N := 4) hx hb hts hiX5 hown hK hP 0 rfl rfl 0 (by decide) (hts (.fieldLink RX5 10 "ChargeEstimator" "battery" "LChargeEstimator$Battery;") (List.mem_of_getElem? (i := 3) rfl)) (fun _ h9 => h9) rfl dX5_anchor_6 ?_
    refine va_getN (D := D) (ci := 1) (v := .ref ((o 1) 5)) (C := RX1) (T := TX1) (N := 18) hx hb hts hiX1 hown hK hP 1 rfl rfl 2 (by decide) (va_Nw.use rfl (zn_RX5_41 hN)) (fun _ h9 => h9) rfl dX5_anchor_9 ?_
    refine zc_ri (va_runV (As := []) (rest := [.int (zI xa)]) ⟨hx, hb, hml, hown, hts⟩ (met_X0_size l D cs (o 1) n A ) (cwV 0 hts gX5_anchor_X0_size rfl rfl rfl (by decide +kernel) ⟨Nat.le_of_ble_eq_true rfl, Nat.le_of_ble_eq_true rfl⟩) ⟨zPre.blind, va_recv hK hP (ci := 0) (q0 := 6) rfl rfl, fun U hU hW => zp_R (hP.sub (ws' := zbat cs (o 1) A) [1, 2, 3, 4, 5, 6, 7] rfl) hK (hD.sub (ws' := zbat cs (o 1) A) [1, 2, 3, 4, 5, 6, 7] (by decide) rfl) hN hU hW⟩ rfl rfl hl.1 rfl (lv_room (Nat.le_of_ble_eq_true rfl)) dX5_anchor_12 ⟨Nat.le_of_ble_eq_true rfl, Nat.le_of_ble_eq_true rfl⟩) ?_
    refine zr_icmp_lt (tgt := 28) hx hb dX5_anchor_15 (by decide) (by omega) (by omega) (fun c2 => ?_) (fun c2 => ?_)
    · exfalso; first | omega | (simp only [and_true, true_and] at c2; omega) | exact c2.2.elim
    · obtain ⟨sa9, hstr9⟩ := hX.1.2 (159, "there is no such anchor") (by decide +kernel)
      exact vx_throwS (pc := 18) (own := RX5) (cls := "java/lang/IndexOutOfBoundsException") (text := "there is no such anchor") (names := ["java/lang/RuntimeException", "java/lang/Exception"]) (ik := 157) (is := 159) (ic := 161) (mc := 1) (ms := 6) hx hb hfl hown (by decide +kernel) (by decide +kernel) (hts (.classLink RX5 157 "java/lang/IndexOutOfBoundsException") (List.mem_of_getElem? (i := 1) rfl)) (hts (.initialized "java/lang/IndexOutOfBoundsException") (List.mem_of_getElem? (i := 2) rfl)) hstr9 (vx_hat (B := zXw) (fun w hw => hts w ((show ∀ w ∈ (vx_atS RX5 161 "java/lang/IndexOutOfBoundsException" ["java/lang/RuntimeException", "java/lang/Exception"]).filter goodWord, w ∈ wsX5_anchor by decide +kernel) w hw)) (by decide +kernel) (fun w hw => va_Nw.use (zXb_t (List.all_eq_true.mp zXw_b w hw)) (hX.1.1 w hw))) (by decide +kernel) hX.2.1.1 hX.2.1.2 hS (hl.1.trans hml.symm) dX5_anchor_18 dX5_anchor_21 dX5_anchor_22 dX5_anchor_24 dX5_anchor_27 (fun x hx => (hnx x hx).elim) (by decide) (Nat.le_of_ble_eq_true rfl) (Nat.le_of_ble_eq_true rfl) (Nat.le_of_ble_eq_true rfl) hlocks (fun t hvm hz hk => ⟨(), trivial, rfl, hz, fun q h _ => hk q h⟩) (fun z hz => by cases hz) (Nat.le_of_ble_eq_true rfl) (Nat.le_of_ble_eq_true rfl)
set_option maxHeartbeats 4000000 in
set_option maxRecDepth 100000 in
theorem met_X5_anchor_x2 (l : Launch) (hfl : l.stackTraces = false) (D : va_G) (cs : Nat → ClassId) (o : Nat → Nat → Nat) (A : Int → Int) (n : Int) (xa : Int) (xw : Int) (hI : zOK n A) (hn : 0 ≤ n ∧ n ≤ 3100000) (rxa : -2147483648 ≤ xa ∧ xa ≤ 2147483647) (rxw : -2147483648 ≤ xw ∧ xw ≤ 2147483647) (kno : (0 ≤ xa ∧ xa < A 52) ∧ ¬ (0 ≤ xw ∧ xw ≤ 3)) : vx_Met l yX5_anchor wsX5_anchor ({ frames := 7, cells := 1, slots := 6, locals := 104 }) (va_Pc [.ref ((o 0) 0), .int (zI xa), .int (zI xw)] (zPreX D (zTy cs) ([((o 0) 0, .inr (5, [.ref ((o 1) 0), .ref ((o 2) 0), .ref ((o 3) 0), .ref ((o 8) 0)]))] ++ zbat cs (o 1) A))) zQXi (zXC "java/lang/IllegalArgumentException") 1 6 (fun _ => False) := by
  refine vx_ofW (cc := cX5_anchor) (maxL := 3) (ret := (some .int)) (by decide +kernel) rfl ?_
  intro p e s m args below meth c s₁ B hml hnx hv
  obtain ⟨rfl, ⟨hP, hK, hD0, hN⟩, hX⟩ := hv
  have hx := B.exec
  have hb := B.bytes
  have hr := B.returns
  have hts := atoms_spec (ws := wsX5_anchor) B.pre
  have hown : s.vm.findClass RX5 = some m.cls := findClass_of_methodNamed B.named
  have hlocks := B.notSynchronized
  have hX : zXF s s.heap := hX
  have hS : va_S (fun _ => False) s.heap s.heap [] := va_S.rf
  have hD := hD0
  have hl := lv_entry ([.ref ((o 0) 0), .int (zI xa), .int (zI xw)]) (n := 3) (Nat.le_of_ble_eq_true rfl)
  rw [lg_entry_eq]
  generalize (lg_sl ([.ref ((o 0) 0), .int (zI xa), .int (zI xw)]) ++ List.replicate (3 - (lg_sl ([.ref ((o 0) 0), .int (zI xa), .int (zI xw)])).length) Slot.unset).toArray = ls at hl ⊢
  have hl : lv_has ls 3 [(0, .ref ((o 0) 0)), (1, .int (zI xa)), (2, .int (zI xw))] := hl
  have hiX1 : ∀ w ∈ wsX10, w ∈ wsX5_anchor := by decide +kernel
  have hiX5 : ∀ w ∈ wsX50, w ∈ wsX5_anchor := by decide +kernel
  have qm := (zOK_q hI).2.2.2.2.2.2.2.2.2.2.2.2.2.2.2.2.2.1
  refine lv_iload_n hx hb dX5_anchor_0 rfl (lv_at hl 1 rfl) ?_
  refine zr_if_lt (tgt := 18) hx hb dX5_anchor_1 (by decide) (by omega) (fun c1 => ?_) (fun c1 => ?_)
  · exfalso; first | omega | (simp only [and_true, true_and] at c1; omega) | exact c1.2.elim
  · refine lv_iload_n hx hb dX5_anchor_4 rfl (lv_at hl 1 rfl) ?_
    refine lv_aload_n hx hb dX5_anchor_5 rfl (lv_at hl 0 rfl) ?_
    refine va_get (D := D) (ci := 5) (v := .ref ((o 1) 0)) (C := RX5) (T := TX5) (N := 4) hx hb hts hiX5 hown hK hP 0 rfl rfl 0 (by decide) (hts (.fieldLink RX5 10 "ChargeEstimator" "battery" "LChargeEstimator$Battery;") (List.mem_of_getElem? (i := 3) rfl)) (fun _ h9 => h9) rfl dX5_anchor_6 ?_
    refine va_getN (D := D) (ci := 1) (v := .ref ((o 1) 5)) (C := RX1) (T := TX1) (N := 18) hx hb hts hiX1 hown hK hP 1 rfl rfl 2 (by decide) (va_Nw.use rfl (zn_RX5_41 hN)) (fun _ h9 => h9) rfl dX5_anchor_9 ?_
    refine zc_ri (va_runV (As := []) (rest := [.int (zI xa)]) ⟨hx, hb, hml, hown, hts⟩ (met_X0_size l D cs (o 1) n A ) (cwV 0 hts gX5_anchor_X0_size rfl rfl rfl (by decide +kernel) ⟨Nat.le_of_ble_eq_true rfl, Nat.le_of_ble_eq_true rfl⟩) ⟨zPre.blind, va_recv hK hP (ci := 0) (q0 := 6) rfl rfl, fun U hU hW => zp_R (hP.sub (ws' := zbat cs (o 1) A) [1, 2, 3, 4, 5, 6, 7] rfl) hK (hD.sub (ws' := zbat cs (o 1) A) [1, 2, 3, 4, 5, 6, 7] (by decide) rfl) hN hU hW⟩ rfl rfl hl.1 rfl (lv_room (Nat.le_of_ble_eq_true rfl)) dX5_anchor_12 ⟨Nat.le_of_ble_eq_true rfl, Nat.le_of_ble_eq_true rfl⟩) ?_
    refine zr_icmp_lt (tgt := 28) hx hb dX5_anchor_15 (by decide) (by omega) (by omega) (fun c2 => ?_) (fun c2 => ?_)
    · refine lv_iload_n hx hb dX5_anchor_28 rfl (lv_at hl 2 rfl) ?_
      refine zr_iconst hx hb dX5_anchor_29 ?_
      refine zr_iconst hx hb dX5_anchor_30 ?_
      by_cases r3 : (0 : Int) ≤ xw ∧ xw ≤ (3 : Int)
      rotate_left
      · exact zc_xv (vx_runS (As := [.int (zI xw), .int (zI 0), .int (zI 3)]) (rest := []) ⟨hx, hb, hml, hown, hts⟩ (met_X5_requireWithin_x l hfl xw 0 3 (by omega) (by decide) (by decide) r3) (va_cwS 3 hts gX5_anchor_X5_requireWithin rfl rfl rfl (by decide +kernel) ⟨(Nat.le_of_ble_eq_true rfl), (Nat.le_of_ble_eq_true rfl)⟩) ⟨zPreY.blind, fun U hU hW => zp_Y hX hU hW⟩ rfl rfl hl.1 rfl (lv_room ((Nat.le_of_ble_eq_true rfl))) dX5_anchor_31 ⟨(Nat.le_of_ble_eq_true rfl), (Nat.le_of_ble_eq_true rfl)⟩) hnx hlocks hS (Nat.le_of_ble_eq_true rfl) (Nat.le_of_ble_eq_true rfl)
      refine zc_rv (va_runS (As := [.int (zI xw), .int (zI 0), .int (zI 3)]) (rest := []) ⟨hx, hb, hml, hown, hts⟩ (met_X5_requireWithin_ok l xw 0 3 (by omega) (by decide) (by decide) r3) (va_cwS 3 hts gX5_anchor_X5_requireWithin rfl rfl rfl (by decide +kernel) ⟨(Nat.le_of_ble_eq_true rfl), (Nat.le_of_ble_eq_true rfl)⟩) ⟨zTrue.blind, fun U hU hW => ⟨rfl, trivial⟩⟩ rfl rfl hl.1 rfl (lv_room ((Nat.le_of_ble_eq_true rfl))) dX5_anchor_31 ⟨(Nat.le_of_ble_eq_true rfl), (Nat.le_of_ble_eq_true rfl)⟩) ?_
      exfalso; first | omega | (simp only [and_true, true_and] at c2; omega) | exact c2.2.elim
    · exfalso; first | omega | (simp only [and_true, true_and] at c2; omega) | exact c2.2.elim
set_option maxHeartbeats 4000000 in
set_option maxRecDepth 100000 in
theorem met_X5_boundAfter_ok (l : Launch) (D : va_G) (cs : Nat → ClassId) (o : Nat → Nat → Nat) (A : Int → Int) (n : Int) (xi : Int) (xt : Int) (xp : Prop) [Decidable xp] (hI : zOK n A) (hn : 0 ≤ n ∧ n ≤ 3100000) (rxi : -2147483648 ≤ xi ∧ xi ≤ 2147483647) (rxt : -2147483648 ≤ xt ∧ xt ≤ 2147483647) (kok : (-50000 ≤ xi ∧ xi ≤ 50000) ∧ 0 ≤ xt ∧ xt ≤ 1000000) : Met l yX5_boundAfter wsX5_boundAfter ({ frames := 3, cells := 0, slots := 0, locals := 64 }) (va_Pc [.ref ((o 0) 0), .int (zI xi), .int (zI xt), .int (zI (zB (xp)))] (zPre D (zTy cs) ([((o 0) 0, .inr (5, [.ref ((o 1) 0), .ref ((o 2) 0), .ref ((o 3) 0), .ref ((o 8) 0)]))] ++ zbat cs (o 1) A))) (zRl (zL (zBo A xi xt xp))) 0 0 (fun _ => False) := by
  refine Met.ofW (cc := cX5_boundAfter) (maxL := 4) (ret := (some .long)) (by decide) rfl ?_
  intro p e s m args below meth c s₁ B hml hv
  obtain ⟨rfl, hP, hK, hD0, hN⟩ := hv
  have hx := B.exec
  have hb := B.bytes
  have hr := B.returns
  have hts := atoms_spec (ws := wsX5_boundAfter) B.pre
  have hown : s.vm.findClass RX5 = some m.cls := findClass_of_methodNamed B.named
  have hlocks := B.notSynchronized
  have hD := hD0
  have hl := lv_entry ([.ref ((o 0) 0), .int (zI xi), .int (zI xt), .int (zI (zB (xp)))]) (n := 4) (Nat.le_of_ble_eq_true rfl)
  rw [lg_entry_eq]
  generalize (lg_sl ([.ref ((o 0) 0), .int (zI xi), .int (zI xt), .int (zI (zB (xp)))]) ++ List.replicate (4 - (lg_sl ([.ref ((o 0) 0), .int (zI xi), .int (zI xt), .int (zI (zB (xp)))])).length) Slot.unset).toArray = ls at hl ⊢
  have hl : lv_has ls 4 [(0, .ref ((o 0) 0)), (1, .int (zI xi)), (2, .int (zI xt)), (3, .int (zI (zB (xp))))] := hl
  have hiX5 : ∀ w ∈ wsX50, w ∈ wsX5_boundAfter := by decide +kernel
  have hw := zOK_w hI
  refine lv_iload_n hx hb dX5_boundAfter_0 rfl (lv_at hl 1 rfl) ?_
  refine zr_ldc (n := (-50000)) hx hb hown (hts (.constant RX5 165 (-50000)) (List.mem_of_getElem? (i := 1) rfl)) rfl dX5_boundAfter_1 ?_
  refine zr_ldc (n := 50000) hx hb hown (hts (.constant RX5 166 (50000)) (List.mem_of_getElem? (i := 2) rfl)) rfl dX5_boundAfter_3 ?_
  refine zc_rv (va_runS (As := [.int (zI xi), .int (zI (-50000)), .int (zI 50000)]) (rest := []) ⟨hx, hb, hml, hown, hts⟩ (met_X5_requireWithin_ok l xi (-50000) 50000 (by omega) (by decide) (by decide) (by first | assumption | omega)) (va_cwS 3 hts gX5_boundAfter_X5_requireWithin rfl rfl rfl (by decide +kernel) ⟨(Nat.le_of_ble_eq_true rfl), (Nat.le_of_ble_eq_true rfl)⟩) ⟨zTrue.blind, fun U hU hW => ⟨rfl, trivial⟩⟩ rfl rfl hl.1 rfl (lv_room ((Nat.le_of_ble_eq_true rfl))) dX5_boundAfter_5 ⟨(Nat.le_of_ble_eq_true rfl), (Nat.le_of_ble_eq_true rfl)⟩) ?_
  refine lv_iload_n hx hb dX5_boundAfter_8 rfl (lv_at hl 2 rfl) ?_
  refine zr_iconst hx hb dX5_boundAfter_9 ?_
  refine zr_ldc (n := 1000000) hx hb hown (hts (.constant RX5 167 (1000000)) (List.mem_of_getElem? (i := 3) rfl)) rfl dX5_boundAfter_10 ?_
  refine zc_rv (va_runS (As := [.int (zI xt), .int (zI 0), .int (zI 1000000)]) (rest := []) ⟨hx, hb, hml, hown, hts⟩ (met_X5_requireWithin_ok l xt 0 1000000 (by omega) (by decide) (by decide) (by first | assumption | omega)) (va_cwS 3 hts gX5_boundAfter_X5_requireWithin rfl rfl rfl (by decide +kernel) ⟨(Nat.le_of_ble_eq_true rfl), (Nat.le_of_ble_eq_true rfl)⟩) ⟨zTrue.blind, fun U hU hW => ⟨rfl, trivial⟩⟩ rfl rfl hl.1 rfl (lv_room ((Nat.le_of_ble_eq_true rfl))) dX5_boundAfter_12 ⟨(Nat.le_of_ble_eq_true rfl), (Nat.le_of_ble_eq_true rfl)⟩) ?_
  refine lv_iload_n hx hb dX5_boundAfter_15 rfl (lv_at hl 3 rfl) ?_
  refine zr_ifb_eq (tgt := 31) hx hb dX5_boundAfter_16 (by decide) (fun c1 => ?_) (fun c1 => ?_)
  · refine lv_aload_n hx hb dX5_boundAfter_31 rfl (lv_at hl 0 rfl) ?_
    refine va_get (D := D) (ci := 5) (v := .ref ((o 1) 0)) (C := RX5) (T := TX5) (N := 4) hx hb hts hiX5 hown hK hP 0 rfl rfl 0 (by decide) (hts (.fieldLink RX5 10 "ChargeEstimator" "battery" "LChargeEstimator$Battery;") (List.mem_of_getElem? (i := 4) rfl)) (fun _ h9 => h9) rfl dX5_boundAfter_32 ?_
    refine lv_iload_n hx hb dX5_boundAfter_35 rfl (lv_at hl 1 rfl) ?_
    refine lv_iload_n hx hb dX5_boundAfter_36 rfl (lv_at hl 2 rfl) ?_
    refine zc_rl (va_runV (As := [.int (zI xi), .int (zI xt)]) (rest := []) ⟨hx, hb, hml, hown, hts⟩ (met_X1_lowAfter l D cs (o 1) A xi xt (by first | assumption | exact zOK_w (by assumption)) (by first | assumption | omega) (by first | assumption | omega)) (cwV 2 hts gX5_boundAfter_X1_lowAfter rfl rfl rfl (by decide +kernel) ⟨Nat.le_of_ble_eq_true rfl, Nat.le_of_ble_eq_true rfl⟩) ⟨zPre.blind, va_recv hK hP (ci := 1) (q0 := 1) rfl rfl, fun U hU hW => zp_R (hP.sub (ws' := zbat cs (o 1) A) [1, 2, 3, 4, 5, 6, 7] rfl) hK (hD.sub (ws' := zbat cs (o 1) A) [1, 2, 3, 4, 5, 6, 7] (by decide) rfl) hN hU hW⟩ rfl rfl hl.1 rfl (lv_room (Nat.le_of_ble_eq_true rfl)) dX5_boundAfter_37 ⟨Nat.le_of_ble_eq_true rfl, Nat.le_of_ble_eq_true rfl⟩) ?_
    exact W.lret hx hb hr (fun t ht hW => ⟨_, rfl, (congrArg zL (show zLow A xi xt = zBo A xi xt xp from by unfold zBo; first | (rw [if_pos (by assumption)]; done) | (rw [if_neg (by assumption)]; done))), ht⟩) (fun q hq => absurd hq List.not_mem_nil) dX5_boundAfter_40
  · refine lv_aload_n hx hb dX5_boundAfter_19 rfl (lv_at hl 0 rfl) ?_
    refine va_get (D := D) (ci := 5) (v := .ref ((o 1) 0)) (C := RX5) (T := TX5) (N := 4) hx hb hts hiX5 hown hK hP 0 rfl rfl 0 (by decide) (hts (.fieldLink RX5 10 "ChargeEstimator" "battery" "LChargeEstimator$Battery;") (List.mem_of_getElem? (i := 4) rfl)) (fun _ h9 => h9) rfl dX5_boundAfter_20 ?_
    refine lv_iload_n hx hb dX5_boundAfter_23 rfl (lv_at hl 1 rfl) ?_
    refine lv_iload_n hx hb dX5_boundAfter_24 rfl (lv_at hl 2 rfl) ?_
    refine zc_rl (va_runV (As := [.int (zI xi), .int (zI xt)]) (rest := []) ⟨hx, hb, hml, hown, hts⟩ (met_X1_highAfter l D cs (o 1) A xi xt (by first | assumption | exact zOK_w (by assumption)) (by first | assumption | omega) (by first | assumption | omega)) (cwV 2 hts gX5_boundAfter_X1_highAfter rfl rfl rfl (by decide +kernel) ⟨Nat.le_of_ble_eq_true rfl, Nat.le_of_ble_eq_true rfl⟩) ⟨zPre.blind, va_recv hK hP (ci := 1) (q0 := 1) rfl rfl, fun U hU hW => zp_R (hP.sub (ws' := zbat cs (o 1) A) [1, 2, 3, 4, 5, 6, 7] rfl) hK (hD.sub (ws' := zbat cs (o 1) A) [1, 2, 3, 4, 5, 6, 7] (by decide) rfl) hN hU hW⟩ rfl rfl hl.1 rfl (lv_room (Nat.le_of_ble_eq_true rfl)) dX5_boundAfter_25 ⟨Nat.le_of_ble_eq_true rfl, Nat.le_of_ble_eq_true rfl⟩) ?_
    refine lv_goto (tgt := 40) hx hb dX5_boundAfter_28 (by decide) ?_
    exact W.lret hx hb hr (fun t ht hW => ⟨_, rfl, (congrArg zL (show zHigh A xi xt = zBo A xi xt xp from by unfold zBo; first | (rw [if_pos (by assumption)]; done) | (rw [if_neg (by assumption)]; done))), ht⟩) (fun q hq => absurd hq List.not_mem_nil) dX5_boundAfter_40
set_option maxHeartbeats 4000000 in
set_option maxRecDepth 100000 in
theorem met_X5_boundAfter_x (l : Launch) (hfl : l.stackTraces = false) (D : va_G) (cs : Nat → ClassId) (o : Nat → Nat → Nat) (A : Int → Int) (xi : Int) (xt : Int) (xp : Prop) [Decidable xp] (rxi : -2147483648 ≤ xi ∧ xi ≤ 2147483647) (rxt : -2147483648 ≤ xt ∧ xt ≤ 2147483647) (kno : ¬ ((-50000 ≤ xi ∧ xi ≤ 50000) ∧ 0 ≤ xt ∧ xt ≤ 1000000)) : vx_Met l yX5_boundAfter wsX5_boundAfter ({ frames := 7, cells := 1, slots := 6, locals := 104 }) (va_Pc [.ref ((o 0) 0), .int (zI xi), .int (zI xt), .int (zI (zB (xp)))] (zPreX D (zTy cs) ([((o 0) 0, .inr (5, [.ref ((o 1) 0), .ref ((o 2) 0), .ref ((o 3) 0), .ref ((o 8) 0)]))] ++ zbat cs (o 1) A))) zQXl (zXC "java/lang/IllegalArgumentException") 1 6 (fun _ => False) := by
  refine vx_ofW (cc := cX5_boundAfter) (maxL := 4) (ret := (some .long)) (by decide +kernel) rfl ?_
  intro p e s m args below meth c s₁ B hml hnx hv
  obtain ⟨rfl, ⟨hP, hK, hD0, hN⟩, hX⟩ := hv
  have hx := B.exec
  have hb := B.bytes
  have hr := B.returns
  have hts := atoms_spec (ws := wsX5_boundAfter) B.pre
  have hown : s.vm.findClass RX5 = some m.cls := findClass_of_methodNamed B.named
  have hlocks := B.notSynchronized
  have hX : zXF s s.heap := hX
  have hS : va_S (fun _ => False) s.heap s.heap [] := va_S.rf
  have hD := hD0
  have hl := lv_entry ([.ref ((o 0) 0), .int (zI xi), .int (zI xt), .int (zI (zB (xp)))]) (n := 4) (Nat.le_of_ble_eq_true rfl)
  rw [lg_entry_eq]
  generalize (lg_sl ([.ref ((o 0) 0), .int (zI xi), .int (zI xt), .int (zI (zB (xp)))]) ++ List.replicate (4 - (lg_sl ([.ref ((o 0) 0), .int (zI xi), .int (zI xt), .int (zI (zB (xp)))])).length) Slot.unset).toArray = ls at hl ⊢
  have hl : lv_has ls 4 [(0, .ref ((o 0) 0)), (1, .int (zI xi)), (2, .int (zI xt)), (3, .int (zI (zB (xp))))] := hl
  refine lv_iload_n hx hb dX5_boundAfter_0 rfl (lv_at hl 1 rfl) ?_
  refine zr_ldc (n := (-50000)) hx hb hown (hts (.constant RX5 165 (-50000)) (List.mem_of_getElem? (i := 1) rfl)) rfl dX5_boundAfter_1 ?_
  refine zr_ldc (n := 50000) hx hb hown (hts (.constant RX5 166 (50000)) (List.mem_of_getElem? (i := 2) rfl)) rfl dX5_boundAfter_3 ?_
  by_cases r1 : (-50000 : Int) ≤ xi ∧ xi ≤ (50000 : Int)
  rotate_left
  · exact zc_xv (vx_runS (As := [.int (zI xi), .int (zI (-50000)), .int (zI 50000)]) (rest := []) ⟨hx, hb, hml, hown, hts⟩ (met_X5_requireWithin_x l hfl xi (-50000) 50000 (by omega) (by decide) (by decide) r1) (va_cwS 3 hts gX5_boundAfter_X5_requireWithin rfl rfl rfl (by decide +kernel) ⟨(Nat.le_of_ble_eq_true rfl), (Nat.le_of_ble_eq_true rfl)⟩) ⟨zPreY.blind, fun U hU hW => zp_Y hX hU hW⟩ rfl rfl hl.1 rfl (lv_room ((Nat.le_of_ble_eq_true rfl))) dX5_boundAfter_5 ⟨(Nat.le_of_ble_eq_true rfl), (Nat.le_of_ble_eq_true rfl)⟩) hnx hlocks hS (Nat.le_of_ble_eq_true rfl) (Nat.le_of_ble_eq_true rfl)
  refine zc_rv (va_runS (As := [.int (zI xi), .int (zI (-50000)), .int (zI 50000)]) (rest := []) ⟨hx, hb, hml, hown, hts⟩ (met_X5_requireWithin_ok l xi (-50000) 50000 (by omega) (by decide) (by decide) r1) (va_cwS 3 hts gX5_boundAfter_X5_requireWithin rfl rfl rfl (by decide +kernel) ⟨(Nat.le_of_ble_eq_true rfl), (Nat.le_of_ble_eq_true rfl)⟩) ⟨zTrue.blind, fun U hU hW => ⟨rfl, trivial⟩⟩ rfl rfl hl.1 rfl (lv_room ((Nat.le_of_ble_eq_true rfl))) dX5_boundAfter_5 ⟨(Nat.le_of_ble_eq_true rfl), (Nat.le_of_ble_eq_true rfl)⟩) ?_
  refine lv_iload_n hx hb dX5_boundAfter_8 rfl (lv_at hl 2 rfl) ?_
  refine zr_iconst hx hb dX5_boundAfter_9 ?_
  refine zr_ldc (n := 1000000) hx hb hown (hts (.constant RX5 167 (1000000)) (List.mem_of_getElem? (i := 3) rfl)) rfl dX5_boundAfter_10 ?_
  by_cases r2 : (0 : Int) ≤ xt ∧ xt ≤ (1000000 : Int)
  rotate_left
  · exact zc_xv (vx_runS (As := [.int (zI xt), .int (zI 0), .int (zI 1000000)]) (rest := []) ⟨hx, hb, hml, hown, hts⟩ (met_X5_requireWithin_x l hfl xt 0 1000000 (by omega) (by decide) (by decide) r2) (va_cwS 3 hts gX5_boundAfter_X5_requireWithin rfl rfl rfl (by decide +kernel) ⟨(Nat.le_of_ble_eq_true rfl), (Nat.le_of_ble_eq_true rfl)⟩) ⟨zPreY.blind, fun U hU hW => zp_Y hX hU hW⟩ rfl rfl hl.1 rfl (lv_room ((Nat.le_of_ble_eq_true rfl))) dX5_boundAfter_12 ⟨(Nat.le_of_ble_eq_true rfl), (Nat.le_of_ble_eq_true rfl)⟩) hnx hlocks hS (Nat.le_of_ble_eq_true rfl) (Nat.le_of_ble_eq_true rfl)
  refine zc_rv (va_runS (As := [.int (zI xt), .int (zI 0), .int (zI 1000000)]) (rest := []) ⟨hx, hb, hml, hown, hts⟩ (met_X5_requireWithin_ok l xt 0 1000000 (by omega) (by decide) (by decide) r2) (va_cwS 3 hts gX5_boundAfter_X5_requireWithin rfl rfl rfl (by decide +kernel) ⟨(Nat.le_of_ble_eq_true rfl), (Nat.le_of_ble_eq_true rfl)⟩) ⟨zTrue.blind, fun U hU hW => ⟨rfl, trivial⟩⟩ rfl rfl hl.1 rfl (lv_room ((Nat.le_of_ble_eq_true rfl))) dX5_boundAfter_12 ⟨(Nat.le_of_ble_eq_true rfl), (Nat.le_of_ble_eq_true rfl)⟩) ?_
  exfalso; first | omega | (simp only [and_true, true_and] at hx; omega) | exact hx.2.elim
theorem zFst_r (P : Int → Bool) : ∀ (n : Nat) (s : Int), s ≤ zFst P n s ∧ zFst P n s ≤ s + n
  | 0, s => by show s ≤ s ∧ s ≤ s + ((0 : Nat) : Int); omega
  | n + 1, s => by
    show s ≤ (if P s then s else zFst P n (s + 1)) ∧ (if P s then s else zFst P n (s + 1)) ≤ s + ((n + 1 : Nat) : Int)
    have := zFst_r P n (s + 1)
    split <;> omega
theorem zWlow_r (A : Int → Int) (i l : Int) : 0 ≤ zWlow A i l ∧ zWlow A i l ≤ 1000001 := by
  have := zFst_r (fun t => decide (zLow A i t ≤ l)) 1000001 0
  unfold zWlow
  omega
theorem zWhigh_r (A : Int → Int) (i : Int) : 0 ≤ zWhigh A i ∧ zWhigh A i ≤ 1000001 := by
  have := zFst_r (fun t => decide (A 37 ≤ zHigh A i t)) 1000001 0
  unfold zWhigh
  omega
theorem zWlow_0 {n : Int} {A : Int → Int} (h : zOK n A) {i l : Int} (e : A 35 ≤ l) : zWlow A i l = 0 := by
  unfold zWlow
  show (if decide (zLow A i 0 ≤ l) = true then (0 : Int) else _) = 0
  rw [if_pos (decide_eq_true (by rw [zLow_0 h]; exact e))]
set_option maxHeartbeats 4000000 in
set_option maxRecDepth 100000 in
theorem met_X5_reaches_ok (l : Launch) (D : va_G) (cs : Nat → ClassId) (o : Nat → Nat → Nat) (A : Int → Int) (n : Int) (xi : Int) (hI : zOK n A) (hn : 0 ≤ n ∧ n ≤ 3100000) (rxi : -2147483648 ≤ xi ∧ xi ≤ 2147483647) (kok : (-50000 ≤ xi ∧ xi ≤ 50000) ∧ xi ≠ 0) : Met l yX5_reaches wsX5_reaches ({ frames := 4, cells := 0, slots := 0, locals := 91 }) (va_Pc [.ref ((o 0) 0), .int (zI xi)] (zPre D (zTy cs) ([((o 0) 0, .inr (5, [.ref ((o 1) 0), .ref ((o 2) 0), .ref ((o 3) 0), .ref ((o 8) 0)]))] ++ zbat cs (o 1) A))) (zRi (zI (zRe A xi))) 0 0 (fun _ => False) := by
  refine Met.ofW (cc := cX5_reaches) (maxL := 3) (ret := (some .int)) (by decide) rfl ?_
  intro p e s m args below meth c s₁ B hml hv
  obtain ⟨rfl, hP, hK, hD0, hN⟩ := hv
  have hx := B.exec
  have hb := B.bytes
  have hr := B.returns
  have hts := atoms_spec (ws := wsX5_reaches) B.pre
  have hown : s.vm.findClass RX5 = some m.cls := findClass_of_methodNamed B.named
  have hlocks := B.notSynchronized
  have hD := hD0
  have hl := lv_entry ([.ref ((o 0) 0), .int (zI xi)]) (n := 3) (Nat.le_of_ble_eq_true rfl)
  rw [lg_entry_eq]
  generalize (lg_sl ([.ref ((o 0) 0), .int (zI xi)]) ++ List.replicate (3 - (lg_sl ([.ref ((o 0) 0), .int (zI xi)])).length) Slot.unset).toArray = ls at hl ⊢
  have hl : lv_has ls 3 [(0, .ref ((o 0) 0)), (1, .int (zI xi))] := hl
  have hiX5 : ∀ w ∈ wsX50, w ∈ wsX5_reaches := by decide +kernel
  have hw1 := zWlow_r A xi 0
  have hw2 := zWhigh_r A xi
  refine lv_iload_n hx hb dX5_reaches_0 rfl (lv_at hl 1 rfl) ?_
  refine zr_ldc (n := (-50000)) hx hb hown (hts (.constant RX5 165 (-50000)) (List.mem_of_getElem? (i := 3) rfl)) rfl dX5_reaches_1 ?_
  refine zr_ldc (n := 50000) hx hb hown (hts (.constant RX5 166 (50000)) (List.mem_of_getElem? (i := 4) rfl)) rfl dX5_reaches_3 ?_
  refine zc_rv (va_runS (As := [.int (zI xi), .int (zI (-50000)), .int (zI 50000)]) (rest := []) ⟨hx, hb, hml, hown, hts⟩ (met_X5_requireWithin_ok l xi (-50000) 50000 (by omega) (by decide) (by decide) (by first | assumption | omega)) (va_cwS 3 hts gX5_reaches_X5_requireWithin rfl rfl rfl (by decide +kernel) ⟨(Nat.le_of_ble_eq_true rfl), (Nat.le_of_ble_eq_true rfl)⟩) ⟨zTrue.blind, fun U hU hW => ⟨rfl, trivial⟩⟩ rfl rfl hl.1 rfl (lv_room ((Nat.le_of_ble_eq_true rfl))) dX5_reaches_5 ⟨(Nat.le_of_ble_eq_true rfl), (Nat.le_of_ble_eq_true rfl)⟩) ?_
  refine lv_iload_n hx hb dX5_reaches_8 rfl (lv_at hl 1 rfl) ?_
  refine zr_if_ne (tgt := 22) hx hb dX5_reaches_9 (by decide) (by omega) (fun c1 => ?_) (fun c1 => ?_)
  · refine lv_iload_n hx hb dX5_reaches_22 rfl (lv_at hl 1 rfl) ?_
    refine zr_if_ge (tgt := 38) hx hb dX5_reaches_23 (by decide) (by omega) (fun c2 => ?_) (fun c2 => ?_)
    · refine lv_aload_n hx hb dX5_reaches_38 rfl (lv_at hl 0 rfl) ?_
      refine va_get (D := D) (ci := 5) (v := .ref ((o 1) 0)) (C := RX5) (T := TX5) (N := 4) hx hb hts hiX5 hown hK hP 0 rfl rfl 0 (by decide) (hts (.fieldLink RX5 10 "ChargeEstimator" "battery" "LChargeEstimator$Battery;") (List.mem_of_getElem? (i := 5) rfl)) (fun _ h9 => h9) rfl dX5_reaches_39 ?_
      refine lv_iload_n hx hb dX5_reaches_42 rfl (lv_at hl 1 rfl) ?_
      refine zc_ri (va_runV (As := [.int (zI xi)]) (rest := []) ⟨hx, hb, hml, hown, hts⟩ (met_X1_whenHighWhole l D cs (o 1) _ A xi (by assumption) (by assumption) (by first | assumption | omega)) (cwV 1 hts gX5_reaches_X1_whenHighWhole rfl rfl rfl (by decide +kernel) ⟨Nat.le_of_ble_eq_true rfl, Nat.le_of_ble_eq_true rfl⟩) ⟨zPre.blind, va_recv hK hP (ci := 1) (q0 := 1) rfl rfl, fun U hU hW => zp_R (hP.sub (ws' := zbat cs (o 1) A) [1, 2, 3, 4, 5, 6, 7] rfl) hK (hD.sub (ws' := zbat cs (o 1) A) [1, 2, 3, 4, 5, 6, 7] (by decide) rfl) hN hU hW⟩ rfl rfl hl.1 rfl (lv_room (Nat.le_of_ble_eq_true rfl)) dX5_reaches_43 ⟨Nat.le_of_ble_eq_true rfl, Nat.le_of_ble_eq_true rfl⟩) ?_
      refine lv_istore_n (lv' := [(2, .int (zI (zWhigh A xi))), (0, .ref ((o 0) 0)), (1, .int (zI xi))]) hx hb dX5_reaches_46 rfl hl (by decide) rfl (fun ls hl => ?_)
      refine lv_iload_n hx hb dX5_reaches_47 rfl (lv_at hl 0 rfl) ?_
      refine zr_ldc (n := 1000000) hx hb hown (hts (.constant RX5 167 (1000000)) (List.mem_of_getElem? (i := 6) rfl)) rfl dX5_reaches_48 ?_
      refine zr_icmp_le (tgt := 57) hx hb dX5_reaches_50 (by decide) (by omega) (by decide) (fun c3 => ?_) (fun c3 => ?_)
      · refine lv_iload_n hx hb dX5_reaches_57 rfl (lv_at hl 0 rfl) ?_
        exact W.iret hx hb hr (fun t ht hW => ⟨_, rfl, (congrArg zI (show zWhigh A xi = zRe A xi from by unfold zRe zRwt; first | (rw [if_pos (show xi < 0 by omega)]; (first | (rw [if_pos (by omega)]; done) | (rw [if_neg (by omega)]; done))) | (rw [if_neg (show ¬ xi < 0 by omega)]; (first | (rw [if_pos (by omega)]; done) | (rw [if_neg (by omega)]; done))))), ht⟩) (fun q hq => absurd hq List.not_mem_nil) dX5_reaches_58
      · refine zr_iconst hx hb dX5_reaches_53 ?_
        refine lv_goto (tgt := 58) hx hb dX5_reaches_54 (by decide) ?_
        exact W.iret hx hb hr (fun t ht hW => ⟨_, rfl, (congrArg zI (show (-1) = zRe A xi from by unfold zRe zRwt; first | (rw [if_pos (show xi < 0 by omega)]; (first | (rw [if_pos (by omega)]; done) | (rw [if_neg (by omega)]; done))) | (rw [if_neg (show ¬ xi < 0 by omega)]; (first | (rw [if_pos (by omega)]; done) | (rw [if_neg (by omega)]; done))))), ht⟩) (fun q hq => absurd hq List.not_mem_nil) dX5_reaches_58
    · refine lv_aload_n hx hb dX5_reaches_26 rfl (lv_at hl 0 rfl) ?_
      refine va_get (D := D) (ci := 5) (v := .ref ((o 1) 0)) (C := RX5) (T := TX5) (N := 4) hx hb hts hiX5 hown hK hP 0 rfl rfl 0 (by decide) (hts (.fieldLink RX5 10 "ChargeEstimator" "battery" "LChargeEstimator$Battery;") (List.mem_of_getElem? (i := 5) rfl)) (fun _ h9 => h9) rfl dX5_reaches_27 ?_
      refine lv_iload_n hx hb dX5_reaches_30 rfl (lv_at hl 1 rfl) ?_
      refine zr_lconst0 hx hb dX5_reaches_31 ?_
      refine zc_ri (va_runV (As := [.int (zI xi), .long (zL 0)]) (rest := []) ⟨hx, hb, hml, hown, hts⟩ (met_X1_whenLowAtMost l D cs (o 1) _ A xi 0 (by assumption) (by assumption) (by first | assumption | omega) (by first | assumption | omega)) (cwV 2 hts gX5_reaches_X1_whenLowAtMost rfl rfl rfl (by decide +kernel) ⟨Nat.le_of_ble_eq_true rfl, Nat.le_of_ble_eq_true rfl⟩) ⟨zPre.blind, va_recv hK hP (ci := 1) (q0 := 1) rfl rfl, fun U hU hW => zp_R (hP.sub (ws' := zbat cs (o 1) A) [1, 2, 3, 4, 5, 6, 7] rfl) hK (hD.sub (ws' := zbat cs (o 1) A) [1, 2, 3, 4, 5, 6, 7] (by decide) rfl) hN hU hW⟩ rfl rfl hl.1 rfl (lv_room (Nat.le_of_ble_eq_true rfl)) dX5_reaches_32 ⟨Nat.le_of_ble_eq_true rfl, Nat.le_of_ble_eq_true rfl⟩) ?_
      refine lv_goto (tgt := 46) hx hb dX5_reaches_35 (by decide) ?_
      refine lv_istore_n (lv' := [(2, .int (zI (zWlow A xi 0))), (0, .ref ((o 0) 0)), (1, .int (zI xi))]) hx hb dX5_reaches_46 rfl hl (by decide) rfl (fun ls hl => ?_)
      refine lv_iload_n hx hb dX5_reaches_47 rfl (lv_at hl 0 rfl) ?_
      refine zr_ldc (n := 1000000) hx hb hown (hts (.constant RX5 167 (1000000)) (List.mem_of_getElem? (i := 6) rfl)) rfl dX5_reaches_48 ?_
      refine zr_icmp_le (tgt := 57) hx hb dX5_reaches_50 (by decide) (by omega) (by decide) (fun c4 => ?_) (fun c4 => ?_)
      · refine lv_iload_n hx hb dX5_reaches_57 rfl (lv_at hl 0 rfl) ?_
        exact W.iret hx hb hr (fun t ht hW => ⟨_, rfl, (congrArg zI (show zWlow A xi 0 = zRe A xi from by unfold zRe zRwt; first | (rw [if_pos (show xi < 0 by omega)]; (first | (rw [if_pos (by omega)]; done) | (rw [if_neg (by omega)]; done))) | (rw [if_neg (show ¬ xi < 0 by omega)]; (first | (rw [if_pos (by omega)]; done) | (rw [if_neg (by omega)]; done))))), ht⟩) (fun q hq => absurd hq List.not_mem_nil) dX5_reaches_58
      · refine zr_iconst hx hb dX5_reaches_53 ?_
        refine lv_goto (tgt := 58) hx hb dX5_reaches_54 (by decide) ?_
        exact W.iret hx hb hr (fun t ht hW => ⟨_, rfl, (congrArg zI (show (-1) = zRe A xi from by unfold zRe zRwt; first | (rw [if_pos (show xi < 0 by omega)]; (first | (rw [if_pos (by omega)]; done) | (rw [if_neg (by omega)]; done))) | (rw [if_neg (show ¬ xi < 0 by omega)]; (first | (rw [if_pos (by omega)]; done) | (rw [if_neg (by omega)]; done))))), ht⟩) (fun q hq => absurd hq List.not_mem_nil) dX5_reaches_58
  · exfalso; first | omega | (simp only [and_true, true_and] at c1; omega) | exact c1.2.elim
set_option maxHeartbeats 4000000 in
set_option maxRecDepth 100000 in
theorem met_X5_reaches_x (l : Launch) (hfl : l.stackTraces = false) (D : va_G) (cs : Nat → ClassId) (o : Nat → Nat → Nat) (A : Int → Int) (xi : Int) (rxi : -2147483648 ≤ xi ∧ xi ≤ 2147483647) (kno : ¬ ((-50000 ≤ xi ∧ xi ≤ 50000) ∧ xi ≠ 0)) : vx_Met l yX5_reaches wsX5_reaches ({ frames := 7, cells := 1, slots := 6, locals := 104 }) (va_Pc [.ref ((o 0) 0), .int (zI xi)] (zPreX D (zTy cs) ([((o 0) 0, .inr (5, [.ref ((o 1) 0), .ref ((o 2) 0), .ref ((o 3) 0), .ref ((o 8) 0)]))] ++ zbat cs (o 1) A))) zQXi (zXC "java/lang/IllegalArgumentException") 1 6 (fun _ => False) := by
  refine vx_ofW (cc := cX5_reaches) (maxL := 3) (ret := (some .int)) (by decide +kernel) rfl ?_
  intro p e s m args below meth c s₁ B hml hnx hv
  obtain ⟨rfl, ⟨hP, hK, hD0, hN⟩, hX⟩ := hv
  have hx := B.exec
  have hb := B.bytes
  have hr := B.returns
  have hts := atoms_spec (ws := wsX5_reaches) B.pre
  have hown : s.vm.findClass RX5 = some m.cls := findClass_of_methodNamed B.named
  have hlocks := B.notSynchronized
  have hX : zXF s s.heap := hX
  have hS : va_S (fun _ => False) s.heap s.heap [] := va_S.rf
  have hD := hD0
  have hl := lv_entry ([.ref ((o 0) 0), .int (zI xi)]) (n := 3) (Nat.le_of_ble_eq_true rfl)
  rw [lg_entry_eq]
  generalize (lg_sl ([.ref ((o 0) 0), .int (zI xi)]) ++ List.replicate (3 - (lg_sl ([.ref ((o 0) 0), .int (zI xi)])).length) Slot.unset).toArray = ls at hl ⊢
  have hl : lv_has ls 3 [(0, .ref ((o 0) 0)), (1, .int (zI xi))] := hl
  refine lv_iload_n hx hb dX5_reaches_0 rfl (lv_at hl 1 rfl) ?_
  refine zr_ldc (n := (-50000)) hx hb hown (hts (.constant RX5 165 (-50000)) (List.mem_of_getElem? (i := 3) rfl)) rfl dX5_reaches_1 ?_
  refine zr_ldc (n := 50000) hx hb hown (hts (.constant RX5 166 (50000)) (List.mem_of_getElem? (i := 4) rfl)) rfl dX5_reaches_3 ?_
  by_cases r1 : (-50000 : Int) ≤ xi ∧ xi ≤ (50000 : Int)
  rotate_left
  · exact zc_xv (vx_runS (As := [.int (zI xi), .int (zI (-50000)), .int (zI 50000)]) (rest := []) ⟨hx, hb, hml, hown, hts⟩ (met_X5_requireWithin_x l hfl xi (-50000) 50000 (by omega) (by decide) (by decide) r1) (va_cwS 3 hts gX5_reaches_X5_requireWithin rfl rfl rfl (by decide +kernel) ⟨(Nat.le_of_ble_eq_true rfl), (Nat.le_of_ble_eq_true rfl)⟩) ⟨zPreY.blind, fun U hU hW => zp_Y hX hU hW⟩ rfl rfl hl.1 rfl (lv_room ((Nat.le_of_ble_eq_true rfl))) dX5_reaches_5 ⟨(Nat.le_of_ble_eq_true rfl), (Nat.le_of_ble_eq_true rfl)⟩) hnx hlocks hS (Nat.le_of_ble_eq_true rfl) (Nat.le_of_ble_eq_true rfl)
  refine zc_rv (va_runS (As := [.int (zI xi), .int (zI (-50000)), .int (zI 50000)]) (rest := []) ⟨hx, hb, hml, hown, hts⟩ (met_X5_requireWithin_ok l xi (-50000) 50000 (by omega) (by decide) (by decide) r1) (va_cwS 3 hts gX5_reaches_X5_requireWithin rfl rfl rfl (by decide +kernel) ⟨(Nat.le_of_ble_eq_true rfl), (Nat.le_of_ble_eq_true rfl)⟩) ⟨zTrue.blind, fun U hU hW => ⟨rfl, trivial⟩⟩ rfl rfl hl.1 rfl (lv_room ((Nat.le_of_ble_eq_true rfl))) dX5_reaches_5 ⟨(Nat.le_of_ble_eq_true rfl), (Nat.le_of_ble_eq_true rfl)⟩) ?_
  refine lv_iload_n hx hb dX5_reaches_8 rfl (lv_at hl 1 rfl) ?_
  refine zr_if_ne (tgt := 22) hx hb dX5_reaches_9 (by decide) (by omega) (fun c2 => ?_) (fun c2 => ?_)
  · exfalso; first | omega | (simp only [and_true, true_and] at c2; omega) | exact c2.2.elim
  · obtain ⟨sa9, hstr9⟩ := hX.1.2 (175, "the current is 0") (by decide +kernel)
    exact vx_throwS (pc := 12) (own := RX5) (cls := "java/lang/IllegalArgumentException") (text := "the current is 0") (names := ["java/lang/RuntimeException", "java/lang/Exception"]) (ik := 88) (is := 175) (ic := 92) (mc := 1) (ms := 6) hx hb hfl hown (by decide +kernel) (by decide +kernel) (hts (.classLink RX5 88 "java/lang/IllegalArgumentException") (List.mem_of_getElem? (i := 1) rfl)) (hts (.initialized "java/lang/IllegalArgumentException") (List.mem_of_getElem? (i := 2) rfl)) hstr9 (vx_hat (B := zXw) (fun w hw => hts w ((show ∀ w ∈ (vx_atS RX5 92 "java/lang/IllegalArgumentException" ["java/lang/RuntimeException", "java/lang/Exception"]).filter goodWord, w ∈ wsX5_reaches by decide +kernel) w hw)) (by decide +kernel) (fun w hw => va_Nw.use (zXb_t (List.all_eq_true.mp zXw_b w hw)) (hX.1.1 w hw))) (by decide +kernel) hX.2.1.1 hX.2.1.2 hS (hl.1.trans hml.symm) dX5_reaches_12 dX5_reaches_15 dX5_reaches_16 dX5_reaches_18 dX5_reaches_21 (fun x hx => (hnx x hx).elim) (by decide) (Nat.le_of_ble_eq_true rfl) (Nat.le_of_ble_eq_true rfl) (Nat.le_of_ble_eq_true rfl) hlocks (fun t hvm hz hk => ⟨(), trivial, rfl, hz, fun q h _ => hk q h⟩) (fun z hz => by cases hz) (Nat.le_of_ble_eq_true rfl) (Nat.le_of_ble_eq_true rfl)
set_option maxHeartbeats 4000000 in
set_option maxRecDepth 100000 in
theorem met_X5_lasts_ok (l : Launch) (D : va_G) (cs : Nat → ClassId) (o : Nat → Nat → Nat) (A : Int → Int) (n : Int) (xi : Int) (xr : Int) (hI : zOK n A) (hn : 0 ≤ n ∧ n ≤ 3100000) (rxi : -2147483648 ≤ xi ∧ xi ≤ 2147483647) (rxr : -2147483648 ≤ xr ∧ xr ≤ 2147483647) (kok : (-50000 ≤ xi ∧ xi ≤ -1) ∧ 0 ≤ xr ∧ xr ≤ 10000) : Met l yX5_lasts wsX5_lasts ({ frames := 4, cells := 0, slots := 0, locals := 91 }) (va_Pc [.ref ((o 0) 0), .int (zI xi), .int (zI xr)] (zPre D (zTy cs) ([((o 0) 0, .inr (5, [.ref ((o 1) 0), .ref ((o 2) 0), .ref ((o 3) 0), .ref ((o 8) 0)]))] ++ zbat cs (o 1) A))) (zRi (zI (zLa A xi xr))) 0 0 (fun _ => False) := by
  refine Met.ofW (cc := cX5_lasts) (maxL := 5) (ret := (some .int)) (by decide) rfl ?_
  intro p e s m args below meth c s₁ B hml hv
  obtain ⟨rfl, hP, hK, hD0, hN⟩ := hv
  have hx := B.exec
  have hb := B.bytes
  have hr := B.returns
  have hts := atoms_spec (ws := wsX5_lasts) B.pre
  have hown : s.vm.findClass RX5 = some m.cls := findClass_of_methodNamed B.named
  have hlocks := B.notSynchronized
  have hD := hD0
  have hl := lv_entry ([.ref ((o 0) 0), .int (zI xi), .int (zI xr)]) (n := 5) (Nat.le_of_ble_eq_true rfl)
  rw [lg_entry_eq]
  generalize (lg_sl ([.ref ((o 0) 0), .int (zI xi), .int (zI xr)]) ++ List.replicate (5 - (lg_sl ([.ref ((o 0) 0), .int (zI xi), .int (zI xr)])).length) Slot.unset).toArray = ls at hl ⊢
  have hl : lv_has ls 5 [(0, .ref ((o 0) 0)), (1, .int (zI xi)), (2, .int (zI xr))] := hl
  have hiX1 : ∀ w ∈ wsX10, w ∈ wsX5_lasts := by decide +kernel
  have hiX5 : ∀ w ∈ wsX50, w ∈ wsX5_lasts := by decide +kernel
  have hC := zOK_C hI
  have hd9 := zdv_b (C := A 37) (s := xr) (by omega) kok.2
  have hw1 := zWlow_r A xi (A 37 * xr / 10000 - 1)
  have qq := (zOK_q hI).2.2.2.1
  refine lv_iload_n hx hb dX5_lasts_0 rfl (lv_at hl 1 rfl) ?_
  refine zr_ldc (n := (-50000)) hx hb hown (hts (.constant RX5 165 (-50000)) (List.mem_of_getElem? (i := 1) rfl)) rfl dX5_lasts_1 ?_
  refine zr_iconst hx hb dX5_lasts_3 ?_
  refine zc_rv (va_runS (As := [.int (zI xi), .int (zI (-50000)), .int (zI (-1))]) (rest := []) ⟨hx, hb, hml, hown, hts⟩ (met_X5_requireWithin_ok l xi (-50000) (-1) (by omega) (by decide) (by decide) (by first | assumption | omega)) (va_cwS 3 hts gX5_lasts_X5_requireWithin rfl rfl rfl (by decide +kernel) ⟨(Nat.le_of_ble_eq_true rfl), (Nat.le_of_ble_eq_true rfl)⟩) ⟨zTrue.blind, fun U hU hW => ⟨rfl, trivial⟩⟩ rfl rfl hl.1 rfl (lv_room ((Nat.le_of_ble_eq_true rfl))) dX5_lasts_4 ⟨(Nat.le_of_ble_eq_true rfl), (Nat.le_of_ble_eq_true rfl)⟩) ?_
  refine lv_iload_n hx hb dX5_lasts_7 rfl (lv_at hl 2 rfl) ?_
  refine zr_iconst hx hb dX5_lasts_8 ?_
  refine zr_sipush hx hb dX5_lasts_9 (by decide) ?_
  refine zc_rv (va_runS (As := [.int (zI xr), .int (zI 0), .int (zI 10000)]) (rest := []) ⟨hx, hb, hml, hown, hts⟩ (met_X5_requireWithin_ok l xr 0 10000 (by omega) (by decide) (by decide) (by first | assumption | omega)) (va_cwS 3 hts gX5_lasts_X5_requireWithin rfl rfl rfl (by decide +kernel) ⟨(Nat.le_of_ble_eq_true rfl), (Nat.le_of_ble_eq_true rfl)⟩) ⟨zTrue.blind, fun U hU hW => ⟨rfl, trivial⟩⟩ rfl rfl hl.1 rfl (lv_room ((Nat.le_of_ble_eq_true rfl))) dX5_lasts_12 ⟨(Nat.le_of_ble_eq_true rfl), (Nat.le_of_ble_eq_true rfl)⟩) ?_
  refine lv_aload_n hx hb dX5_lasts_15 rfl (lv_at hl 0 rfl) ?_
  refine va_get (D := D) (ci := 5) (v := .ref ((o 1) 0)) (C := RX5) (T := TX5) (N := 4) hx hb hts hiX5 hown hK hP 0 rfl rfl 0 (by decide) (hts (.fieldLink RX5 10 "ChargeEstimator" "battery" "LChargeEstimator$Battery;") (List.mem_of_getElem? (i := 2) rfl)) (fun _ h9 => h9) rfl dX5_lasts_16 ?_
  refine lv_iload_n hx hb dX5_lasts_19 rfl (lv_at hl 2 rfl) ?_
  refine zc_rl (va_runV (As := [.int (zI xr)]) (rest := []) ⟨hx, hb, hml, hown, hts⟩ (met_X1_chargeAt l D cs (o 1) _ A xr (by assumption) (by assumption) (by first | assumption | omega)) (cwV 1 hts gX5_lasts_X1_chargeAt rfl rfl rfl (by decide +kernel) ⟨Nat.le_of_ble_eq_true rfl, Nat.le_of_ble_eq_true rfl⟩) ⟨zPre.blind, va_recv hK hP (ci := 1) (q0 := 1) rfl rfl, fun U hU hW => zp_R (hP.sub (ws' := zbat cs (o 1) A) [1, 2, 3, 4, 5, 6, 7] rfl) hK (hD.sub (ws' := zbat cs (o 1) A) [1, 2, 3, 4, 5, 6, 7] (by decide) rfl) hN hU hW⟩ rfl rfl hl.1 rfl (lv_room (Nat.le_of_ble_eq_true rfl)) dX5_lasts_20 ⟨Nat.le_of_ble_eq_true rfl, Nat.le_of_ble_eq_true rfl⟩) ?_
  refine lv_lstore_n (lv' := [(3, .long (zL (A 37 * xr / 10000))), (0, .ref ((o 0) 0)), (1, .int (zI xi)), (2, .int (zI xr))]) hx hb dX5_lasts_23 rfl hl (by decide) rfl (fun ls hl => ?_)
  refine lv_aload_n hx hb dX5_lasts_24 rfl (lv_at hl 1 rfl) ?_
  refine va_get (D := D) (ci := 5) (v := .ref ((o 1) 0)) (C := RX5) (T := TX5) (N := 4) hx hb hts hiX5 hown hK hP 0 rfl rfl 0 (by decide) (hts (.fieldLink RX5 10 "ChargeEstimator" "battery" "LChargeEstimator$Battery;") (List.mem_of_getElem? (i := 2) rfl)) (fun _ h9 => h9) rfl dX5_lasts_25 ?_
  refine va_getN (D := D) (ci := 1) (v := .long (zL (A 35))) (C := RX1) (T := TX1) (N := 18) hx hb hts hiX1 hown hK hP 1 rfl rfl 6 (by decide) (va_Nw.use rfl (zn_RX5_187 hN)) (fun _ h9 => h9) rfl dX5_lasts_28 ?_
  refine lv_lload_n hx hb dX5_lasts_31 rfl (lv_at hl 0 rfl) ?_
  refine zr_lcmp_ge (tgt := 38) hx hb dX5_lasts_32 dX5_lasts_33 (by decide) (by omega) (by omega) (fun c1 => ?_) (fun c1 => ?_)
  · refine lv_aload_n hx hb dX5_lasts_38 rfl (lv_at hl 1 rfl) ?_
    refine va_get (D := D) (ci := 5) (v := .ref ((o 1) 0)) (C := RX5) (T := TX5) (N := 4) hx hb hts hiX5 hown hK hP 0 rfl rfl 0 (by decide) (hts (.fieldLink RX5 10 "ChargeEstimator" "battery" "LChargeEstimator$Battery;") (List.mem_of_getElem? (i := 2) rfl)) (fun _ h9 => h9) rfl dX5_lasts_39 ?_
    refine lv_iload_n hx hb dX5_lasts_42 rfl (lv_at hl 2 rfl) ?_
    refine lv_lload_n hx hb dX5_lasts_43 rfl (lv_at hl 0 rfl) ?_
    refine zr_lconst1 hx hb dX5_lasts_44 ?_
    refine zr_lsub hx hb dX5_lasts_45 ?_
    refine zc_ri (va_runV (As := [.int (zI xi), .long (zL ((A 37 * xr / 10000) - 1))]) (rest := []) ⟨hx, hb, hml, hown, hts⟩ (met_X1_whenLowAtMost l D cs (o 1) _ A xi ((A 37 * xr / 10000) - 1) (by assumption) (by assumption) (by first | assumption | omega) (by first | assumption | omega)) (cwV 2 hts gX5_lasts_X1_whenLowAtMost rfl rfl rfl (by decide +kernel) ⟨Nat.le_of_ble_eq_true rfl, Nat.le_of_ble_eq_true rfl⟩) ⟨zPre.blind, va_recv hK hP (ci := 1) (q0 := 1) rfl rfl, fun U hU hW => zp_R (hP.sub (ws' := zbat cs (o 1) A) [1, 2, 3, 4, 5, 6, 7] rfl) hK (hD.sub (ws' := zbat cs (o 1) A) [1, 2, 3, 4, 5, 6, 7] (by decide) rfl) hN hU hW⟩ rfl rfl hl.1 rfl (lv_room (Nat.le_of_ble_eq_true rfl)) dX5_lasts_46 ⟨Nat.le_of_ble_eq_true rfl, Nat.le_of_ble_eq_true rfl⟩) ?_
    refine zr_iconst hx hb dX5_lasts_49 ?_
    refine zr_isub hx hb dX5_lasts_50 ?_
    exact W.iret hx hb hr (fun t ht hW => ⟨_, rfl, (congrArg zI (show (zWlow A xi ((A 37 * xr / 10000) - 1)) - 1 = zLa A xi xr from by unfold zLa; first | rfl | (rw [zWlow_0 hI (by omega)]; rfl))), ht⟩) (fun q hq => absurd hq List.not_mem_nil) dX5_lasts_51
  · refine zr_iconst hx hb dX5_lasts_36 ?_
    exact W.iret hx hb hr (fun t ht hW => ⟨_, rfl, (congrArg zI (show (-1) = zLa A xi xr from by unfold zLa; first | rfl | (rw [zWlow_0 hI (by omega)]; rfl))), ht⟩) (fun q hq => absurd hq List.not_mem_nil) dX5_lasts_37
set_option maxHeartbeats 4000000 in
set_option maxRecDepth 100000 in
theorem met_X5_lasts_x (l : Launch) (hfl : l.stackTraces = false) (D : va_G) (cs : Nat → ClassId) (o : Nat → Nat → Nat) (A : Int → Int) (xi : Int) (xr : Int) (rxi : -2147483648 ≤ xi ∧ xi ≤ 2147483647) (rxr : -2147483648 ≤ xr ∧ xr ≤ 2147483647) (kno : ¬ ((-50000 ≤ xi ∧ xi ≤ -1) ∧ 0 ≤ xr ∧ xr ≤ 10000)) : vx_Met l yX5_lasts wsX5_lasts ({ frames := 7, cells := 1, slots := 6, locals := 104 }) (va_Pc [.ref ((o 0) 0), .int (zI xi), .int (zI xr)] (zPreX D (zTy cs) ([((o 0) 0, .inr (5, [.ref ((o 1) 0), .ref ((o 2) 0), .ref ((o 3) 0), .ref ((o 8) 0)]))] ++ zbat cs (o 1) A))) zQXi (zXC "java/lang/IllegalArgumentException") 1 6 (fun _ => False) := by
  refine vx_ofW (cc := cX5_lasts) (maxL := 5) (ret := (some .int)) (by decide +kernel) rfl ?_
  intro p e s m args below meth c s₁ B hml hnx hv
  obtain ⟨rfl, ⟨hP, hK, hD0, hN⟩, hX⟩ := hv
  have hx := B.exec
  have hb := B.bytes
  have hr := B.returns
  have hts := atoms_spec (ws := wsX5_lasts) B.pre
  have hown : s.vm.findClass RX5 = some m.cls := findClass_of_methodNamed B.named
  have hlocks := B.notSynchronized
  have hX : zXF s s.heap := hX
  have hS : va_S (fun _ => False) s.heap s.heap [] := va_S.rf
  have hD := hD0
  have hl := lv_entry ([.ref ((o 0) 0), .int (zI xi), .int (zI xr)]) (n := 5) (Nat.le_of_ble_eq_true rfl)
  rw [lg_entry_eq]
  generalize (lg_sl ([.ref ((o 0) 0), .int (zI xi), .int (zI xr)]) ++ List.replicate (5 - (lg_sl ([.ref ((o 0) 0), .int (zI xi), .int (zI xr)])).length) Slot.unset).toArray = ls at hl ⊢
  have hl : lv_has ls 5 [(0, .ref ((o 0) 0)), (1, .int (zI xi)), (2, .int (zI xr))] := hl
  refine lv_iload_n hx hb dX5_lasts_0 rfl (lv_at hl 1 rfl) ?_
  refine zr_ldc (n := (-50000)) hx hb hown (hts (.constant RX5 165 (-50000)) (List.mem_of_getElem? (i := 1) rfl)) rfl dX5_lasts_1 ?_
  refine zr_iconst hx hb dX5_lasts_3 ?_
  by_cases r1 : (-50000 : Int) ≤ xi ∧ xi ≤ (-1 : Int)
  rotate_left
  · exact zc_xv (vx_runS (As := [.int (zI xi), .int (zI (-50000)), .int (zI (-1))]) (rest := []) ⟨hx, hb, hml, hown, hts⟩ (met_X5_requireWithin_x l hfl xi (-50000) (-1) (by omega) (by decide) (by decide) r1) (va_cwS 3 hts gX5_lasts_X5_requireWithin rfl rfl rfl (by decide +kernel) ⟨(Nat.le_of_ble_eq_true rfl), (Nat.le_of_ble_eq_true rfl)⟩) ⟨zPreY.blind, fun U hU hW => zp_Y hX hU hW⟩ rfl rfl hl.1 rfl (lv_room ((Nat.le_of_ble_eq_true rfl))) dX5_lasts_4 ⟨(Nat.le_of_ble_eq_true rfl), (Nat.le_of_ble_eq_true rfl)⟩) hnx hlocks hS (Nat.le_of_ble_eq_true rfl) (Nat.le_of_ble_eq_true rfl)
  refine zc_rv (va_runS (As := [.int (zI xi), .int (zI (-50000)), .int (zI (-1))]) (rest := []) ⟨hx, hb, hml, hown, hts⟩ (met_X5_requireWithin_ok l xi (-50000) (-1) (by omega) (by decide) (by decide) r1) (va_cwS 3 hts gX5_lasts_X5_requireWithin rfl rfl rfl (by decide +kernel) ⟨(Nat.le_of_ble_eq_true rfl), (Nat.le_of_ble_eq_true rfl)⟩) ⟨zTrue.blind, fun U hU hW => ⟨rfl, trivial⟩⟩ rfl rfl hl.1 rfl (lv_room ((Nat.le_of_ble_eq_true rfl))) dX5_lasts_4 ⟨(Nat.le_of_ble_eq_true rfl), (Nat.le_of_ble_eq_true rfl)⟩) ?_
  refine lv_iload_n hx hb dX5_lasts_7 rfl (lv_at hl 2 rfl) ?_
  refine zr_iconst hx hb dX5_lasts_8 ?_
  refine zr_sipush hx hb dX5_lasts_9 (by decide) ?_
  by_cases r2 : (0 : Int) ≤ xr ∧ xr ≤ (10000 : Int)
  rotate_left
  · exact zc_xv (vx_runS (As := [.int (zI xr), .int (zI 0), .int (zI 10000)]) (rest := []) ⟨hx, hb, hml, hown, hts⟩ (met_X5_requireWithin_x l hfl xr 0 10000 (by omega) (by decide) (by decide) r2) (va_cwS 3 hts gX5_lasts_X5_requireWithin rfl rfl rfl (by decide +kernel) ⟨(Nat.le_of_ble_eq_true rfl), (Nat.le_of_ble_eq_true rfl)⟩) ⟨zPreY.blind, fun U hU hW => zp_Y hX hU hW⟩ rfl rfl hl.1 rfl (lv_room ((Nat.le_of_ble_eq_true rfl))) dX5_lasts_12 ⟨(Nat.le_of_ble_eq_true rfl), (Nat.le_of_ble_eq_true rfl)⟩) hnx hlocks hS (Nat.le_of_ble_eq_true rfl) (Nat.le_of_ble_eq_true rfl)
  refine zc_rv (va_runS (As := [.int (zI xr), .int (zI 0), .int (zI 10000)]) (rest := []) ⟨hx, hb, hml, hown, hts⟩ (met_X5_requireWithin_ok l xr 0 10000 (by omega) (by decide) (by decide) r2) (va_cwS 3 hts gX5_lasts_X5_requireWithin rfl rfl rfl (by decide +kernel) ⟨(Nat.le_of_ble_eq_true rfl), (Nat.le_of_ble_eq_true rfl)⟩) ⟨zTrue.blind, fun U hU hW => ⟨rfl, trivial⟩⟩ rfl rfl hl.1 rfl (lv_room ((Nat.le_of_ble_eq_true rfl))) dX5_lasts_12 ⟨(Nat.le_of_ble_eq_true rfl), (Nat.le_of_ble_eq_true rfl)⟩) ?_
  exfalso; first | omega | (simp only [and_true, true_and] at hx; omega) | exact hx.2.elim
