/-! the battery: states of charge, settings, predictions -/
theorem zbp_lvn {D : va_G} {cs : Nat → ClassId} {q : Nat → Nat} {A : Int → Int} {H : Heap} (h : va_P D vwCl ((zbat cs q A).set 0 (q 0, .inr (1, (List.set [.ref (q 1), .ref (q 2), .ref (q 5), .long (zL (A 38)), .long (zL (A 37)), .long (zL (A 34)), .long (zL (A 35)), .long (zL (A 36)), .long (zL (A 39)), .long (zL (A 41)), .long (zL (A 40)), .int (zI (A 42)), .int (zI (A 43)), .int (zI (A 44)), .int (zI (A 50)), .int (zI (A 51)), .int (zI (zlv A)), .int (zI (A 47))] 16 (.int (zI (-1))))))) H) : va_P D vwCl (zbat cs q (zU A 45 0)) H := by
  obtain ⟨h0, h1, h2, h3, h4, h5, h6⟩ := zP7.mp h
  exact zP7.mpr ⟨h0, zat_i h1 (fun k a b => by rw [zU_ne _ _ (by omega)]), h2, zat_i h3 (fun k a b => by simp only [zO]; rw [zU_ne _ _ (by omega)]), zat_i h4 (fun k a b => by simp only [zO]; rw [zU_ne _ _ (by omega)]), h5, zat_i h6 (fun k a b => by simp only [zO]; rw [zU_ne _ _ (by omega)])⟩
def zStt (A : Int → Int) (w : Int) : Int := if w = 0 then A 43 else if w = 1 then A 44 else if w = 2 then zHys A else if w = 3 then A 50 else if w = 4 then A 51 else A 42
def zMod (A : Int → Int) (i r : Int) : Int := zclamp (zV A (A 34 * 10000 / A 37) (zHys A) + i * r / 1000) 0 6000
def zSet (A : Int → Int) (w v : Int) : Int → Int := zU (zU A w v) 39 (min (A 39) (zRng (zU A w v)))
def zAtS (A : Int → Int) (s : Int) : Int → Int := zU (zU (zU A 34 (A 37 * s / 10000)) 35 (A 37 * s / 10000)) 36 (A 37 * s / 10000)
def zZer (A : Int → Int) : Int → Int := fun k => if 34 ≤ k ∧ k ≤ 52 then 0 else A k
def zNew (A : Int → Int) (N : Int) : Int → Int := zU (zU (zU (zU (zU (zZer A) 38 N) 37 N) 34 (N / 2)) 35 0) 36 N
def zPut (A : Int → Int) (k l u : Int) : Int → Int := zU (zU A (12 + k) l) (23 + k) u
theorem zsoc_r {n : Int} {A : Int → Int} (h : zOK n A) {x : Int} (hx : 0 ≤ x ∧ x ≤ A 37) : 0 ≤ x * 10000 / A 37 ∧ x * 10000 / A 37 ≤ 10000 := by
  have hC := zOK_C h
  constructor
  · exact Int.ediv_nonneg (by omega) (by omega)
  · have : x * 10000 / A 37 ≤ A 37 * 10000 / A 37 := Int.ediv_le_ediv (by omega) (by omega)
    rw [Int.mul_ediv_cancel_left _ (by omega)] at this
    exact this
set_option maxHeartbeats 4000000 in
set_option maxRecDepth 100000 in
theorem met_X1_chargeOf (l : Launch) (D : va_G) (cs : Nat → ClassId) (q : Nat → Nat) (n : Int) (A : Int → Int) (xw : Int) (kxw : 0 ≤ xw ∧ xw ≤ 6) : Met l yX1_chargeOf wsX1_chargeOf ({ frames := 0, cells := 0, slots := 0, locals := 0 }) (va_Pc [.ref (q 0), .int (zI xw)] (zPre D (zTy cs) (zbat cs q A))) (zRl (zL (A (34 + xw)))) 0 0 (fun _ => False) := by
  refine Met.ofW (cc := cX1_chargeOf) (maxL := 2) (ret := (some .long)) (by decide) rfl ?_
  intro p e s m args below meth c s₁ B hml hv
  obtain ⟨rfl, hP, hK, hD0, hN⟩ := hv
  have hx := B.exec
  have hb := B.bytes
  have hr := B.returns
  have hts := atoms_spec (ws := wsX1_chargeOf) B.pre
  have hown : s.vm.findClass RX1 = some m.cls := findClass_of_methodNamed B.named
  have hlocks := B.notSynchronized
  have hD := hD0
  have hl := lv_entry ([.ref (q 0), .int (zI xw)]) (n := 2) (Nat.le_of_ble_eq_true rfl)
  rw [lg_entry_eq]
  generalize (lg_sl ([.ref (q 0), .int (zI xw)]) ++ List.replicate (2 - (lg_sl ([.ref (q 0), .int (zI xw)])).length) Slot.unset).toArray = ls at hl ⊢
  have hl : lv_has ls 2 [(0, .ref (q 0)), (1, .int (zI xw))] := hl
  have hiX1 : ∀ w ∈ wsX10, w ∈ wsX1_chargeOf := by decide +kernel
  refine lv_iload_n hx hb dX1_chargeOf_0 rfl (lv_at hl 1 rfl) ?_
  rcases (show xw = 0 ∨ xw = 1 ∨ xw = 2 ∨ xw = 3 ∨ xw = 4 ∨ xw = 5 ∨ (xw < 0 ∨ 5 < xw) by omega) with c1 | c1 | c1 | c1 | c1 | c1 | c1
  · refine zr_tsIn (tgt := 40) (off := 39) hx hb dX1_chargeOf_1 c1 (by decide) (by decide) (by decide) rfl (by decide) ?_
    refine lv_aload_n hx hb dX1_chargeOf_40 rfl (lv_at hl 0 rfl) ?_
    refine va_get (D := D) (ci := 1) (v := .long (zL (A 34))) (C := RX1) (T := TX1) (N := 18) hx hb hts hiX1 hown hK hP 0 rfl rfl 5 (by decide) (hts (.fieldLink RX1 53 "ChargeEstimator$Battery" "estimate" "J") (List.mem_of_getElem? (i := 1) rfl)) (fun _ h9 => h9) rfl dX1_chargeOf_41 ?_
    exact W.lret hx hb hr (fun t ht hW => ⟨_, rfl, (congrArg zL (show A 34 = A (34 + xw) from by congr 1; omega)), ht⟩) (fun q hq => absurd hq List.not_mem_nil) dX1_chargeOf_44
  · refine zr_tsIn (tgt := 45) (off := 44) hx hb dX1_chargeOf_1 c1 (by decide) (by decide) (by decide) rfl (by decide) ?_
    refine lv_aload_n hx hb dX1_chargeOf_45 rfl (lv_at hl 0 rfl) ?_
    refine va_get (D := D) (ci := 1) (v := .long (zL (A 35))) (C := RX1) (T := TX1) (N := 18) hx hb hts hiX1 hown hK hP 0 rfl rfl 6 (by decide) (hts (.fieldLink RX1 56 "ChargeEstimator$Battery" "low" "J") (List.mem_of_getElem? (i := 2) rfl)) (fun _ h9 => h9) rfl dX1_chargeOf_46 ?_
    exact W.lret hx hb hr (fun t ht hW => ⟨_, rfl, (congrArg zL (show A 35 = A (34 + xw) from by congr 1; omega)), ht⟩) (fun q hq => absurd hq List.not_mem_nil) dX1_chargeOf_49
  · refine zr_tsIn (tgt := 50) (off := 49) hx hb dX1_chargeOf_1 c1 (by decide) (by decide) (by decide) rfl (by decide) ?_
    refine lv_aload_n hx hb dX1_chargeOf_50 rfl (lv_at hl 0 rfl) ?_
    refine va_get (D := D) (ci := 1) (v := .long (zL (A 36))) (C := RX1) (T := TX1) (N := 18) hx hb hts hiX1 hown hK hP 0 rfl rfl 7 (by decide) (hts (.fieldLink RX1 59 "ChargeEstimator$Battery" "high" "J") (List.mem_of_getElem? (i := 3) rfl)) (fun _ h9 => h9) rfl dX1_chargeOf_51 ?_
    exact W.lret hx hb hr (fun t ht hW => ⟨_, rfl, (congrArg zL (show A 36 = A (34 + xw) from by congr 1; omega)), ht⟩) (fun q hq => absurd hq List.not_mem_nil) dX1_chargeOf_54
  · refine zr_tsIn (tgt := 55) (off := 54) hx hb dX1_chargeOf_1 c1 (by decide) (by decide) (by decide) rfl (by decide) ?_
    refine lv_aload_n hx hb dX1_chargeOf_55 rfl (lv_at hl 0 rfl) ?_
    refine va_get (D := D) (ci := 1) (v := .long (zL (A 37))) (C := RX1) (T := TX1) (N := 18) hx hb hts hiX1 hown hK hP 0 rfl rfl 4 (by decide) (hts (.fieldLink RX1 48 "ChargeEstimator$Battery" "capacity" "J") (List.mem_of_getElem? (i := 4) rfl)) (fun _ h9 => h9) rfl dX1_chargeOf_56 ?_
    exact W.lret hx hb hr (fun t ht hW => ⟨_, rfl, (congrArg zL (show A 37 = A (34 + xw) from by congr 1; omega)), ht⟩) (fun q hq => absurd hq List.not_mem_nil) dX1_chargeOf_59
  · refine zr_tsIn (tgt := 60) (off := 59) hx hb dX1_chargeOf_1 c1 (by decide) (by decide) (by decide) rfl (by decide) ?_
    refine lv_aload_n hx hb dX1_chargeOf_60 rfl (lv_at hl 0 rfl) ?_
    refine va_get (D := D) (ci := 1) (v := .long (zL (A 38))) (C := RX1) (T := TX1) (N := 18) hx hb hts hiX1 hown hK hP 0 rfl rfl 3 (by decide) (hts (.fieldLink RX1 44 "ChargeEstimator$Battery" "nominal" "J") (List.mem_of_getElem? (i := 5) rfl)) (fun _ h9 => h9) rfl dX1_chargeOf_61 ?_
    exact W.lret hx hb hr (fun t ht hW => ⟨_, rfl, (congrArg zL (show A 38 = A (34 + xw) from by congr 1; omega)), ht⟩) (fun q hq => absurd hq List.not_mem_nil) dX1_chargeOf_64
  · refine zr_tsIn (tgt := 65) (off := 64) hx hb dX1_chargeOf_1 c1 (by decide) (by decide) (by decide) rfl (by decide) ?_
    refine lv_aload_n hx hb dX1_chargeOf_65 rfl (lv_at hl 0 rfl) ?_
    refine va_get (D := D) (ci := 1) (v := .long (zL (A 39))) (C := RX1) (T := TX1) (N := 18) hx hb hts hiX1 hown hK hP 0 rfl rfl 8 (by decide) (hts (.fieldLink RX1 62 "ChargeEstimator$Battery" "hysteresis" "J") (List.mem_of_getElem? (i := 6) rfl)) (fun _ h9 => h9) rfl dX1_chargeOf_66 ?_
    exact W.lret hx hb hr (fun t ht hW => ⟨_, rfl, (congrArg zL (show A 39 = A (34 + xw) from by congr 1; omega)), ht⟩) (fun q hq => absurd hq List.not_mem_nil) dX1_chargeOf_69
  · refine zr_tsOut (tgt := 70) hx hb dX1_chargeOf_1 (by omega) c1 (by decide) ?_
    refine lv_aload_n hx hb dX1_chargeOf_70 rfl (lv_at hl 0 rfl) ?_
    refine va_get (D := D) (ci := 1) (v := .long (zL (A 40))) (C := RX1) (T := TX1) (N := 18) hx hb hts hiX1 hown hK hP 0 rfl rfl 10 (by decide) (hts (.fieldLink RX1 68 "ChargeEstimator$Battery" "counted" "J") (List.mem_of_getElem? (i := 7) rfl)) (fun _ h9 => h9) rfl dX1_chargeOf_71 ?_
    exact W.lret hx hb hr (fun t ht hW => ⟨_, rfl, (congrArg zL (show A 40 = A (34 + xw) from by congr 1; omega)), ht⟩) (fun q hq => absurd hq List.not_mem_nil) dX1_chargeOf_74
set_option maxHeartbeats 4000000 in
set_option maxRecDepth 100000 in
theorem met_X1_statusOf (l : Launch) (D : va_G) (cs : Nat → ClassId) (q : Nat → Nat) (n : Int) (A : Int → Int) (xw : Int) (hI : zOK n A) (hn : 0 ≤ n ∧ n ≤ 3100000) (kxw : 0 ≤ xw ∧ xw ≤ 5) : Met l yX1_statusOf wsX1_statusOf ({ frames := 2, cells := 0, slots := 0, locals := 42 }) (va_Pc [.ref (q 0), .int (zI xw)] (zPre D (zTy cs) (zbat cs q A))) (zRi (zI (zStt A xw))) 0 0 (fun _ => False) := by
  refine Met.ofW (cc := cX1_statusOf) (maxL := 2) (ret := (some .int)) (by decide) rfl ?_
  intro p e s m args below meth c s₁ B hml hv
  obtain ⟨rfl, hP, hK, hD0, hN⟩ := hv
  have hx := B.exec
  have hb := B.bytes
  have hr := B.returns
  have hts := atoms_spec (ws := wsX1_statusOf) B.pre
  have hown : s.vm.findClass RX1 = some m.cls := findClass_of_methodNamed B.named
  have hlocks := B.notSynchronized
  have hD := hD0
  have hl := lv_entry ([.ref (q 0), .int (zI xw)]) (n := 2) (Nat.le_of_ble_eq_true rfl)
  rw [lg_entry_eq]
  generalize (lg_sl ([.ref (q 0), .int (zI xw)]) ++ List.replicate (2 - (lg_sl ([.ref (q 0), .int (zI xw)])).length) Slot.unset).toArray = ls at hl ⊢
  have hl : lv_has ls 2 [(0, .ref (q 0)), (1, .int (zI xw))] := hl
  have hiX1 : ∀ w ∈ wsX10, w ∈ wsX1_statusOf := by decide +kernel
  refine lv_iload_n hx hb dX1_statusOf_0 rfl (lv_at hl 1 rfl) ?_
  rcases (show xw = 0 ∨ xw = 1 ∨ xw = 2 ∨ xw = 3 ∨ xw = 4 ∨ (xw < 0 ∨ 4 < xw) by omega) with c1 | c1 | c1 | c1 | c1 | c1
  · refine zr_tsIn (tgt := 36) (off := 35) hx hb dX1_statusOf_1 c1 (by decide) (by decide) (by decide) rfl (by decide) ?_
    refine lv_aload_n hx hb dX1_statusOf_36 rfl (lv_at hl 0 rfl) ?_
    refine va_get (D := D) (ci := 1) (v := .int (zI (A 43))) (C := RX1) (T := TX1) (N := 18) hx hb hts hiX1 hown hK hP 0 rfl rfl 12 (by decide) (hts (.fieldLink RX1 75 "ChargeEstimator$Battery" "restCounter" "I") (List.mem_of_getElem? (i := 1) rfl)) (fun _ h9 => h9) rfl dX1_statusOf_37 ?_
    exact W.iret hx hb hr (fun t ht hW => ⟨_, rfl, (congrArg zI (show A 43 = zStt A xw from by unfold zStt; (repeat' split) <;> first | rfl | omega)), ht⟩) (fun q hq => absurd hq List.not_mem_nil) dX1_statusOf_40
  · refine zr_tsIn (tgt := 41) (off := 40) hx hb dX1_statusOf_1 c1 (by decide) (by decide) (by decide) rfl (by decide) ?_
    refine lv_aload_n hx hb dX1_statusOf_41 rfl (lv_at hl 0 rfl) ?_
    refine va_get (D := D) (ci := 1) (v := .int (zI (A 44))) (C := RX1) (T := TX1) (N := 18) hx hb hts hiX1 hown hK hP 0 rfl rfl 13 (by decide) (hts (.fieldLink RX1 78 "ChargeEstimator$Battery" "fullCounter" "I") (List.mem_of_getElem? (i := 2) rfl)) (fun _ h9 => h9) rfl dX1_statusOf_42 ?_
    exact W.iret hx hb hr (fun t ht hW => ⟨_, rfl, (congrArg zI (show A 44 = zStt A xw from by unfold zStt; (repeat' split) <;> first | rfl | omega)), ht⟩) (fun q hq => absurd hq List.not_mem_nil) dX1_statusOf_45
  · refine zr_tsIn (tgt := 46) (off := 45) hx hb dX1_statusOf_1 c1 (by decide) (by decide) (by decide) rfl (by decide) ?_
    refine lv_aload_n hx hb dX1_statusOf_46 rfl (lv_at hl 0 rfl) ?_
    refine zc_ri (va_runV (As := []) (rest := []) ⟨hx, hb, hml, hown, hts⟩ (met_X1_hysteresisState l D cs q _ A (by assumption) (by assumption)) (cwV 0 hts gX1_statusOf_X1_hysteresisState rfl rfl rfl (by decide +kernel) ⟨Nat.le_of_ble_eq_true rfl, Nat.le_of_ble_eq_true rfl⟩) ⟨zPre.blind, va_recv hK hP (ci := 1) (q0 := 0) rfl rfl, fun U hU hW => zp_R hP hK hD hN hU hW⟩ rfl rfl hl.1 rfl (lv_room (Nat.le_of_ble_eq_true rfl)) dX1_statusOf_47 ⟨Nat.le_of_ble_eq_true rfl, Nat.le_of_ble_eq_true rfl⟩) ?_
    exact W.iret hx hb hr (fun t ht hW => ⟨_, rfl, (congrArg zI (show zHys A = zStt A xw from by unfold zStt; (repeat' split) <;> first | rfl | omega)), ht⟩) (fun q hq => absurd hq List.not_mem_nil) dX1_statusOf_50
  · refine zr_tsIn (tgt := 51) (off := 50) hx hb dX1_statusOf_1 c1 (by decide) (by decide) (by decide) rfl (by decide) ?_
    refine lv_aload_n hx hb dX1_statusOf_51 rfl (lv_at hl 0 rfl) ?_
    refine va_get (D := D) (ci := 1) (v := .int (zI (A 50))) (C := RX1) (T := TX1) (N := 18) hx hb hts hiX1 hown hK hP 0 rfl rfl 14 (by decide) (hts (.fieldLink RX1 81 "ChargeEstimator$Battery" "conflicts" "I") (List.mem_of_getElem? (i := 3) rfl)) (fun _ h9 => h9) rfl dX1_statusOf_52 ?_
    exact W.iret hx hb hr (fun t ht hW => ⟨_, rfl, (congrArg zI (show A 50 = zStt A xw from by unfold zStt; (repeat' split) <;> first | rfl | omega)), ht⟩) (fun q hq => absurd hq List.not_mem_nil) dX1_statusOf_55
  · refine zr_tsIn (tgt := 56) (off := 55) hx hb dX1_statusOf_1 c1 (by decide) (by decide) (by decide) rfl (by decide) ?_
    refine lv_aload_n hx hb dX1_statusOf_56 rfl (lv_at hl 0 rfl) ?_
    refine va_get (D := D) (ci := 1) (v := .int (zI (A 51))) (C := RX1) (T := TX1) (N := 18) hx hb hts hiX1 hown hK hP 0 rfl rfl 15 (by decide) (hts (.fieldLink RX1 84 "ChargeEstimator$Battery" "learnings" "I") (List.mem_of_getElem? (i := 4) rfl)) (fun _ h9 => h9) rfl dX1_statusOf_57 ?_
    exact W.iret hx hb hr (fun t ht hW => ⟨_, rfl, (congrArg zI (show A 51 = zStt A xw from by unfold zStt; (repeat' split) <;> first | rfl | omega)), ht⟩) (fun q hq => absurd hq List.not_mem_nil) dX1_statusOf_60
  · refine zr_tsOut (tgt := 61) hx hb dX1_statusOf_1 (by omega) c1 (by decide) ?_
    refine lv_aload_n hx hb dX1_statusOf_61 rfl (lv_at hl 0 rfl) ?_
    refine va_get (D := D) (ci := 1) (v := .int (zI (A 42))) (C := RX1) (T := TX1) (N := 18) hx hb hts hiX1 hown hK hP 0 rfl rfl 11 (by decide) (hts (.fieldLink RX1 71 "ChargeEstimator$Battery" "time" "I") (List.mem_of_getElem? (i := 5) rfl)) (fun _ h9 => h9) rfl dX1_statusOf_62 ?_
    exact W.iret hx hb hr (fun t ht hW => ⟨_, rfl, (congrArg zI (show A 42 = zStt A xw from by unfold zStt; (repeat' split) <;> first | rfl | omega)), ht⟩) (fun q hq => absurd hq List.not_mem_nil) dX1_statusOf_65
set_option maxHeartbeats 4000000 in
set_option maxRecDepth 100000 in
theorem met_X1_modelVoltage (l : Launch) (D : va_G) (cs : Nat → ClassId) (q : Nat → Nat) (n : Int) (A : Int → Int) (xi xr : Int) (hI : zOK n A) (hn : 0 ≤ n ∧ n ≤ 3100000) (kxi : -50000 ≤ xi ∧ xi ≤ 50000) (kxr : 0 ≤ xr ∧ xr ≤ 1000) : Met l yX1_modelVoltage wsX1_modelVoltage ({ frames := 3, cells := 0, slots := 0, locals := 59 }) (va_Pc [.ref (q 0), .int (zI xi), .int (zI xr)] (zPre D (zTy cs) (zbat cs q A))) (zRi (zI (zMod A xi xr))) 0 0 (fun _ => False) := by
  refine Met.ofW (cc := cX1_modelVoltage) (maxL := 4) (ret := (some .int)) (by decide) rfl ?_
  intro p e s m args below meth c s₁ B hml hv
  obtain ⟨rfl, hP, hK, hD0, hN⟩ := hv
  have hx := B.exec
  have hb := B.bytes
  have hr := B.returns
  have hts := atoms_spec (ws := wsX1_modelVoltage) B.pre
  have hown : s.vm.findClass RX1 = some m.cls := findClass_of_methodNamed B.named
  have hlocks := B.notSynchronized
  have hD := hD0
  have hl := lv_entry ([.ref (q 0), .int (zI xi), .int (zI xr)]) (n := 4) (Nat.le_of_ble_eq_true rfl)
  rw [lg_entry_eq]
  generalize (lg_sl ([.ref (q 0), .int (zI xi), .int (zI xr)]) ++ List.replicate (4 - (lg_sl ([.ref (q 0), .int (zI xi), .int (zI xr)])).length) Slot.unset).toArray = ls at hl ⊢
  have hl : lv_has ls 4 [(0, .ref (q 0)), (1, .int (zI xi)), (2, .int (zI xr))] := hl
  have hiX1 : ∀ w ∈ wsX10, w ∈ wsX1_modelVoltage := by decide +kernel
  obtain ⟨qN, qC, qQ, qL, qH, q40, q41, q42, q43, q44, q45, q46, q47, q48, q49, q50, q51, q52, qhad, qlast, qrow⟩ := zOK_q hI
  have hC := zOK_C hI
  have hs := zsoc_r hI (x := A 34) (by omega)
  have hh := zHys_r hI
  have hv := zV_r (zOK_c hI) hs hh
  have hm := zmul_s (x := xi) (y := xr) (a := 50000) (b := 1000) (by omega) (by omega)
  refine lv_aload_n hx hb dX1_modelVoltage_0 rfl (lv_at hl 0 rfl) ?_
  refine va_get (D := D) (ci := 1) (v := .ref (q 2)) (C := RX1) (T := TX1) (N := 18) hx hb hts hiX1 hown hK hP 0 rfl rfl 1 (by decide) (hts (.fieldLink RX1 18 "ChargeEstimator$Battery" "curves" "LChargeEstimator$Curves;") (List.mem_of_getElem? (i := 1) rfl)) (fun _ h9 => h9) rfl dX1_modelVoltage_1 ?_
  refine lv_aload_n hx hb dX1_modelVoltage_4 rfl (lv_at hl 0 rfl) ?_
  refine lv_aload_n hx hb dX1_modelVoltage_5 rfl (lv_at hl 0 rfl) ?_
  refine va_get (D := D) (ci := 1) (v := .long (zL (A 34))) (C := RX1) (T := TX1) (N := 18) hx hb hts hiX1 hown hK hP 0 rfl rfl 5 (by decide) (hts (.fieldLink RX1 53 "ChargeEstimator$Battery" "estimate" "J") (List.mem_of_getElem? (i := 2) rfl)) (fun _ h9 => h9) rfl dX1_modelVoltage_6 ?_
  refine zc_ri (va_runV (As := [.long (zL (A 34))]) (rest := [.ref (q 2)]) ⟨hx, hb, hml, hown, hts⟩ (met_X1_socOf l D cs q _ A (A 34) (by assumption) (by assumption) (by first | assumption | omega)) (cwV 1 hts gX1_modelVoltage_X1_socOf rfl rfl rfl (by decide +kernel) ⟨Nat.le_of_ble_eq_true rfl, Nat.le_of_ble_eq_true rfl⟩) ⟨zPre.blind, va_recv hK hP (ci := 1) (q0 := 0) rfl rfl, fun U hU hW => zp_R hP hK hD hN hU hW⟩ rfl rfl hl.1 rfl (lv_room (Nat.le_of_ble_eq_true rfl)) dX1_modelVoltage_9 ⟨Nat.le_of_ble_eq_true rfl, Nat.le_of_ble_eq_true rfl⟩) ?_
  refine lv_aload_n hx hb dX1_modelVoltage_12 rfl (lv_at hl 0 rfl) ?_
  refine zc_ri (va_runV (As := []) (rest := [.int (zI ((A 34) * 10000 / A 37)), .ref (q 2)]) ⟨hx, hb, hml, hown, hts⟩ (met_X1_hysteresisState l D cs q _ A (by assumption) (by assumption)) (cwV 0 hts gX1_modelVoltage_X1_hysteresisState rfl rfl rfl (by decide +kernel) ⟨Nat.le_of_ble_eq_true rfl, Nat.le_of_ble_eq_true rfl⟩) ⟨zPre.blind, va_recv hK hP (ci := 1) (q0 := 0) rfl rfl, fun U hU hW => zp_R hP hK hD hN hU hW⟩ rfl rfl hl.1 rfl (lv_room (Nat.le_of_ble_eq_true rfl)) dX1_modelVoltage_13 ⟨Nat.le_of_ble_eq_true rfl, Nat.le_of_ble_eq_true rfl⟩) ?_
  refine zc_ri (va_runV (As := [.int (zI ((A 34) * 10000 / A 37)), .int (zI (zHys A))]) (rest := []) ⟨hx, hb, hml, hown, hts⟩ (met_X2_voltageAt l D cs q _ A ((A 34) * 10000 / A 37) (zHys A) (by assumption) (by assumption) (by first | assumption | omega) (by first | assumption | omega)) (cwV 2 hts gX1_modelVoltage_X2_voltageAt rfl rfl rfl (by decide +kernel) ⟨Nat.le_of_ble_eq_true rfl, Nat.le_of_ble_eq_true rfl⟩) ⟨zPre.blind, va_recv hK hP (ci := 2) (q0 := 2) rfl rfl, fun U hU hW => zp_R hP hK hD hN hU hW⟩ rfl rfl hl.1 rfl (lv_room (Nat.le_of_ble_eq_true rfl)) dX1_modelVoltage_16 ⟨Nat.le_of_ble_eq_true rfl, Nat.le_of_ble_eq_true rfl⟩) ?_
  refine lv_istore_n (lv' := [(3, .int (zI (zV A ((A 34) * 10000 / A 37) (zHys A)))), (0, .ref (q 0)), (1, .int (zI xi)), (2, .int (zI xr))]) hx hb dX1_modelVoltage_19 rfl hl (by decide) rfl (fun ls hl => ?_)
  refine lv_iload_n hx hb dX1_modelVoltage_20 rfl (lv_at hl 0 rfl) ?_
  refine lv_iload_n hx hb dX1_modelVoltage_21 rfl (lv_at hl 2 rfl) ?_
  refine lv_iload_n hx hb dX1_modelVoltage_22 rfl (lv_at hl 3 rfl) ?_
  refine zr_imul hx hb dX1_modelVoltage_23 ?_
  refine zr_sipush hx hb dX1_modelVoltage_24 (by decide) ?_
  refine zc_ri (va_runS (As := [.int (zI (xi * xr)), .int (zI 1000)]) (rest := [.int (zI (zV A ((A 34) * 10000 / A 37) (zHys A)))]) ⟨hx, hb, hml, hown, hts⟩ (met_J9_floorDiv_7cf53 l (xi * xr) 1000 (by first | assumption | omega) (by first | assumption | omega)) (va_cwS 2 hts gX1_modelVoltage_J9_floorDiv_7cf53 rfl rfl rfl (by decide +kernel) ⟨Nat.le_of_ble_eq_true rfl, Nat.le_of_ble_eq_true rfl⟩) ⟨zTrue.blind, fun U hU hW => ⟨rfl, trivial⟩⟩ rfl rfl hl.1 rfl (lv_room (Nat.le_of_ble_eq_true rfl)) dX1_modelVoltage_27 ⟨Nat.le_of_ble_eq_true rfl, Nat.le_of_ble_eq_true rfl⟩) ?_
  refine zr_iadd hx hb dX1_modelVoltage_30 ?_
  refine zr_i2l hx hb dX1_modelVoltage_31 (by omega) ?_
  refine zr_lconst0 hx hb dX1_modelVoltage_32 ?_
  refine zr_ldc2 (n := 6000) hx hb hown (hts (.constantLong RX1 139 (6000)) (List.mem_of_getElem? (i := 3) rfl)) rfl dX1_modelVoltage_33 ?_
  refine zc_rl (va_runSN (As := [.long (zL ((zV A ((A 34) * 10000 / A 37) (zHys A)) + ((xi * xr) / 1000))), .long (zL 0), .long (zL 6000)]) (rest := []) ⟨hx, hb, hml, hown, hts⟩ (met_X5_clamp l ((zV A ((A 34) * 10000 / A 37) (zHys A)) + ((xi * xr) / 1000)) 0 6000 (by first | assumption | omega) (by first | assumption | omega) (by first | assumption | omega) (by first | assumption | omega)) ⟨va_cnB 3 hts gX1_modelVoltage_X5_clamp_n141 rfl rfl rfl (zn_RX1_141 hN) (hts (.initialized RX5) (List.mem_of_getElem? (i := 45) rfl)) (by decide +kernel) ⟨Nat.le_of_ble_eq_true rfl, Nat.le_of_ble_eq_true rfl⟩, (hts (.static yX5_clamp) (List.mem_of_getElem? (i := 44) rfl)), trivial⟩ ⟨zTrue.blind, fun U hU hW => ⟨rfl, trivial⟩⟩ rfl rfl hl.1 rfl (lv_room (Nat.le_of_ble_eq_true rfl)) dX1_modelVoltage_36 ⟨Nat.le_of_ble_eq_true rfl, Nat.le_of_ble_eq_true rfl⟩) ?_
  refine zr_l2i hx hb dX1_modelVoltage_39 ?_
  exact W.iret hx hb hr (fun t ht hW => ⟨_, rfl, (congrArg zI (show zclamp ((zV A ((A 34) * 10000 / A 37) (zHys A)) + ((xi * xr) / 1000)) 0 6000 = zMod A xi xr from by rfl)), ht⟩) (fun q hq => absurd hq List.not_mem_nil) dX1_modelVoltage_40
set_option maxHeartbeats 4000000 in
set_option maxRecDepth 100000 in
theorem met_X1_startAtSoc (l : Launch) (D : va_G) (cs : Nat → ClassId) (q : Nat → Nat) (sz : Nat) (n : Int) (A : Int → Int) (xs : Int) (hI : zOK n A) (hn : 0 ≤ n ∧ n ≤ 3100000) (kxs : 0 ≤ xs ∧ xs ≤ 10000) : Met l yX1_startAtSoc wsX1_startAtSoc ({ frames := 1, cells := 0, slots := 0, locals := 21 }) (va_Pc [.ref (q 0), .int (zI xs)] (zPreZ D (zTy cs) (zbat cs q A) sz)) (zQv D (zbat cs q A) sz (zbat cs q (zAtS A xs))) 0 0 (va_A (zbat cs q A) sz) := by
  refine Met.ofW (cc := cX1_startAtSoc) (maxL := 2) (ret := none) (by decide) rfl ?_
  intro p e s m args below meth c s₁ B hml hv
  obtain ⟨rfl, hsz, hP, hK, hD0, hN⟩ := hv
  have hx := B.exec
  have hb := B.bytes
  have hr := B.returns
  have hts := atoms_spec (ws := wsX1_startAtSoc) B.pre
  have hown : s.vm.findClass RX1 = some m.cls := findClass_of_methodNamed B.named
  have hlocks := B.notSynchronized
  subst hsz
  obtain ⟨A0, hAe⟩ : ∃ A0, A0 = va_A (zbat cs q A) s.heap.size := ⟨_, rfl⟩
  have hD := hD0.self (sz := s.heap.size)
  rw [← hAe] at hD
  have hA : ∀ q : Nat, s.heap.size ≤ q → A0 q := fun q h => by rw [hAe]; exact Or.inr h
  have hS : va_S A0 s.heap s.heap [] := va_S.rf
  have hP : va_P D vwCl (zbat cs q A) s.heap := hP
  have hl := lv_entry ([.ref (q 0), .int (zI xs)]) (n := 2) (Nat.le_of_ble_eq_true rfl)
  rw [lg_entry_eq]
  generalize (lg_sl ([.ref (q 0), .int (zI xs)]) ++ List.replicate (2 - (lg_sl ([.ref (q 0), .int (zI xs)])).length) Slot.unset).toArray = ls at hl ⊢
  have hl : lv_has ls 2 [(0, .ref (q 0)), (1, .int (zI xs))] := hl
  have hiX1 : ∀ w ∈ wsX10, w ∈ wsX1_startAtSoc := by decide +kernel
  refine lv_aload_n hx hb dX1_startAtSoc_0 rfl (lv_at hl 0 rfl) ?_
  refine lv_aload_n hx hb dX1_startAtSoc_1 rfl (lv_at hl 0 rfl) ?_
  refine lv_iload_n hx hb dX1_startAtSoc_2 rfl (lv_at hl 1 rfl) ?_
  refine zc_rl (va_runV (As := [.int (zI xs)]) (rest := [.ref (q 0)]) ⟨hx, hb, hml, hown, hts⟩ (met_X1_chargeAt l D cs q _ A xs (by assumption) (by assumption) (by first | assumption | omega)) (cwV 1 hts gX1_startAtSoc_X1_chargeAt rfl rfl rfl (by decide +kernel) ⟨Nat.le_of_ble_eq_true rfl, Nat.le_of_ble_eq_true rfl⟩) ⟨zPre.blind, va_recv hK hP (ci := 1) (q0 := 0) rfl rfl, fun U hU hW => zp_R hP hK hD hN hU hW⟩ rfl rfl hl.1 rfl (lv_room (Nat.le_of_ble_eq_true rfl)) dX1_startAtSoc_3 ⟨Nat.le_of_ble_eq_true rfl, Nat.le_of_ble_eq_true rfl⟩) ?_
  refine va_put (D := D) (ci := 1) (v := .long (zL (A 37 * xs / 10000))) (ty := .long) (C := RX1) (T := TX1) (N := 18) hx hb hts hiX1 tyX1 tyX1_ok nmX1 hown hK hP hD hS 0 rfl rfl 5 (by decide) (hts (.fieldLink RX1 53 "ChargeEstimator$Battery" "estimate" "J") (List.mem_of_getElem? (i := 1) rfl)) (fun _ h9 => h9) rfl (by decide +kernel) rfl rfl (Nat.le_of_ble_eq_true rfl) dX1_startAtSoc_6 (fun H locs hP hD hS => ?_)
  have hP : va_P D vwCl (zbat cs q (zU A 34 (A 37 * xs / 10000))) H := zbp_34 hP
  have hD : va_D A0 (zbat cs q (zU A 34 (A 37 * xs / 10000))) := zD_addr hD rfl
  refine lv_aload_n hx hb dX1_startAtSoc_9 rfl (lv_at hl 0 rfl) ?_
  refine lv_aload_n hx hb dX1_startAtSoc_10 rfl (lv_at hl 0 rfl) ?_
  refine va_get (D := D) (ci := 1) (v := .long (zL (A 37 * xs / 10000))) (C := RX1) (T := TX1) (N := 18) hx hb hts hiX1 hown hK hP 0 rfl rfl 5 (by decide) (hts (.fieldLink RX1 53 "ChargeEstimator$Battery" "estimate" "J") (List.mem_of_getElem? (i := 1) rfl)) (fun _ h9 => h9) rfl dX1_startAtSoc_11 ?_
  refine va_put (D := D) (ci := 1) (v := .long (zL (A 37 * xs / 10000))) (ty := .long) (C := RX1) (T := TX1) (N := 18) hx hb hts hiX1 tyX1 tyX1_ok nmX1 hown hK hP hD hS 0 rfl rfl 6 (by decide) (hts (.fieldLink RX1 56 "ChargeEstimator$Battery" "low" "J") (List.mem_of_getElem? (i := 2) rfl)) (fun _ h9 => h9) rfl (by decide +kernel) rfl rfl (Nat.le_of_ble_eq_true rfl) dX1_startAtSoc_14 (fun H locs hP hD hS => ?_)
  have hP : va_P D vwCl (zbat cs q (zU (zU A 34 (A 37 * xs / 10000)) 35 (A 37 * xs / 10000))) H := zbp_35 hP
  have hD : va_D A0 (zbat cs q (zU (zU A 34 (A 37 * xs / 10000)) 35 (A 37 * xs / 10000))) := zD_addr hD rfl
  refine lv_aload_n hx hb dX1_startAtSoc_17 rfl (lv_at hl 0 rfl) ?_
  refine lv_aload_n hx hb dX1_startAtSoc_18 rfl (lv_at hl 0 rfl) ?_
  refine va_get (D := D) (ci := 1) (v := .long (zL (A 37 * xs / 10000))) (C := RX1) (T := TX1) (N := 18) hx hb hts hiX1 hown hK hP 0 rfl rfl 5 (by decide) (hts (.fieldLink RX1 53 "ChargeEstimator$Battery" "estimate" "J") (List.mem_of_getElem? (i := 1) rfl)) (fun _ h9 => h9) rfl dX1_startAtSoc_19 ?_
  refine va_put (D := D) (ci := 1) (v := .long (zL (A 37 * xs / 10000))) (ty := .long) (C := RX1) (T := TX1) (N := 18) hx hb hts hiX1 tyX1 tyX1_ok nmX1 hown hK hP hD hS 0 rfl rfl 7 (by decide) (hts (.fieldLink RX1 59 "ChargeEstimator$Battery" "high" "J") (List.mem_of_getElem? (i := 3) rfl)) (fun _ h9 => h9) rfl (by decide +kernel) rfl rfl (Nat.le_of_ble_eq_true rfl) dX1_startAtSoc_22 (fun H locs hP hD hS => ?_)
  have hP : va_P D vwCl (zbat cs q (zU (zU (zU A 34 (A 37 * xs / 10000)) 35 (A 37 * xs / 10000)) 36 (A 37 * xs / 10000))) H := zbp_36 hP
  have hD : va_D A0 (zbat cs q (zU (zU (zU A 34 (A 37 * xs / 10000)) 35 (A 37 * xs / 10000)) 36 (A 37 * xs / 10000))) := zD_addr hD rfl
  have hP9 : va_P D vwCl (zbat cs q (zAtS A xs)) H := hP
  have hD9 : va_D A0 (zbat cs q (zAtS A xs)) := zD_addr hD rfl
  subst hAe
  exact W.vret hx hb hr (fun t ht hW => ⟨⟨(), rfl, trivial, by rw [ht]; exact hP9, hD9⟩, hS.F ht⟩) hS.2.2 dX1_startAtSoc_25
set_option maxHeartbeats 4000000 in
set_option maxRecDepth 100000 in
theorem met_X1_changeSetting (l : Launch) (D : va_G) (cs : Nat → ClassId) (q : Nat → Nat) (sz : Nat) (n : Int) (A : Int → Int) (xw xv : Int) (hI : zOK n A) (hn : 0 ≤ n ∧ n ≤ 3100000) (kxw : 0 ≤ xw ∧ xw ≤ 11) (kxs : zSt (zU A xw xv)) : Met l yX1_changeSetting wsX1_changeSetting ({ frames := 1, cells := 0, slots := 0, locals := 20 }) (va_Pc [.ref (q 0), .int (zI xw), .int (zI xv)] (zPreZ D (zTy cs) (zbat cs q A) sz)) (zQi D (zbat cs q A) sz (zI (A xw)) (zbat cs q (zSet A xw xv))) 0 0 (va_A (zbat cs q A) sz) := by
  refine Met.ofW (cc := cX1_changeSetting) (maxL := 4) (ret := (some .int)) (by decide) rfl ?_
  intro p e s m args below meth c s₁ B hml hv
  obtain ⟨rfl, hsz, hP, hK, hD0, hN⟩ := hv
  have hx := B.exec
  have hb := B.bytes
  have hr := B.returns
  have hts := atoms_spec (ws := wsX1_changeSetting) B.pre
  have hown : s.vm.findClass RX1 = some m.cls := findClass_of_methodNamed B.named
  have hlocks := B.notSynchronized
  subst hsz
  obtain ⟨A0, hAe⟩ : ∃ A0, A0 = va_A (zbat cs q A) s.heap.size := ⟨_, rfl⟩
  have hD := hD0.self (sz := s.heap.size)
  rw [← hAe] at hD
  have hA : ∀ q : Nat, s.heap.size ≤ q → A0 q := fun q h => by rw [hAe]; exact Or.inr h
  have hS : va_S A0 s.heap s.heap [] := va_S.rf
  have hP : va_P D vwCl (zbat cs q A) s.heap := hP
  have hl := lv_entry ([.ref (q 0), .int (zI xw), .int (zI xv)]) (n := 4) (Nat.le_of_ble_eq_true rfl)
  rw [lg_entry_eq]
  generalize (lg_sl ([.ref (q 0), .int (zI xw), .int (zI xv)]) ++ List.replicate (4 - (lg_sl ([.ref (q 0), .int (zI xw), .int (zI xv)])).length) Slot.unset).toArray = ls at hl ⊢
  have hl : lv_has ls 4 [(0, .ref (q 0)), (1, .int (zI xw)), (2, .int (zI xv))] := hl
  have hiX1 : ∀ w ∈ wsX10, w ∈ wsX1_changeSetting := by decide +kernel
  obtain ⟨qN, qC, qQ, qL, qH, q40, q41, q42, q43, q44, q45, q46, q47, q48, q49, q50, q51, q52, qhad, qlast, qrow⟩ := zOK_q hI
  have hC := zOK_C hI
  have e37 : zU A xw xv 37 = A 37 := zU_ne _ _ (by omega)
  have e35 : zU A xw xv 35 = A 35 := zU_ne _ _ (by omega)
  have e36 : zU A xw xv 36 = A 36 := zU_ne _ _ (by omega)
  have e39 : zU A xw xv 39 = A 39 := zU_ne _ _ (by omega)
  have hwx : zWk (zU A xw xv) := ⟨kxs, by rw [e37]; omega, by rw [e35, e37]; omega, by rw [e36, e37]; omega⟩
  have hR := zRng_w hwx
  have hRR : zRng (zU A xw xv) = zU A xw xv 37 * zU A xw xv 3 / 100 := rfl
  have hR0 := zRng_r hI
  refine lv_aload_n hx hb dX1_changeSetting_0 rfl (lv_at hl 0 rfl) ?_
  refine va_get (D := D) (ci := 1) (v := .ref (q 1)) (C := RX1) (T := TX1) (N := 18) hx hb hts hiX1 hown hK hP 0 rfl rfl 0 (by decide) (hts (.fieldLink RX1 9 "ChargeEstimator$Battery" "settings" "[I") (List.mem_of_getElem? (i := 1) rfl)) (fun _ h9 => h9) rfl dX1_changeSetting_1 ?_
  refine lv_iload_n hx hb dX1_changeSetting_4 rfl (lv_at hl 1 rfl) ?_
  refine zr_iald (D := D) (g := A) hx hb hK hP 1 0 rfl rfl (by decide) (by omega) dX1_changeSetting_5 ?_
  refine lv_istore_n (lv' := [(3, .int (zI (A xw))), (0, .ref (q 0)), (1, .int (zI xw)), (2, .int (zI xv))]) hx hb dX1_changeSetting_6 rfl hl (by decide) rfl (fun ls hl => ?_)
  refine lv_aload_n hx hb dX1_changeSetting_7 rfl (lv_at hl 1 rfl) ?_
  refine va_get (D := D) (ci := 1) (v := .ref (q 1)) (C := RX1) (T := TX1) (N := 18) hx hb hts hiX1 hown hK hP 0 rfl rfl 0 (by decide) (hts (.fieldLink RX1 9 "ChargeEstimator$Battery" "settings" "[I") (List.mem_of_getElem? (i := 1) rfl)) (fun _ h9 => h9) rfl dX1_changeSetting_8 ?_
  refine lv_iload_n hx hb dX1_changeSetting_11 rfl (lv_at hl 2 rfl) ?_
  refine lv_iload_n hx hb dX1_changeSetting_12 rfl (lv_at hl 3 rfl) ?_
  refine zr_iast (D := D) (g := A) hx hb hK hP hD hS 1 0 rfl rfl (by decide) (by omega) dX1_changeSetting_13 (fun H locs hP hD hS => ?_)
  have hP : va_P D vwCl (zbat cs q (zU A xw xv)) H := zba_1 (by omega) hP
  have hD : va_D A0 (zbat cs q (zU A xw xv)) := zD_addr hD rfl
  refine lv_aload_n hx hb dX1_changeSetting_14 rfl (lv_at hl 1 rfl) ?_
  refine lv_aload_n hx hb dX1_changeSetting_15 rfl (lv_at hl 1 rfl) ?_
  refine va_get (D := D) (ci := 1) (v := .long (zL ((zU A xw xv) 39))) (C := RX1) (T := TX1) (N := 18) hx hb hts hiX1 hown hK hP 0 rfl rfl 8 (by decide) (hts (.fieldLink RX1 62 "ChargeEstimator$Battery" "hysteresis" "J") (List.mem_of_getElem? (i := 2) rfl)) (fun _ h9 => h9) rfl dX1_changeSetting_16 ?_
  refine zr_topl (b := A 39) (by exact e39) ?_
  refine lv_aload_n hx hb dX1_changeSetting_19 rfl (lv_at hl 1 rfl) ?_
  refine zc_rl (va_runV (As := []) (rest := [.long (zL (A 39)), .ref (q 0)]) ⟨hx, hb, hml, hown, hts⟩ (met_X1_hysteresisRange l D cs q (zU A xw xv) (by exact hwx)) (cwV 0 hts gX1_changeSetting_X1_hysteresisRange rfl rfl rfl (by decide +kernel) ⟨Nat.le_of_ble_eq_true rfl, Nat.le_of_ble_eq_true rfl⟩) ⟨zPre.blind, va_recv hK hP (ci := 1) (q0 := 0) rfl rfl, fun U hU hW => zp_R hP hK hD hN hU hW⟩ rfl rfl hl.1 rfl (lv_room (Nat.le_of_ble_eq_true rfl)) dX1_changeSetting_20 ⟨Nat.le_of_ble_eq_true rfl, Nat.le_of_ble_eq_true rfl⟩) ?_
  refine zm_minL hx hb (hml.trans hl.1.symm) hown (hts (.methodLink RX1 112 Lib.MathLoose.min_long.x) (List.mem_of_getElem? (i := 3) rfl)) (hts (.static Lib.MathLoose.min_long.x) (List.mem_of_getElem? (i := 4) rfl)) (hts (.initialized "java/lang/Math") (List.mem_of_getElem? (i := 5) rfl)) (hts (.code Lib.MathLoose.min_long.x Lib.MathLoose.min_long.code 4 (some .long)) (List.mem_of_getElem? (i := 6) rfl)) (Nat.le_of_ble_eq_true rfl) (Nat.le_of_ble_eq_true rfl) (Nat.le_of_ble_eq_true rfl) (Nat.le_of_ble_eq_true rfl) dX1_changeSetting_23 (by omega) (by omega) ?_
  refine va_put (D := D) (ci := 1) (v := .long (zL (min (A 39) (zRng (zU A xw xv))))) (ty := .long) (C := RX1) (T := TX1) (N := 18) hx hb hts hiX1 tyX1 tyX1_ok nmX1 hown hK hP hD hS 0 rfl rfl 8 (by decide) (hts (.fieldLink RX1 62 "ChargeEstimator$Battery" "hysteresis" "J") (List.mem_of_getElem? (i := 2) rfl)) (fun _ h9 => h9) rfl (by decide +kernel) rfl rfl (Nat.le_of_ble_eq_true rfl) dX1_changeSetting_26 (fun H locs hP hD hS => ?_)
  have hP : va_P D vwCl (zbat cs q (zU (zU A xw xv) 39 (min (A 39) (zRng (zU A xw xv))))) H := zbp_39 hP
  have hD : va_D A0 (zbat cs q (zU (zU A xw xv) 39 (min (A 39) (zRng (zU A xw xv))))) := zD_addr hD rfl
  refine lv_iload_n hx hb dX1_changeSetting_29 rfl (lv_at hl 0 rfl) ?_
  have hP9 : va_P D vwCl (zbat cs q (zSet A xw xv)) H := hP
  have hD9 : va_D A0 (zbat cs q (zSet A xw xv)) := zD_addr hD rfl
  subst hAe
  exact W.iret hx hb hr (fun t ht hW => ⟨⟨_, (), rfl, (congrArg zI (show A xw = A xw from by rfl)), by rw [ht]; exact hP9, hD9⟩, hS.F ht⟩) hS.2.2 dX1_changeSetting_30
set_option maxHeartbeats 4000000 in
set_option maxRecDepth 100000 in
theorem met_X2_changePoint (l : Launch) (D : va_G) (cs : Nat → ClassId) (q : Nat → Nat) (sz : Nat) (A : Int → Int) (xk xl xu : Int) (kxk : 0 ≤ xk ∧ xk ≤ 10) : Met l yX2_changePoint wsX2_changePoint ({ frames := 0, cells := 0, slots := 0, locals := 0 }) (va_Pc [.ref (q 2), .int (zI xk), .int (zI xl), .int (zI xu)] (zPreZ D (zTy cs) (zbat cs q A) sz)) (zQi D (zbat cs q A) sz (zI (A (12 + xk))) (zbat cs q (zPut A xk xl xu))) 0 0 (va_A (zbat cs q A) sz) := by
  refine Met.ofW (cc := cX2_changePoint) (maxL := 5) (ret := (some .int)) (by decide) rfl ?_
  intro p e s m args below meth c s₁ B hml hv
  obtain ⟨rfl, hsz, hP, hK, hD0, hN⟩ := hv
  have hx := B.exec
  have hb := B.bytes
  have hr := B.returns
  have hts := atoms_spec (ws := wsX2_changePoint) B.pre
  have hown : s.vm.findClass RX2 = some m.cls := findClass_of_methodNamed B.named
  have hlocks := B.notSynchronized
  subst hsz
  obtain ⟨A0, hAe⟩ : ∃ A0, A0 = va_A (zbat cs q A) s.heap.size := ⟨_, rfl⟩
  have hD := hD0.self (sz := s.heap.size)
  rw [← hAe] at hD
  have hA : ∀ q : Nat, s.heap.size ≤ q → A0 q := fun q h => by rw [hAe]; exact Or.inr h
  have hS : va_S A0 s.heap s.heap [] := va_S.rf
  have hP : va_P D vwCl (zbat cs q A) s.heap := hP
  have hl := lv_entry ([.ref (q 2), .int (zI xk), .int (zI xl), .int (zI xu)]) (n := 5) (Nat.le_of_ble_eq_true rfl)
  rw [lg_entry_eq]
  generalize (lg_sl ([.ref (q 2), .int (zI xk), .int (zI xl), .int (zI xu)]) ++ List.replicate (5 - (lg_sl ([.ref (q 2), .int (zI xk), .int (zI xl), .int (zI xu)])).length) Slot.unset).toArray = ls at hl ⊢
  have hl : lv_has ls 5 [(0, .ref (q 2)), (1, .int (zI xk)), (2, .int (zI xl)), (3, .int (zI xu))] := hl
  have hiX2 : ∀ w ∈ wsX20, w ∈ wsX2_changePoint := by decide +kernel
  refine lv_aload_n hx hb dX2_changePoint_0 rfl (lv_at hl 0 rfl) ?_
  refine va_get (D := D) (ci := 2) (v := .ref (q 3)) (C := RX2) (T := TX2) (N := 2) hx hb hts hiX2 hown hK hP 2 rfl rfl 0 (by decide) (hts (.fieldLink RX2 11 "ChargeEstimator$Curves" "lower" "[I") (List.mem_of_getElem? (i := 1) rfl)) (fun _ h9 => h9) rfl dX2_changePoint_1 ?_
  refine lv_iload_n hx hb dX2_changePoint_4 rfl (lv_at hl 1 rfl) ?_
  refine zr_iald (D := D) (g := (zO A 12)) hx hb hK hP 3 0 rfl rfl (by decide) (by omega) dX2_changePoint_5 ?_
  rw [show (zO A 12) xk = A (12 + xk) from by first | rfl | simp [zO, zU]]
  refine lv_istore (lv' := [(4, .int (zI (A (12 + xk)))), (0, .ref (q 2)), (1, .int (zI xk)), (2, .int (zI xl)), (3, .int (zI xu))]) hx hb dX2_changePoint_6 hl (by decide) rfl (fun ls hl => ?_)
  refine lv_aload_n hx hb dX2_changePoint_8 rfl (lv_at hl 1 rfl) ?_
  refine va_get (D := D) (ci := 2) (v := .ref (q 3)) (C := RX2) (T := TX2) (N := 2) hx hb hts hiX2 hown hK hP 2 rfl rfl 0 (by decide) (hts (.fieldLink RX2 11 "ChargeEstimator$Curves" "lower" "[I") (List.mem_of_getElem? (i := 1) rfl)) (fun _ h9 => h9) rfl dX2_changePoint_9 ?_
  refine lv_iload_n hx hb dX2_changePoint_12 rfl (lv_at hl 2 rfl) ?_
  refine lv_iload_n hx hb dX2_changePoint_13 rfl (lv_at hl 3 rfl) ?_
  refine zr_iast (D := D) (g := (zO A 12)) hx hb hK hP hD hS 3 0 rfl rfl (by decide) (by omega) dX2_changePoint_14 (fun H locs hP hD hS => ?_)
  have hP : va_P D vwCl (zbat cs q (zU A (12 + xk) xl)) H := zba_3 (by omega) hP
  have hD : va_D A0 (zbat cs q (zU A (12 + xk) xl)) := zD_addr hD rfl
  refine lv_aload_n hx hb dX2_changePoint_15 rfl (lv_at hl 1 rfl) ?_
  refine va_get (D := D) (ci := 2) (v := .ref (q 4)) (C := RX2) (T := TX2) (N := 2) hx hb hts hiX2 hown hK hP 2 rfl rfl 1 (by decide) (hts (.fieldLink RX2 15 "ChargeEstimator$Curves" "upper" "[I") (List.mem_of_getElem? (i := 2) rfl)) (fun _ h9 => h9) rfl dX2_changePoint_16 ?_
  refine lv_iload_n hx hb dX2_changePoint_19 rfl (lv_at hl 2 rfl) ?_
  refine lv_iload_n hx hb dX2_changePoint_20 rfl (lv_at hl 4 rfl) ?_
  refine zr_iast (D := D) (g := (zO (zU A (12 + xk) xl) 23)) hx hb hK hP hD hS 4 0 rfl rfl (by decide) (by omega) dX2_changePoint_21 (fun H locs hP hD hS => ?_)
  have hP : va_P D vwCl (zbat cs q (zU (zU A (12 + xk) xl) (23 + xk) xu)) H := zba_4 (by omega) hP
  have hD : va_D A0 (zbat cs q (zU (zU A (12 + xk) xl) (23 + xk) xu)) := zD_addr hD rfl
  refine lv_iload hx hb dX2_changePoint_22 (lv_at hl 0 rfl) ?_
  have hP9 : va_P D vwCl (zbat cs q (zPut A xk xl xu)) H := hP
  have hD9 : va_D A0 (zbat cs q (zPut A xk xl xu)) := zD_addr hD rfl
  subst hAe
  exact W.iret hx hb hr (fun t ht hW => ⟨⟨_, (), rfl, (congrArg zI (show A (12 + xk) = A (12 + xk) from by rfl)), by rw [ht]; exact hP9, hD9⟩, hS.F ht⟩) hS.2.2 dX2_changePoint_24
set_option maxHeartbeats 4000000 in
set_option maxRecDepth 100000 in
theorem met_X2_wouldAscend (l : Launch) (D : va_G) (cs : Nat → ClassId) (q : Nat → Nat) (n : Int) (A : Int → Int) (xk xl xu : Int) (hI : zOK n A) (hn : 0 ≤ n ∧ n ≤ 3100000) (kxk : 0 ≤ xk ∧ xk ≤ 10) (kxl : 0 ≤ xl ∧ xl ≤ 10000) (kxu : 0 ≤ xu ∧ xu ≤ 10000) : Met l yX2_wouldAscend wsX2_wouldAscend ({ frames := 0, cells := 0, slots := 0, locals := 0 }) (va_Pc [.ref (q 2), .int (zI xk), .int (zI xl), .int (zI xu)] (zPre D (zTy cs) (zbat cs q A))) (zRi (zI (zB ((xk ≤ 0 ∨ A (12 + (xk - 1)) < xl ∧ A (23 + (xk - 1)) < xu) ∧ (10 ≤ xk ∨ xl < A (12 + (xk + 1)) ∧ xu < A (23 + (xk + 1))))))) 0 0 (fun _ => False) := by
  refine Met.ofW (cc := cX2_wouldAscend) (maxL := 6) (ret := (some .boolean)) (by decide) rfl ?_
  intro p e s m args below meth c s₁ B hml hv
  obtain ⟨rfl, hP, hK, hD0, hN⟩ := hv
  have hx := B.exec
  have hb := B.bytes
  have hr := B.returns
  have hts := atoms_spec (ws := wsX2_wouldAscend) B.pre
  have hown : s.vm.findClass RX2 = some m.cls := findClass_of_methodNamed B.named
  have hlocks := B.notSynchronized
  have hD := hD0
  have hl := lv_entry ([.ref (q 2), .int (zI xk), .int (zI xl), .int (zI xu)]) (n := 6) (Nat.le_of_ble_eq_true rfl)
  rw [lg_entry_eq]
  generalize (lg_sl ([.ref (q 2), .int (zI xk), .int (zI xl), .int (zI xu)]) ++ List.replicate (6 - (lg_sl ([.ref (q 2), .int (zI xk), .int (zI xl), .int (zI xu)])).length) Slot.unset).toArray = ls at hl ⊢
  have hl : lv_has ls 6 [(0, .ref (q 2)), (1, .int (zI xk)), (2, .int (zI xl)), (3, .int (zI xu))] := hl
  have hiX2 : ∀ w ∈ wsX20, w ∈ wsX2_wouldAscend := by decide +kernel
  obtain ⟨hc1, hc2⟩ := zOK_c hI
  have d0 := hc1 xk (by omega) (by omega)
  have d1 : 0 < xk → 2000 ≤ A (12 + (xk - 1)) ∧ A (12 + (xk - 1)) ≤ A (23 + (xk - 1)) ∧ A (23 + (xk - 1)) ≤ 5000 := fun h => hc1 (xk - 1) (by omega) (by omega)
  have d2 : xk < 10 → 2000 ≤ A (12 + (xk + 1)) ∧ A (12 + (xk + 1)) ≤ A (23 + (xk + 1)) ∧ A (23 + (xk + 1)) ≤ 5000 := fun h => hc1 (xk + 1) (by omega) (by omega)
  refine lv_iload_n hx hb dX2_wouldAscend_0 rfl (lv_at hl 1 rfl) ?_
  refine zr_if_le (tgt := 28) hx hb dX2_wouldAscend_1 (by decide) (by omega) (fun c1 => ?_) (fun c1 => ?_)
  · refine zr_iconst hx hb dX2_wouldAscend_28 ?_
    refine lv_goto (tgt := 33) hx hb dX2_wouldAscend_29 (by decide) ?_
    refine lv_istore (lv' := [(4, .int (zI 1)), (0, .ref (q 2)), (1, .int (zI xk)), (2, .int (zI xl)), (3, .int (zI xu))]) hx hb dX2_wouldAscend_33 hl (by decide) rfl (fun ls hl => ?_)
    refine lv_iload_n hx hb dX2_wouldAscend_35 rfl (lv_at hl 2 rfl) ?_
    refine zr_bipush hx hb dX2_wouldAscend_36 (by decide) ?_
    refine zr_icmp_ge (tgt := 65) hx hb dX2_wouldAscend_38 (by decide) (by omega) (by decide) (fun c2 => ?_) (fun c2 => ?_)
    · refine zr_iconst hx hb dX2_wouldAscend_65 ?_
      refine lv_goto (tgt := 70) hx hb dX2_wouldAscend_66 (by decide) ?_
      refine lv_istore (lv' := [(5, .int (zI 1)), (4, .int (zI 1)), (0, .ref (q 2)), (1, .int (zI xk)), (2, .int (zI xl)), (3, .int (zI xu))]) hx hb dX2_wouldAscend_70 hl (by decide) rfl (fun ls hl => ?_)
      refine lv_iload hx hb dX2_wouldAscend_72 (lv_at hl 1 rfl) ?_
      refine zr_if_eq (tgt := 86) hx hb dX2_wouldAscend_74 (by decide) (by decide) (fun c3 => ?_) (fun c3 => ?_)
      · exact absurd c3 (by decide)
      · refine lv_iload hx hb dX2_wouldAscend_77 (lv_at hl 0 rfl) ?_
        refine zr_if_eq (tgt := 86) hx hb dX2_wouldAscend_79 (by decide) (by decide) (fun c4 => ?_) (fun c4 => ?_)
        · exact absurd c4 (by decide)
        · refine zr_iconst hx hb dX2_wouldAscend_82 ?_
          refine lv_goto (tgt := 87) hx hb dX2_wouldAscend_83 (by decide) ?_
          exact W.zret hx hb hr (zbool_n (by decide)) (fun t ht hW => ⟨_, rfl, (congrArg zI (show 1 = zB ((xk ≤ 0 ∨ A (12 + (xk - 1)) < xl ∧ A (23 + (xk - 1)) < xu) ∧ (10 ≤ xk ∨ xl < A (12 + (xk + 1)) ∧ xu < A (23 + (xk + 1)))) from by first | exact (zB_t (by omega)).symm | exact (zB_f (by omega)).symm)), ht⟩) (fun q hq => absurd hq List.not_mem_nil) dX2_wouldAscend_87
    · refine lv_iload_n hx hb dX2_wouldAscend_41 rfl (lv_at hl 3 rfl) ?_
      refine lv_aload_n hx hb dX2_wouldAscend_42 rfl (lv_at hl 1 rfl) ?_
      refine va_get (D := D) (ci := 2) (v := .ref (q 3)) (C := RX2) (T := TX2) (N := 2) hx hb hts hiX2 hown hK hP 2 rfl rfl 0 (by decide) (hts (.fieldLink RX2 11 "ChargeEstimator$Curves" "lower" "[I") (List.mem_of_getElem? (i := 1) rfl)) (fun _ h9 => h9) rfl dX2_wouldAscend_43 ?_
      refine lv_iload_n hx hb dX2_wouldAscend_46 rfl (lv_at hl 2 rfl) ?_
      refine zr_iconst hx hb dX2_wouldAscend_47 ?_
      refine zr_iadd hx hb dX2_wouldAscend_48 ?_
      refine zr_iald (D := D) (g := (zO A 12)) hx hb hK hP 3 0 rfl rfl (by decide) (by omega) dX2_wouldAscend_49 ?_
      rw [show (zO A 12) (xk + 1) = A (12 + (xk + 1)) from by first | rfl | simp [zO, zU]]
      refine zr_icmp_ge (tgt := 69) hx hb dX2_wouldAscend_50 (by decide) (by omega) (by omega) (fun c5 => ?_) (fun c5 => ?_)
      · refine zr_iconst hx hb dX2_wouldAscend_69 ?_
        refine lv_istore (lv' := [(5, .int (zI 0)), (4, .int (zI 1)), (0, .ref (q 2)), (1, .int (zI xk)), (2, .int (zI xl)), (3, .int (zI xu))]) hx hb dX2_wouldAscend_70 hl (by decide) rfl (fun ls hl => ?_)
        refine lv_iload hx hb dX2_wouldAscend_72 (lv_at hl 1 rfl) ?_
        refine zr_if_eq (tgt := 86) hx hb dX2_wouldAscend_74 (by decide) (by decide) (fun c6 => ?_) (fun c6 => ?_)
        · exact absurd c6 (by decide)
        · refine lv_iload hx hb dX2_wouldAscend_77 (lv_at hl 0 rfl) ?_
          refine zr_if_eq (tgt := 86) hx hb dX2_wouldAscend_79 (by decide) (by decide) (fun c7 => ?_) (fun c7 => ?_)
          · refine zr_iconst hx hb dX2_wouldAscend_86 ?_
            exact W.zret hx hb hr (zbool_n (by decide)) (fun t ht hW => ⟨_, rfl, (congrArg zI (show 0 = zB ((xk ≤ 0 ∨ A (12 + (xk - 1)) < xl ∧ A (23 + (xk - 1)) < xu) ∧ (10 ≤ xk ∨ xl < A (12 + (xk + 1)) ∧ xu < A (23 + (xk + 1)))) from by first | exact (zB_t (by omega)).symm | exact (zB_f (by omega)).symm)), ht⟩) (fun q hq => absurd hq List.not_mem_nil) dX2_wouldAscend_87
          · exact absurd c7 (by decide)
      · refine lv_iload_n hx hb dX2_wouldAscend_53 rfl (lv_at hl 4 rfl) ?_
        refine lv_aload_n hx hb dX2_wouldAscend_54 rfl (lv_at hl 1 rfl) ?_
        refine va_get (D := D) (ci := 2) (v := .ref (q 4)) (C := RX2) (T := TX2) (N := 2) hx hb hts hiX2 hown hK hP 2 rfl rfl 1 (by decide) (hts (.fieldLink RX2 15 "ChargeEstimator$Curves" "upper" "[I") (List.mem_of_getElem? (i := 2) rfl)) (fun _ h9 => h9) rfl dX2_wouldAscend_55 ?_
        refine lv_iload_n hx hb dX2_wouldAscend_58 rfl (lv_at hl 2 rfl) ?_
        refine zr_iconst hx hb dX2_wouldAscend_59 ?_
        refine zr_iadd hx hb dX2_wouldAscend_60 ?_
        refine zr_iald (D := D) (g := (zO A 23)) hx hb hK hP 4 0 rfl rfl (by decide) (by omega) dX2_wouldAscend_61 ?_
        rw [show (zO A 23) (xk + 1) = A (23 + (xk + 1)) from by first | rfl | simp [zO, zU]]
        refine zr_icmp_ge (tgt := 69) hx hb dX2_wouldAscend_62 (by decide) (by omega) (by omega) (fun c8 => ?_) (fun c8 => ?_)
        · refine zr_iconst hx hb dX2_wouldAscend_69 ?_
          refine lv_istore (lv' := [(5, .int (zI 0)), (4, .int (zI 1)), (0, .ref (q 2)), (1, .int (zI xk)), (2, .int (zI xl)), (3, .int (zI xu))]) hx hb dX2_wouldAscend_70 hl (by decide) rfl (fun ls hl => ?_)
          refine lv_iload hx hb dX2_wouldAscend_72 (lv_at hl 1 rfl) ?_
          refine zr_if_eq (tgt := 86) hx hb dX2_wouldAscend_74 (by decide) (by decide) (fun c9 => ?_) (fun c9 => ?_)
          · exact absurd c9 (by decide)
          · refine lv_iload hx hb dX2_wouldAscend_77 (lv_at hl 0 rfl) ?_
            refine zr_if_eq (tgt := 86) hx hb dX2_wouldAscend_79 (by decide) (by decide) (fun c10 => ?_) (fun c10 => ?_)
            · refine zr_iconst hx hb dX2_wouldAscend_86 ?_
              exact W.zret hx hb hr (zbool_n (by decide)) (fun t ht hW => ⟨_, rfl, (congrArg zI (show 0 = zB ((xk ≤ 0 ∨ A (12 + (xk - 1)) < xl ∧ A (23 + (xk - 1)) < xu) ∧ (10 ≤ xk ∨ xl < A (12 + (xk + 1)) ∧ xu < A (23 + (xk + 1)))) from by first | exact (zB_t (by omega)).symm | exact (zB_f (by omega)).symm)), ht⟩) (fun q hq => absurd hq List.not_mem_nil) dX2_wouldAscend_87
            · exact absurd c10 (by decide)
        · refine zr_iconst hx hb dX2_wouldAscend_65 ?_
          refine lv_goto (tgt := 70) hx hb dX2_wouldAscend_66 (by decide) ?_
          refine lv_istore (lv' := [(5, .int (zI 1)), (4, .int (zI 1)), (0, .ref (q 2)), (1, .int (zI xk)), (2, .int (zI xl)), (3, .int (zI xu))]) hx hb dX2_wouldAscend_70 hl (by decide) rfl (fun ls hl => ?_)
          refine lv_iload hx hb dX2_wouldAscend_72 (lv_at hl 1 rfl) ?_
          refine zr_if_eq (tgt := 86) hx hb dX2_wouldAscend_74 (by decide) (by decide) (fun c11 => ?_) (fun c11 => ?_)
          · exact absurd c11 (by decide)
          · refine lv_iload hx hb dX2_wouldAscend_77 (lv_at hl 0 rfl) ?_
            refine zr_if_eq (tgt := 86) hx hb dX2_wouldAscend_79 (by decide) (by decide) (fun c12 => ?_) (fun c12 => ?_)
            · exact absurd c12 (by decide)
            · refine zr_iconst hx hb dX2_wouldAscend_82 ?_
              refine lv_goto (tgt := 87) hx hb dX2_wouldAscend_83 (by decide) ?_
              exact W.zret hx hb hr (zbool_n (by decide)) (fun t ht hW => ⟨_, rfl, (congrArg zI (show 1 = zB ((xk ≤ 0 ∨ A (12 + (xk - 1)) < xl ∧ A (23 + (xk - 1)) < xu) ∧ (10 ≤ xk ∨ xl < A (12 + (xk + 1)) ∧ xu < A (23 + (xk + 1)))) from by first | exact (zB_t (by omega)).symm | exact (zB_f (by omega)).symm)), ht⟩) (fun q hq => absurd hq List.not_mem_nil) dX2_wouldAscend_87
  · refine lv_iload_n hx hb dX2_wouldAscend_4 rfl (lv_at hl 2 rfl) ?_
    refine lv_aload_n hx hb dX2_wouldAscend_5 rfl (lv_at hl 0 rfl) ?_
    refine va_get (D := D) (ci := 2) (v := .ref (q 3)) (C := RX2) (T := TX2) (N := 2) hx hb hts hiX2 hown hK hP 2 rfl rfl 0 (by decide) (hts (.fieldLink RX2 11 "ChargeEstimator$Curves" "lower" "[I") (List.mem_of_getElem? (i := 1) rfl)) (fun _ h9 => h9) rfl dX2_wouldAscend_6 ?_
    refine lv_iload_n hx hb dX2_wouldAscend_9 rfl (lv_at hl 1 rfl) ?_
    refine zr_iconst hx hb dX2_wouldAscend_10 ?_
    refine zr_isub hx hb dX2_wouldAscend_11 ?_
    refine zr_iald (D := D) (g := (zO A 12)) hx hb hK hP 3 0 rfl rfl (by decide) (by omega) dX2_wouldAscend_12 ?_
    rw [show (zO A 12) (xk - 1) = A (12 + (xk - 1)) from by first | rfl | simp [zO, zU]]
    refine zr_icmp_le (tgt := 32) hx hb dX2_wouldAscend_13 (by decide) (by omega) (by omega) (fun c13 => ?_) (fun c13 => ?_)
    · refine zr_iconst hx hb dX2_wouldAscend_32 ?_
      refine lv_istore (lv' := [(4, .int (zI 0)), (0, .ref (q 2)), (1, .int (zI xk)), (2, .int (zI xl)), (3, .int (zI xu))]) hx hb dX2_wouldAscend_33 hl (by decide) rfl (fun ls hl => ?_)
      refine lv_iload_n hx hb dX2_wouldAscend_35 rfl (lv_at hl 2 rfl) ?_
      refine zr_bipush hx hb dX2_wouldAscend_36 (by decide) ?_
      refine zr_icmp_ge (tgt := 65) hx hb dX2_wouldAscend_38 (by decide) (by omega) (by decide) (fun c14 => ?_) (fun c14 => ?_)
      · refine zr_iconst hx hb dX2_wouldAscend_65 ?_
        refine lv_goto (tgt := 70) hx hb dX2_wouldAscend_66 (by decide) ?_
        refine lv_istore (lv' := [(5, .int (zI 1)), (4, .int (zI 0)), (0, .ref (q 2)), (1, .int (zI xk)), (2, .int (zI xl)), (3, .int (zI xu))]) hx hb dX2_wouldAscend_70 hl (by decide) rfl (fun ls hl => ?_)
        refine lv_iload hx hb dX2_wouldAscend_72 (lv_at hl 1 rfl) ?_
        refine zr_if_eq (tgt := 86) hx hb dX2_wouldAscend_74 (by decide) (by decide) (fun c15 => ?_) (fun c15 => ?_)
        · refine zr_iconst hx hb dX2_wouldAscend_86 ?_
          exact W.zret hx hb hr (zbool_n (by decide)) (fun t ht hW => ⟨_, rfl, (congrArg zI (show 0 = zB ((xk ≤ 0 ∨ A (12 + (xk - 1)) < xl ∧ A (23 + (xk - 1)) < xu) ∧ (10 ≤ xk ∨ xl < A (12 + (xk + 1)) ∧ xu < A (23 + (xk + 1)))) from by first | exact (zB_t (by omega)).symm | exact (zB_f (by omega)).symm)), ht⟩) (fun q hq => absurd hq List.not_mem_nil) dX2_wouldAscend_87
        · exact absurd c15 (by decide)
      · refine lv_iload_n hx hb dX2_wouldAscend_41 rfl (lv_at hl 3 rfl) ?_
        refine lv_aload_n hx hb dX2_wouldAscend_42 rfl (lv_at hl 1 rfl) ?_
        refine va_get (D := D) (ci := 2) (v := .ref (q 3)) (C := RX2) (T := TX2) (N := 2) hx hb hts hiX2 hown hK hP 2 rfl rfl 0 (by decide) (hts (.fieldLink RX2 11 "ChargeEstimator$Curves" "lower" "[I") (List.mem_of_getElem? (i := 1) rfl)) (fun _ h9 => h9) rfl dX2_wouldAscend_43 ?_
        refine lv_iload_n hx hb dX2_wouldAscend_46 rfl (lv_at hl 2 rfl) ?_
        refine zr_iconst hx hb dX2_wouldAscend_47 ?_
        refine zr_iadd hx hb dX2_wouldAscend_48 ?_
        refine zr_iald (D := D) (g := (zO A 12)) hx hb hK hP 3 0 rfl rfl (by decide) (by omega) dX2_wouldAscend_49 ?_
        rw [show (zO A 12) (xk + 1) = A (12 + (xk + 1)) from by first | rfl | simp [zO, zU]]
        refine zr_icmp_ge (tgt := 69) hx hb dX2_wouldAscend_50 (by decide) (by omega) (by omega) (fun c16 => ?_) (fun c16 => ?_)
        · refine zr_iconst hx hb dX2_wouldAscend_69 ?_
          refine lv_istore (lv' := [(5, .int (zI 0)), (4, .int (zI 0)), (0, .ref (q 2)), (1, .int (zI xk)), (2, .int (zI xl)), (3, .int (zI xu))]) hx hb dX2_wouldAscend_70 hl (by decide) rfl (fun ls hl => ?_)
          refine lv_iload hx hb dX2_wouldAscend_72 (lv_at hl 1 rfl) ?_
          refine zr_if_eq (tgt := 86) hx hb dX2_wouldAscend_74 (by decide) (by decide) (fun c17 => ?_) (fun c17 => ?_)
          · refine zr_iconst hx hb dX2_wouldAscend_86 ?_
            exact W.zret hx hb hr (zbool_n (by decide)) (fun t ht hW => ⟨_, rfl, (congrArg zI (show 0 = zB ((xk ≤ 0 ∨ A (12 + (xk - 1)) < xl ∧ A (23 + (xk - 1)) < xu) ∧ (10 ≤ xk ∨ xl < A (12 + (xk + 1)) ∧ xu < A (23 + (xk + 1)))) from by first | exact (zB_t (by omega)).symm | exact (zB_f (by omega)).symm)), ht⟩) (fun q hq => absurd hq List.not_mem_nil) dX2_wouldAscend_87
          · exact absurd c17 (by decide)
        · refine lv_iload_n hx hb dX2_wouldAscend_53 rfl (lv_at hl 4 rfl) ?_
          refine lv_aload_n hx hb dX2_wouldAscend_54 rfl (lv_at hl 1 rfl) ?_
          refine va_get (D := D) (ci := 2) (v := .ref (q 4)) (C := RX2) (T := TX2) (N := 2) hx hb hts hiX2 hown hK hP 2 rfl rfl 1 (by decide) (hts (.fieldLink RX2 15 "ChargeEstimator$Curves" "upper" "[I") (List.mem_of_getElem? (i := 2) rfl)) (fun _ h9 => h9) rfl dX2_wouldAscend_55 ?_
          refine lv_iload_n hx hb dX2_wouldAscend_58 rfl (lv_at hl 2 rfl) ?_
          refine zr_iconst hx hb dX2_wouldAscend_59 ?_
          refine zr_iadd hx hb dX2_wouldAscend_60 ?_
          refine zr_iald (D := D) (g := (zO A 23)) hx hb hK hP 4 0 rfl rfl (by decide) (by omega) dX2_wouldAscend_61 ?_
          rw [show (zO A 23) (xk + 1) = A (23 + (xk + 1)) from by first | rfl | simp [zO, zU]]
          refine zr_icmp_ge (tgt := 69) hx hb dX2_wouldAscend_62 (by decide) (by omega) (by omega) (fun c18 => ?_) (fun c18 => ?_)
          · refine zr_iconst hx hb dX2_wouldAscend_69 ?_
            refine lv_istore (lv' := [(5, .int (zI 0)), (4, .int (zI 0)), (0, .ref (q 2)), (1, .int (zI xk)), (2, .int (zI xl)), (3, .int (zI xu))]) hx hb dX2_wouldAscend_70 hl (by decide) rfl (fun ls hl => ?_)
            refine lv_iload hx hb dX2_wouldAscend_72 (lv_at hl 1 rfl) ?_
            refine zr_if_eq (tgt := 86) hx hb dX2_wouldAscend_74 (by decide) (by decide) (fun c19 => ?_) (fun c19 => ?_)
            · refine zr_iconst hx hb dX2_wouldAscend_86 ?_
              exact W.zret hx hb hr (zbool_n (by decide)) (fun t ht hW => ⟨_, rfl, (congrArg zI (show 0 = zB ((xk ≤ 0 ∨ A (12 + (xk - 1)) < xl ∧ A (23 + (xk - 1)) < xu) ∧ (10 ≤ xk ∨ xl < A (12 + (xk + 1)) ∧ xu < A (23 + (xk + 1)))) from by first | exact (zB_t (by omega)).symm | exact (zB_f (by omega)).symm)), ht⟩) (fun q hq => absurd hq List.not_mem_nil) dX2_wouldAscend_87
            · exact absurd c19 (by decide)
          · refine zr_iconst hx hb dX2_wouldAscend_65 ?_
            refine lv_goto (tgt := 70) hx hb dX2_wouldAscend_66 (by decide) ?_
            refine lv_istore (lv' := [(5, .int (zI 1)), (4, .int (zI 0)), (0, .ref (q 2)), (1, .int (zI xk)), (2, .int (zI xl)), (3, .int (zI xu))]) hx hb dX2_wouldAscend_70 hl (by decide) rfl (fun ls hl => ?_)
            refine lv_iload hx hb dX2_wouldAscend_72 (lv_at hl 1 rfl) ?_
            refine zr_if_eq (tgt := 86) hx hb dX2_wouldAscend_74 (by decide) (by decide) (fun c20 => ?_) (fun c20 => ?_)
            · refine zr_iconst hx hb dX2_wouldAscend_86 ?_
              exact W.zret hx hb hr (zbool_n (by decide)) (fun t ht hW => ⟨_, rfl, (congrArg zI (show 0 = zB ((xk ≤ 0 ∨ A (12 + (xk - 1)) < xl ∧ A (23 + (xk - 1)) < xu) ∧ (10 ≤ xk ∨ xl < A (12 + (xk + 1)) ∧ xu < A (23 + (xk + 1)))) from by first | exact (zB_t (by omega)).symm | exact (zB_f (by omega)).symm)), ht⟩) (fun q hq => absurd hq List.not_mem_nil) dX2_wouldAscend_87
            · exact absurd c20 (by decide)
    · refine lv_iload_n hx hb dX2_wouldAscend_16 rfl (lv_at hl 3 rfl) ?_
      refine lv_aload_n hx hb dX2_wouldAscend_17 rfl (lv_at hl 0 rfl) ?_
      refine va_get (D := D) (ci := 2) (v := .ref (q 4)) (C := RX2) (T := TX2) (N := 2) hx hb hts hiX2 hown hK hP 2 rfl rfl 1 (by decide) (hts (.fieldLink RX2 15 "ChargeEstimator$Curves" "upper" "[I") (List.mem_of_getElem? (i := 2) rfl)) (fun _ h9 => h9) rfl dX2_wouldAscend_18 ?_
      refine lv_iload_n hx hb dX2_wouldAscend_21 rfl (lv_at hl 1 rfl) ?_
      refine zr_iconst hx hb dX2_wouldAscend_22 ?_
      refine zr_isub hx hb dX2_wouldAscend_23 ?_
      refine zr_iald (D := D) (g := (zO A 23)) hx hb hK hP 4 0 rfl rfl (by decide) (by omega) dX2_wouldAscend_24 ?_
      rw [show (zO A 23) (xk - 1) = A (23 + (xk - 1)) from by first | rfl | simp [zO, zU]]
      refine zr_icmp_le (tgt := 32) hx hb dX2_wouldAscend_25 (by decide) (by omega) (by omega) (fun c21 => ?_) (fun c21 => ?_)
      · refine zr_iconst hx hb dX2_wouldAscend_32 ?_
        refine lv_istore (lv' := [(4, .int (zI 0)), (0, .ref (q 2)), (1, .int (zI xk)), (2, .int (zI xl)), (3, .int (zI xu))]) hx hb dX2_wouldAscend_33 hl (by decide) rfl (fun ls hl => ?_)
        refine lv_iload_n hx hb dX2_wouldAscend_35 rfl (lv_at hl 2 rfl) ?_
        refine zr_bipush hx hb dX2_wouldAscend_36 (by decide) ?_
        refine zr_icmp_ge (tgt := 65) hx hb dX2_wouldAscend_38 (by decide) (by omega) (by decide) (fun c22 => ?_) (fun c22 => ?_)
        · refine zr_iconst hx hb dX2_wouldAscend_65 ?_
          refine lv_goto (tgt := 70) hx hb dX2_wouldAscend_66 (by decide) ?_
          refine lv_istore (lv' := [(5, .int (zI 1)), (4, .int (zI 0)), (0, .ref (q 2)), (1, .int (zI xk)), (2, .int (zI xl)), (3, .int (zI xu))]) hx hb dX2_wouldAscend_70 hl (by decide) rfl (fun ls hl => ?_)
          refine lv_iload hx hb dX2_wouldAscend_72 (lv_at hl 1 rfl) ?_
          refine zr_if_eq (tgt := 86) hx hb dX2_wouldAscend_74 (by decide) (by decide) (fun c23 => ?_) (fun c23 => ?_)
          · refine zr_iconst hx hb dX2_wouldAscend_86 ?_
            exact W.zret hx hb hr (zbool_n (by decide)) (fun t ht hW => ⟨_, rfl, (congrArg zI (show 0 = zB ((xk ≤ 0 ∨ A (12 + (xk - 1)) < xl ∧ A (23 + (xk - 1)) < xu) ∧ (10 ≤ xk ∨ xl < A (12 + (xk + 1)) ∧ xu < A (23 + (xk + 1)))) from by first | exact (zB_t (by omega)).symm | exact (zB_f (by omega)).symm)), ht⟩) (fun q hq => absurd hq List.not_mem_nil) dX2_wouldAscend_87
          · exact absurd c23 (by decide)
        · refine lv_iload_n hx hb dX2_wouldAscend_41 rfl (lv_at hl 3 rfl) ?_
          refine lv_aload_n hx hb dX2_wouldAscend_42 rfl (lv_at hl 1 rfl) ?_
          refine va_get (D := D) (ci := 2) (v := .ref (q 3)) (C := RX2) (T := TX2) (N := 2) hx hb hts hiX2 hown hK hP 2 rfl rfl 0 (by decide) (hts (.fieldLink RX2 11 "ChargeEstimator$Curves" "lower" "[I") (List.mem_of_getElem? (i := 1) rfl)) (fun _ h9 => h9) rfl dX2_wouldAscend_43 ?_
          refine lv_iload_n hx hb dX2_wouldAscend_46 rfl (lv_at hl 2 rfl) ?_
          refine zr_iconst hx hb dX2_wouldAscend_47 ?_
          refine zr_iadd hx hb dX2_wouldAscend_48 ?_
          refine zr_iald (D := D) (g := (zO A 12)) hx hb hK hP 3 0 rfl rfl (by decide) (by omega) dX2_wouldAscend_49 ?_
          rw [show (zO A 12) (xk + 1) = A (12 + (xk + 1)) from by first | rfl | simp [zO, zU]]
          refine zr_icmp_ge (tgt := 69) hx hb dX2_wouldAscend_50 (by decide) (by omega) (by omega) (fun c24 => ?_) (fun c24 => ?_)
          · refine zr_iconst hx hb dX2_wouldAscend_69 ?_
            refine lv_istore (lv' := [(5, .int (zI 0)), (4, .int (zI 0)), (0, .ref (q 2)), (1, .int (zI xk)), (2, .int (zI xl)), (3, .int (zI xu))]) hx hb dX2_wouldAscend_70 hl (by decide) rfl (fun ls hl => ?_)
            refine lv_iload hx hb dX2_wouldAscend_72 (lv_at hl 1 rfl) ?_
            refine zr_if_eq (tgt := 86) hx hb dX2_wouldAscend_74 (by decide) (by decide) (fun c25 => ?_) (fun c25 => ?_)
            · refine zr_iconst hx hb dX2_wouldAscend_86 ?_
              exact W.zret hx hb hr (zbool_n (by decide)) (fun t ht hW => ⟨_, rfl, (congrArg zI (show 0 = zB ((xk ≤ 0 ∨ A (12 + (xk - 1)) < xl ∧ A (23 + (xk - 1)) < xu) ∧ (10 ≤ xk ∨ xl < A (12 + (xk + 1)) ∧ xu < A (23 + (xk + 1)))) from by first | exact (zB_t (by omega)).symm | exact (zB_f (by omega)).symm)), ht⟩) (fun q hq => absurd hq List.not_mem_nil) dX2_wouldAscend_87
            · exact absurd c25 (by decide)
          · refine lv_iload_n hx hb dX2_wouldAscend_53 rfl (lv_at hl 4 rfl) ?_
            refine lv_aload_n hx hb dX2_wouldAscend_54 rfl (lv_at hl 1 rfl) ?_
            refine va_get (D := D) (ci := 2) (v := .ref (q 4)) (C := RX2) (T := TX2) (N := 2) hx hb hts hiX2 hown hK hP 2 rfl rfl 1 (by decide) (hts (.fieldLink RX2 15 "ChargeEstimator$Curves" "upper" "[I") (List.mem_of_getElem? (i := 2) rfl)) (fun _ h9 => h9) rfl dX2_wouldAscend_55 ?_
            refine lv_iload_n hx hb dX2_wouldAscend_58 rfl (lv_at hl 2 rfl) ?_
            refine zr_iconst hx hb dX2_wouldAscend_59 ?_
            refine zr_iadd hx hb dX2_wouldAscend_60 ?_
            refine zr_iald (D := D) (g := (zO A 23)) hx hb hK hP 4 0 rfl rfl (by decide) (by omega) dX2_wouldAscend_61 ?_
            rw [show (zO A 23) (xk + 1) = A (23 + (xk + 1)) from by first | rfl | simp [zO, zU]]
            refine zr_icmp_ge (tgt := 69) hx hb dX2_wouldAscend_62 (by decide) (by omega) (by omega) (fun c26 => ?_) (fun c26 => ?_)
            · refine zr_iconst hx hb dX2_wouldAscend_69 ?_
              refine lv_istore (lv' := [(5, .int (zI 0)), (4, .int (zI 0)), (0, .ref (q 2)), (1, .int (zI xk)), (2, .int (zI xl)), (3, .int (zI xu))]) hx hb dX2_wouldAscend_70 hl (by decide) rfl (fun ls hl => ?_)
              refine lv_iload hx hb dX2_wouldAscend_72 (lv_at hl 1 rfl) ?_
              refine zr_if_eq (tgt := 86) hx hb dX2_wouldAscend_74 (by decide) (by decide) (fun c27 => ?_) (fun c27 => ?_)
              · refine zr_iconst hx hb dX2_wouldAscend_86 ?_
                exact W.zret hx hb hr (zbool_n (by decide)) (fun t ht hW => ⟨_, rfl, (congrArg zI (show 0 = zB ((xk ≤ 0 ∨ A (12 + (xk - 1)) < xl ∧ A (23 + (xk - 1)) < xu) ∧ (10 ≤ xk ∨ xl < A (12 + (xk + 1)) ∧ xu < A (23 + (xk + 1)))) from by first | exact (zB_t (by omega)).symm | exact (zB_f (by omega)).symm)), ht⟩) (fun q hq => absurd hq List.not_mem_nil) dX2_wouldAscend_87
              · exact absurd c27 (by decide)
            · refine zr_iconst hx hb dX2_wouldAscend_65 ?_
              refine lv_goto (tgt := 70) hx hb dX2_wouldAscend_66 (by decide) ?_
              refine lv_istore (lv' := [(5, .int (zI 1)), (4, .int (zI 0)), (0, .ref (q 2)), (1, .int (zI xk)), (2, .int (zI xl)), (3, .int (zI xu))]) hx hb dX2_wouldAscend_70 hl (by decide) rfl (fun ls hl => ?_)
              refine lv_iload hx hb dX2_wouldAscend_72 (lv_at hl 1 rfl) ?_
              refine zr_if_eq (tgt := 86) hx hb dX2_wouldAscend_74 (by decide) (by decide) (fun c28 => ?_) (fun c28 => ?_)
              · refine zr_iconst hx hb dX2_wouldAscend_86 ?_
                exact W.zret hx hb hr (zbool_n (by decide)) (fun t ht hW => ⟨_, rfl, (congrArg zI (show 0 = zB ((xk ≤ 0 ∨ A (12 + (xk - 1)) < xl ∧ A (23 + (xk - 1)) < xu) ∧ (10 ≤ xk ∨ xl < A (12 + (xk + 1)) ∧ xu < A (23 + (xk + 1)))) from by first | exact (zB_t (by omega)).symm | exact (zB_f (by omega)).symm)), ht⟩) (fun q hq => absurd hq List.not_mem_nil) dX2_wouldAscend_87
              · exact absurd c28 (by decide)
      · refine zr_iconst hx hb dX2_wouldAscend_28 ?_
        refine lv_goto (tgt := 33) hx hb dX2_wouldAscend_29 (by decide) ?_
        refine lv_istore (lv' := [(4, .int (zI 1)), (0, .ref (q 2)), (1, .int (zI xk)), (2, .int (zI xl)), (3, .int (zI xu))]) hx hb dX2_wouldAscend_33 hl (by decide) rfl (fun ls hl => ?_)
        refine lv_iload_n hx hb dX2_wouldAscend_35 rfl (lv_at hl 2 rfl) ?_
        refine zr_bipush hx hb dX2_wouldAscend_36 (by decide) ?_
        refine zr_icmp_ge (tgt := 65) hx hb dX2_wouldAscend_38 (by decide) (by omega) (by decide) (fun c29 => ?_) (fun c29 => ?_)
        · refine zr_iconst hx hb dX2_wouldAscend_65 ?_
          refine lv_goto (tgt := 70) hx hb dX2_wouldAscend_66 (by decide) ?_
          refine lv_istore (lv' := [(5, .int (zI 1)), (4, .int (zI 1)), (0, .ref (q 2)), (1, .int (zI xk)), (2, .int (zI xl)), (3, .int (zI xu))]) hx hb dX2_wouldAscend_70 hl (by decide) rfl (fun ls hl => ?_)
          refine lv_iload hx hb dX2_wouldAscend_72 (lv_at hl 1 rfl) ?_
          refine zr_if_eq (tgt := 86) hx hb dX2_wouldAscend_74 (by decide) (by decide) (fun c30 => ?_) (fun c30 => ?_)
          · exact absurd c30 (by decide)
          · refine lv_iload hx hb dX2_wouldAscend_77 (lv_at hl 0 rfl) ?_
            refine zr_if_eq (tgt := 86) hx hb dX2_wouldAscend_79 (by decide) (by decide) (fun c31 => ?_) (fun c31 => ?_)
            · exact absurd c31 (by decide)
            · refine zr_iconst hx hb dX2_wouldAscend_82 ?_
              refine lv_goto (tgt := 87) hx hb dX2_wouldAscend_83 (by decide) ?_
              exact W.zret hx hb hr (zbool_n (by decide)) (fun t ht hW => ⟨_, rfl, (congrArg zI (show 1 = zB ((xk ≤ 0 ∨ A (12 + (xk - 1)) < xl ∧ A (23 + (xk - 1)) < xu) ∧ (10 ≤ xk ∨ xl < A (12 + (xk + 1)) ∧ xu < A (23 + (xk + 1)))) from by first | exact (zB_t (by omega)).symm | exact (zB_f (by omega)).symm)), ht⟩) (fun q hq => absurd hq List.not_mem_nil) dX2_wouldAscend_87
        · refine lv_iload_n hx hb dX2_wouldAscend_41 rfl (lv_at hl 3 rfl) ?_
          refine lv_aload_n hx hb dX2_wouldAscend_42 rfl (lv_at hl 1 rfl) ?_
          refine va_get (D := D) (ci := 2) (v := .ref (q 3)) (C := RX2) (T := TX2) (N := 2) hx hb hts hiX2 hown hK hP 2 rfl rfl 0 (by decide) (hts (.fieldLink RX2 11 "ChargeEstimator$Curves" "lower" "[I") (List.mem_of_getElem? (i := 1) rfl)) (fun _ h9 => h9) rfl dX2_wouldAscend_43 ?_
          refine lv_iload_n hx hb dX2_wouldAscend_46 rfl (lv_at hl 2 rfl) ?_
          refine zr_iconst hx hb dX2_wouldAscend_47 ?_
          refine zr_iadd hx hb dX2_wouldAscend_48 ?_
          refine zr_iald (D := D) (g := (zO A 12)) hx hb hK hP 3 0 rfl rfl (by decide) (by omega) dX2_wouldAscend_49 ?_
          rw [show (zO A 12) (xk + 1) = A (12 + (xk + 1)) from by first | rfl | simp [zO, zU]]
          refine zr_icmp_ge (tgt := 69) hx hb dX2_wouldAscend_50 (by decide) (by omega) (by omega) (fun c32 => ?_) (fun c32 => ?_)
          · refine zr_iconst hx hb dX2_wouldAscend_69 ?_
            refine lv_istore (lv' := [(5, .int (zI 0)), (4, .int (zI 1)), (0, .ref (q 2)), (1, .int (zI xk)), (2, .int (zI xl)), (3, .int (zI xu))]) hx hb dX2_wouldAscend_70 hl (by decide) rfl (fun ls hl => ?_)
            refine lv_iload hx hb dX2_wouldAscend_72 (lv_at hl 1 rfl) ?_
            refine zr_if_eq (tgt := 86) hx hb dX2_wouldAscend_74 (by decide) (by decide) (fun c33 => ?_) (fun c33 => ?_)
            · exact absurd c33 (by decide)
            · refine lv_iload hx hb dX2_wouldAscend_77 (lv_at hl 0 rfl) ?_
              refine zr_if_eq (tgt := 86) hx hb dX2_wouldAscend_79 (by decide) (by decide) (fun c34 => ?_) (fun c34 => ?_)
              · refine zr_iconst hx hb dX2_wouldAscend_86 ?_
                exact W.zret hx hb hr (zbool_n (by decide)) (fun t ht hW => ⟨_, rfl, (congrArg zI (show 0 = zB ((xk ≤ 0 ∨ A (12 + (xk - 1)) < xl ∧ A (23 + (xk - 1)) < xu) ∧ (10 ≤ xk ∨ xl < A (12 + (xk + 1)) ∧ xu < A (23 + (xk + 1)))) from by first | exact (zB_t (by omega)).symm | exact (zB_f (by omega)).symm)), ht⟩) (fun q hq => absurd hq List.not_mem_nil) dX2_wouldAscend_87
              · exact absurd c34 (by decide)
          · refine lv_iload_n hx hb dX2_wouldAscend_53 rfl (lv_at hl 4 rfl) ?_
            refine lv_aload_n hx hb dX2_wouldAscend_54 rfl (lv_at hl 1 rfl) ?_
            refine va_get (D := D) (ci := 2) (v := .ref (q 4)) (C := RX2) (T := TX2) (N := 2) hx hb hts hiX2 hown hK hP 2 rfl rfl 1 (by decide) (hts (.fieldLink RX2 15 "ChargeEstimator$Curves" "upper" "[I") (List.mem_of_getElem? (i := 2) rfl)) (fun _ h9 => h9) rfl dX2_wouldAscend_55 ?_
            refine lv_iload_n hx hb dX2_wouldAscend_58 rfl (lv_at hl 2 rfl) ?_
            refine zr_iconst hx hb dX2_wouldAscend_59 ?_
            refine zr_iadd hx hb dX2_wouldAscend_60 ?_
            refine zr_iald (D := D) (g := (zO A 23)) hx hb hK hP 4 0 rfl rfl (by decide) (by omega) dX2_wouldAscend_61 ?_
            rw [show (zO A 23) (xk + 1) = A (23 + (xk + 1)) from by first | rfl | simp [zO, zU]]
            refine zr_icmp_ge (tgt := 69) hx hb dX2_wouldAscend_62 (by decide) (by omega) (by omega) (fun c35 => ?_) (fun c35 => ?_)
            · refine zr_iconst hx hb dX2_wouldAscend_69 ?_
              refine lv_istore (lv' := [(5, .int (zI 0)), (4, .int (zI 1)), (0, .ref (q 2)), (1, .int (zI xk)), (2, .int (zI xl)), (3, .int (zI xu))]) hx hb dX2_wouldAscend_70 hl (by decide) rfl (fun ls hl => ?_)
              refine lv_iload hx hb dX2_wouldAscend_72 (lv_at hl 1 rfl) ?_
              refine zr_if_eq (tgt := 86) hx hb dX2_wouldAscend_74 (by decide) (by decide) (fun c36 => ?_) (fun c36 => ?_)
              · exact absurd c36 (by decide)
              · refine lv_iload hx hb dX2_wouldAscend_77 (lv_at hl 0 rfl) ?_
                refine zr_if_eq (tgt := 86) hx hb dX2_wouldAscend_79 (by decide) (by decide) (fun c37 => ?_) (fun c37 => ?_)
                · refine zr_iconst hx hb dX2_wouldAscend_86 ?_
                  exact W.zret hx hb hr (zbool_n (by decide)) (fun t ht hW => ⟨_, rfl, (congrArg zI (show 0 = zB ((xk ≤ 0 ∨ A (12 + (xk - 1)) < xl ∧ A (23 + (xk - 1)) < xu) ∧ (10 ≤ xk ∨ xl < A (12 + (xk + 1)) ∧ xu < A (23 + (xk + 1)))) from by first | exact (zB_t (by omega)).symm | exact (zB_f (by omega)).symm)), ht⟩) (fun q hq => absurd hq List.not_mem_nil) dX2_wouldAscend_87
                · exact absurd c37 (by decide)
            · refine zr_iconst hx hb dX2_wouldAscend_65 ?_
              refine lv_goto (tgt := 70) hx hb dX2_wouldAscend_66 (by decide) ?_
              refine lv_istore (lv' := [(5, .int (zI 1)), (4, .int (zI 1)), (0, .ref (q 2)), (1, .int (zI xk)), (2, .int (zI xl)), (3, .int (zI xu))]) hx hb dX2_wouldAscend_70 hl (by decide) rfl (fun ls hl => ?_)
              refine lv_iload hx hb dX2_wouldAscend_72 (lv_at hl 1 rfl) ?_
              refine zr_if_eq (tgt := 86) hx hb dX2_wouldAscend_74 (by decide) (by decide) (fun c38 => ?_) (fun c38 => ?_)
              · exact absurd c38 (by decide)
              · refine lv_iload hx hb dX2_wouldAscend_77 (lv_at hl 0 rfl) ?_
                refine zr_if_eq (tgt := 86) hx hb dX2_wouldAscend_79 (by decide) (by decide) (fun c39 => ?_) (fun c39 => ?_)
                · exact absurd c39 (by decide)
                · refine zr_iconst hx hb dX2_wouldAscend_82 ?_
                  refine lv_goto (tgt := 87) hx hb dX2_wouldAscend_83 (by decide) ?_
                  exact W.zret hx hb hr (zbool_n (by decide)) (fun t ht hW => ⟨_, rfl, (congrArg zI (show 1 = zB ((xk ≤ 0 ∨ A (12 + (xk - 1)) < xl ∧ A (23 + (xk - 1)) < xu) ∧ (10 ≤ xk ∨ xl < A (12 + (xk + 1)) ∧ xu < A (23 + (xk + 1)))) from by first | exact (zB_t (by omega)).symm | exact (zB_f (by omega)).symm)), ht⟩) (fun q hq => absurd hq List.not_mem_nil) dX2_wouldAscend_87
theorem zLow_mono {n : Int} {A : Int → Int} (h : zOK n A) {i t1 t2 : Int} (hi : -50000 ≤ i ∧ i < 0) (ht : 0 ≤ t1 ∧ t1 ≤ t2) : zLow A i t2 ≤ zLow A i t1 := by
  have s := zOK_s h
  have hC := zOK_C h
  have m1 : zMov A i t1 = i * t1 := by unfold zMov; rw [if_neg (by omega)]
  have m2 : zMov A i t2 = i * t2 := by unfold zMov; rw [if_neg (by omega)]
  have a1 : (-i) * t1 ≤ (-i) * t2 := Int.mul_le_mul_of_nonneg_left ht.2 (by omega)
  have a0 : 0 ≤ (-i) * t1 := Int.mul_nonneg (by omega) ht.1
  rw [Int.neg_mul, Int.neg_mul] at a1
  rw [Int.neg_mul] at a0
  have d1 : A 1 * t1 ≤ A 1 * t2 := Int.mul_le_mul_of_nonneg_left ht.2 (by omega)
  have d2 : max (i * t1) (-(i * t1)) * A 2 ≤ max (i * t2) (-(i * t2)) * A 2 := Int.mul_le_mul_of_nonneg_right (by omega) (by omega)
  unfold zLow zDrf
  rw [m1, m2]
  exact zclamp_mono (by omega) (by omega)
theorem zHigh_mono {n : Int} {A : Int → Int} (h : zOK n A) {i t1 t2 : Int} (hi : 0 < i ∧ i ≤ 50000) (ht : 0 ≤ t1 ∧ t1 ≤ t2) : zHigh A i t1 ≤ zHigh A i t2 := by
  have s := zOK_s h
  have hC := zOK_C h
  have m1 : zMov A i t1 = i * t1 * A 0 / 1000 := by unfold zMov; rw [if_pos (by omega)]
  have m2 : zMov A i t2 = i * t2 * A 0 / 1000 := by unfold zMov; rw [if_pos (by omega)]
  have a1 : i * t1 ≤ i * t2 := Int.mul_le_mul_of_nonneg_left ht.2 (by omega)
  have a0 : 0 ≤ i * t1 := Int.mul_nonneg (by omega) ht.1
  have a2 : i * t1 * A 0 ≤ i * t2 * A 0 := Int.mul_le_mul_of_nonneg_right a1 (by omega)
  have a3 : 0 ≤ i * t1 * A 0 := Int.mul_nonneg a0 (by omega)
  have a4 : zMov A i t1 ≤ zMov A i t2 := by rw [m1, m2]; omega
  have a5 : 0 ≤ zMov A i t1 := by rw [m1]; omega
  have d1 : A 1 * t1 ≤ A 1 * t2 := Int.mul_le_mul_of_nonneg_left ht.2 (by omega)
  have d2 : max (zMov A i t1) (-(zMov A i t1)) * A 2 ≤ max (zMov A i t2) (-(zMov A i t2)) * A 2 := Int.mul_le_mul_of_nonneg_right (by omega) (by omega)
  unfold zHigh zDrf
  exact zclamp_mono (by omega) (by omega)
def zWlow (A : Int → Int) (i l : Int) : Int := zFst (fun t => decide (zLow A i t ≤ l)) 1000001 0
def zWhigh (A : Int → Int) (i : Int) : Int := zFst (fun t => decide (A 37 ≤ zHigh A i t)) 1000001 0
theorem zWlow_eq {A : Int → Int} {i l r : Int} (h1 : 0 ≤ r) (h2 : r ≤ 1000001) (h3 : ∀ k, 0 ≤ k → k < r → l < zLow A i k) (h4 : r < 1000001 → zLow A i r ≤ l) : r = zWlow A i l :=
  (zFst_eq h1 (by omega) (fun k a b => by have := h3 k a b; simp; omega) (fun a => by have := h4 (by omega); simp; omega)).symm
theorem zWhigh_eq {A : Int → Int} {i r : Int} (h1 : 0 ≤ r) (h2 : r ≤ 1000001) (h3 : ∀ k, 0 ≤ k → k < r → zHigh A i k < A 37) (h4 : r < 1000001 → A 37 ≤ zHigh A i r) : r = zWhigh A i :=
  (zFst_eq h1 (by omega) (fun k a b => by have := h3 k a b; simp; omega) (fun a => by have := h4 (by omega); simp; omega)).symm
theorem zWlow_fin {A : Int → Int} {i l f g : Int} (hf : 0 ≤ f ∧ f ≤ g ∧ g ≤ 1000001) (e : f = g) (jl : ∀ k : Int, 0 ≤ k → k < f → l < zLow A i k) (jh : g < 1000001 → zLow A i g ≤ l) : f = zWlow A i l :=
  zWlow_eq hf.1 (by omega) jl (by rw [e]; exact jh)
theorem zWhigh_fin {A : Int → Int} {i f g : Int} (hf : 0 ≤ f ∧ f ≤ g ∧ g ≤ 1000001) (e : f = g) (jl : ∀ k : Int, 0 ≤ k → k < f → zHigh A i k < A 37) (jh : g < 1000001 → A 37 ≤ zHigh A i g) : f = zWhigh A i :=
  zWhigh_eq hf.1 (by omega) jl (by rw [e]; exact jh)
set_option maxHeartbeats 4000000 in
set_option maxRecDepth 100000 in
theorem met_X1_whenLowAtMost (l : Launch) (D : va_G) (cs : Nat → ClassId) (q : Nat → Nat) (n : Int) (A : Int → Int) (xi xl : Int) (hI : zOK n A) (hn : 0 ≤ n ∧ n ≤ 3100000) (kxi : -50000 ≤ xi ∧ xi < 0) (kxl : -1 ≤ xl ∧ xl ≤ 1000000000) : Met l yX1_whenLowAtMost wsX1_whenLowAtMost ({ frames := 3, cells := 0, slots := 0, locals := 64 }) (va_Pc [.ref (q 0), .int (zI xi), .long (zL xl)] (zPre D (zTy cs) (zbat cs q A))) (zRi (zI (zWlow A xi xl))) 0 0 (fun _ => False) := by
  refine Met.ofW (cc := cX1_whenLowAtMost) (maxL := 8) (ret := (some .int)) (by decide) rfl ?_
  intro p e s m args below meth c s₁ B hml hv
  obtain ⟨rfl, hP, hK, hD0, hN⟩ := hv
  have hx := B.exec
  have hb := B.bytes
  have hr := B.returns
  have hts := atoms_spec (ws := wsX1_whenLowAtMost) B.pre
  have hown : s.vm.findClass RX1 = some m.cls := findClass_of_methodNamed B.named
  have hlocks := B.notSynchronized
  have hD := hD0
  have hl := lv_entry ([.ref (q 0), .int (zI xi), .long (zL xl)]) (n := 8) (Nat.le_of_ble_eq_true rfl)
  rw [lg_entry_eq]
  generalize (lg_sl ([.ref (q 0), .int (zI xi), .long (zL xl)]) ++ List.replicate (8 - (lg_sl ([.ref (q 0), .int (zI xi), .long (zL xl)])).length) Slot.unset).toArray = ls at hl ⊢
  have hl : lv_has ls 8 [(0, .ref (q 0)), (1, .int (zI xi)), (2, .long (zL xl))] := hl
  have hC := zOK_C hI
  refine zr_iconst hx hb dX1_whenLowAtMost_0 ?_
  refine lv_istore (lv' := [(4, .int (zI 0)), (0, .ref (q 0)), (1, .int (zI xi)), (2, .long (zL xl))]) hx hb dX1_whenLowAtMost_1 hl (by decide) rfl (fun ls hl => ?_)
  refine zr_ldc (n := 1000001) hx hb hown (hts (.constant RX1 224 (1000001)) (List.mem_of_getElem? (i := 1) rfl)) rfl dX1_whenLowAtMost_3 ?_
  refine lv_istore (lv' := [(5, .int (zI 1000001)), (4, .int (zI 0)), (0, .ref (q 0)), (1, .int (zI xi)), (2, .long (zL xl))]) hx hb dX1_whenLowAtMost_5 hl (by decide) rfl (fun ls hl => ?_)
  refine zr_iconst hx hb dX1_whenLowAtMost_7 ?_
  refine lv_istore (lv' := [(6, .int (zI 0)), (5, .int (zI 1000001)), (4, .int (zI 0)), (0, .ref (q 0)), (1, .int (zI xi)), (2, .long (zL xl))]) hx hb dX1_whenLowAtMost_8 hl (by decide) rfl (fun ls hl => ?_)
  suffices J_10 : ∀ (nn : Nat) (xf : Int) (xg : Int) (xj : Int) (xP : Int) (jf : 0 ≤ xf ∧ xf ≤ xg ∧ xg ≤ 1000001) (jj : 0 ≤ xj ∧ xj ≤ 32) (jP : xP = 2 ^ xj.toNat) (jm : (xg - xf) * xP ≤ 1000001) (jl : ∀ k : Int, 0 ≤ k → k < xf → xl < zLow A xi k) (jh : xg < 1000001 → zLow A xi xg ≤ xl) (hmu : 32 - xj < (nn : Int)) (ls : Array Slot) (hl : lv_has ls 8 [(4, .int (zI xf)), (5, .int (zI xg)), (6, .int (zI xj)), (0, .ref (q 0)), (1, .int (zI xi)), (2, .long (zL xl))]), W p l e (headSpec wsX1_whenLowAtMost ({ frames := 3, cells := 0, slots := 0, locals := 64 })).room s m ([.ref (q 0), .int (zI xi), .long (zL xl)] : List Value).toArray below meth c s.heap [] 0 0 (MQ below (zRi (zI (zWlow A xi xl))) ([.ref (q 0), .int (zI xi), .long (zL xl)] : List Value).toArray s 0 0 (fun _ => False)) (F0 m 10 ls []) by
    exact J_10 (((32 - 0) : Int).toNat + 1) 0 1000001 0 1 (by omega) (by omega) (by first | rfl | (rw [zpow_s (by omega)]; omega)) (by first | decide | exact zhalf (y := xg - xf) (by omega) (by rw [jP]; exact zpow_1 _) jm) (by first | (intro k a b; omega) | assumption | (intro k a b; have := zLow_mono hI (i := xi) (t1 := k) (t2 := (xf + xg) / 2) (by omega) (by omega); omega)) (by first | (intro a; omega) | assumption | (intro _; assumption)) (by have : (0 : Int) ≤ 32 - 0 := (by omega); omega) _ (lv_sub hl [2, 1, 0, 3, 4, 5] rfl)
  intro nn
  induction nn with
  | zero => intro xf xg xj xP jf jj jP jm jl jh hmu; exfalso; have : (0 : Int) ≤ 32 - xj := (by omega); omega
  | succ nn ih =>
    intro xf xg xj xP jf jj jP jm jl jh hmu ls hl
    refine lv_iload hx hb dX1_whenLowAtMost_10 (lv_at hl 2 rfl) ?_
    refine zr_bipush hx hb dX1_whenLowAtMost_12 (by decide) ?_
    refine zr_icmp_ge (tgt := 64) hx hb dX1_whenLowAtMost_14 (by decide) (by omega) (by decide) (fun c1 => ?_) (fun c1 => ?_)
    · refine lv_iload hx hb dX1_whenLowAtMost_64 (lv_at hl 0 rfl) ?_
      exact W.iret hx hb hr (fun t ht hW => ⟨_, rfl, (congrArg zI (show xf = zWlow A xi xl from by first | exact zWlow_fin jf (by omega) jl jh | exact zWlow_fin jf (zend jP jm (show xj = 32 by omega) (by decide) jf.2.1) jl jh)), ht⟩) (fun q hq => absurd hq List.not_mem_nil) dX1_whenLowAtMost_66
    · refine lv_iload hx hb dX1_whenLowAtMost_17 (lv_at hl 0 rfl) ?_
      refine lv_iload hx hb dX1_whenLowAtMost_19 (lv_at hl 1 rfl) ?_
      refine zr_icmp_ge (tgt := 64) hx hb dX1_whenLowAtMost_21 (by decide) (by omega) (by omega) (fun c2 => ?_) (fun c2 => ?_)
      · refine lv_iload hx hb dX1_whenLowAtMost_64 (lv_at hl 0 rfl) ?_
        exact W.iret hx hb hr (fun t ht hW => ⟨_, rfl, (congrArg zI (show xf = zWlow A xi xl from by first | exact zWlow_fin jf (by omega) jl jh | exact zWlow_fin jf (zend jP jm (show xj = 32 by omega) (by decide) jf.2.1) jl jh)), ht⟩) (fun q hq => absurd hq List.not_mem_nil) dX1_whenLowAtMost_66
      · refine lv_iload hx hb dX1_whenLowAtMost_24 (lv_at hl 0 rfl) ?_
        refine lv_iload hx hb dX1_whenLowAtMost_26 (lv_at hl 1 rfl) ?_
        refine zr_iadd hx hb dX1_whenLowAtMost_28 ?_
        refine zr_iconst hx hb dX1_whenLowAtMost_29 ?_
        refine zr_idiv hx hb dX1_whenLowAtMost_30 (by omega) (by decide) ?_
        refine lv_istore (lv' := [(7, .int (zI ((xf + xg) / 2))), (4, .int (zI xf)), (5, .int (zI xg)), (6, .int (zI xj)), (0, .ref (q 0)), (1, .int (zI xi)), (2, .long (zL xl))]) hx hb dX1_whenLowAtMost_31 hl (by decide) rfl (fun ls hl => ?_)
        refine lv_aload_n hx hb dX1_whenLowAtMost_33 rfl (lv_at hl 4 rfl) ?_
        refine lv_iload_n hx hb dX1_whenLowAtMost_34 rfl (lv_at hl 5 rfl) ?_
        refine lv_iload hx hb dX1_whenLowAtMost_35 (lv_at hl 0 rfl) ?_
        refine zc_rl (va_runV (As := [.int (zI xi), .int (zI ((xf + xg) / 2))]) (rest := []) ⟨hx, hb, hml, hown, hts⟩ (met_X1_lowAfter l D cs q A xi ((xf + xg) / 2) (by first | assumption | exact zOK_w (by assumption)) (by first | assumption | omega) (by first | assumption | omega)) (cwV 2 hts gX1_whenLowAtMost_X1_lowAfter rfl rfl rfl (by decide +kernel) ⟨Nat.le_of_ble_eq_true rfl, Nat.le_of_ble_eq_true rfl⟩) ⟨zPre.blind, va_recv hK hP (ci := 1) (q0 := 0) rfl rfl, fun U hU hW => zp_R hP hK hD hN hU hW⟩ rfl rfl hl.1 rfl (lv_room (Nat.le_of_ble_eq_true rfl)) dX1_whenLowAtMost_37 ⟨Nat.le_of_ble_eq_true rfl, Nat.le_of_ble_eq_true rfl⟩) ?_
        have he := zLow_e hI xi ((xf + xg) / 2)
        have he2 := zHigh_e hI xi ((xf + xg) / 2)
        refine lv_lload_n hx hb dX1_whenLowAtMost_40 rfl (lv_at hl 6 rfl) ?_
        refine zr_lcmp_gt (tgt := 52) hx hb dX1_whenLowAtMost_41 dX1_whenLowAtMost_42 (by decide) (by omega) (by omega) (fun c3 => ?_) (fun c3 => ?_)
        · refine lv_iload hx hb dX1_whenLowAtMost_52 (lv_at hl 0 rfl) ?_
          refine zr_iconst hx hb dX1_whenLowAtMost_54 ?_
          refine zr_iadd hx hb dX1_whenLowAtMost_55 ?_
          refine lv_istore (lv' := [(4, .int (zI (((xf + xg) / 2) + 1))), (7, .int (zI ((xf + xg) / 2))), (5, .int (zI xg)), (6, .int (zI xj)), (0, .ref (q 0)), (1, .int (zI xi)), (2, .long (zL xl))]) hx hb dX1_whenLowAtMost_56 hl (by decide) rfl (fun ls hl => ?_)
          refine zr_iinc (kk := 3) (lv' := [(6, .int (zI (xj + 1))), (4, .int (zI (((xf + xg) / 2) + 1))), (7, .int (zI ((xf + xg) / 2))), (5, .int (zI xg)), (0, .ref (q 0)), (1, .int (zI xi)), (2, .long (zL xl))]) hx hb dX1_whenLowAtMost_58 hl rfl (by decide) rfl (fun ls hl => ?_)
          refine lv_goto (tgt := 10) hx hb dX1_whenLowAtMost_61 (by decide) ?_
          exact ih (((xf + xg) / 2) + 1) xg (xj + 1) (2 * xP) (by omega) (by omega) (by first | rfl | (rw [zpow_s (by omega)]; omega)) (by first | decide | exact zhalf (y := xg - xf) (by omega) (by rw [jP]; exact zpow_1 _) jm) (by first | (intro k a b; omega) | assumption | (intro k a b; have := zLow_mono hI (i := xi) (t1 := k) (t2 := (xf + xg) / 2) (by omega) (by omega); omega)) (by first | (intro a; omega) | assumption | (intro _; assumption)) (by omega) _ (lv_sub hl [1, 3, 0, 4, 5, 6] rfl)
        · refine lv_iload hx hb dX1_whenLowAtMost_45 (lv_at hl 0 rfl) ?_
          refine lv_istore (lv' := [(5, .int (zI ((xf + xg) / 2))), (7, .int (zI ((xf + xg) / 2))), (4, .int (zI xf)), (6, .int (zI xj)), (0, .ref (q 0)), (1, .int (zI xi)), (2, .long (zL xl))]) hx hb dX1_whenLowAtMost_47 hl (by decide) rfl (fun ls hl => ?_)
          refine lv_goto (tgt := 58) hx hb dX1_whenLowAtMost_49 (by decide) ?_
          refine zr_iinc (kk := 3) (lv' := [(6, .int (zI (xj + 1))), (5, .int (zI ((xf + xg) / 2))), (7, .int (zI ((xf + xg) / 2))), (4, .int (zI xf)), (0, .ref (q 0)), (1, .int (zI xi)), (2, .long (zL xl))]) hx hb dX1_whenLowAtMost_58 hl rfl (by decide) rfl (fun ls hl => ?_)
          refine lv_goto (tgt := 10) hx hb dX1_whenLowAtMost_61 (by decide) ?_
          exact ih xf ((xf + xg) / 2) (xj + 1) (2 * xP) (by omega) (by omega) (by first | rfl | (rw [zpow_s (by omega)]; omega)) (by first | decide | exact zhalf (y := xg - xf) (by omega) (by rw [jP]; exact zpow_1 _) jm) (by first | (intro k a b; omega) | assumption | (intro k a b; have := zLow_mono hI (i := xi) (t1 := k) (t2 := (xf + xg) / 2) (by omega) (by omega); omega)) (by first | (intro a; omega) | assumption | (intro _; assumption)) (by omega) _ (lv_sub hl [3, 1, 0, 4, 5, 6] rfl)
set_option maxHeartbeats 4000000 in
set_option maxRecDepth 100000 in
theorem met_X1_whenHighWhole (l : Launch) (D : va_G) (cs : Nat → ClassId) (q : Nat → Nat) (n : Int) (A : Int → Int) (xi : Int) (hI : zOK n A) (hn : 0 ≤ n ∧ n ≤ 3100000) (kxi : 0 < xi ∧ xi ≤ 50000) : Met l yX1_whenHighWhole wsX1_whenHighWhole ({ frames := 3, cells := 0, slots := 0, locals := 64 }) (va_Pc [.ref (q 0), .int (zI xi)] (zPre D (zTy cs) (zbat cs q A))) (zRi (zI (zWhigh A xi))) 0 0 (fun _ => False) := by
  refine Met.ofW (cc := cX1_whenHighWhole) (maxL := 6) (ret := (some .int)) (by decide) rfl ?_
  intro p e s m args below meth c s₁ B hml hv
  obtain ⟨rfl, hP, hK, hD0, hN⟩ := hv
  have hx := B.exec
  have hb := B.bytes
  have hr := B.returns
  have hts := atoms_spec (ws := wsX1_whenHighWhole) B.pre
  have hown : s.vm.findClass RX1 = some m.cls := findClass_of_methodNamed B.named
  have hlocks := B.notSynchronized
  have hD := hD0
  have hl := lv_entry ([.ref (q 0), .int (zI xi)]) (n := 6) (Nat.le_of_ble_eq_true rfl)
  rw [lg_entry_eq]
  generalize (lg_sl ([.ref (q 0), .int (zI xi)]) ++ List.replicate (6 - (lg_sl ([.ref (q 0), .int (zI xi)])).length) Slot.unset).toArray = ls at hl ⊢
  have hl : lv_has ls 6 [(0, .ref (q 0)), (1, .int (zI xi))] := hl
  have hiX1 : ∀ w ∈ wsX10, w ∈ wsX1_whenHighWhole := by decide +kernel
  have hC := zOK_C hI
  refine zr_iconst hx hb dX1_whenHighWhole_0 ?_
  refine lv_istore_n (lv' := [(2, .int (zI 0)), (0, .ref (q 0)), (1, .int (zI xi))]) hx hb dX1_whenHighWhole_1 rfl hl (by decide) rfl (fun ls hl => ?_)
  refine zr_ldc (n := 1000001) hx hb hown (hts (.constant RX1 224 (1000001)) (List.mem_of_getElem? (i := 1) rfl)) rfl dX1_whenHighWhole_2 ?_
  refine lv_istore_n (lv' := [(3, .int (zI 1000001)), (2, .int (zI 0)), (0, .ref (q 0)), (1, .int (zI xi))]) hx hb dX1_whenHighWhole_4 rfl hl (by decide) rfl (fun ls hl => ?_)
  refine zr_iconst hx hb dX1_whenHighWhole_5 ?_
  refine lv_istore (lv' := [(4, .int (zI 0)), (3, .int (zI 1000001)), (2, .int (zI 0)), (0, .ref (q 0)), (1, .int (zI xi))]) hx hb dX1_whenHighWhole_6 hl (by decide) rfl (fun ls hl => ?_)
  suffices J_8 : ∀ (nn : Nat) (xf : Int) (xg : Int) (xj : Int) (xP : Int) (jf : 0 ≤ xf ∧ xf ≤ xg ∧ xg ≤ 1000001) (jj : 0 ≤ xj ∧ xj ≤ 32) (jP : xP = 2 ^ xj.toNat) (jm : (xg - xf) * xP ≤ 1000001) (jl : ∀ k : Int, 0 ≤ k → k < xf → zHigh A xi k < A 37) (jh : xg < 1000001 → A 37 ≤ zHigh A xi xg) (hmu : 32 - xj < (nn : Int)) (ls : Array Slot) (hl : lv_has ls 6 [(2, .int (zI xf)), (3, .int (zI xg)), (4, .int (zI xj)), (0, .ref (q 0)), (1, .int (zI xi))]), W p l e (headSpec wsX1_whenHighWhole ({ frames := 3, cells := 0, slots := 0, locals := 64 })).room s m ([.ref (q 0), .int (zI xi)] : List Value).toArray below meth c s.heap [] 0 0 (MQ below (zRi (zI (zWhigh A xi))) ([.ref (q 0), .int (zI xi)] : List Value).toArray s 0 0 (fun _ => False)) (F0 m 8 ls []) by
    exact J_8 (((32 - 0) : Int).toNat + 1) 0 1000001 0 1 (by omega) (by omega) (by first | rfl | (rw [zpow_s (by omega)]; omega)) (by first | decide | exact zhalf (y := xg - xf) (by omega) (by rw [jP]; exact zpow_1 _) jm) (by first | (intro k a b; omega) | assumption | (intro k a b; have := zHigh_mono hI (i := xi) (t1 := k) (t2 := (xf + xg) / 2) (by omega) (by omega); omega)) (by first | (intro a; omega) | assumption | (intro _; assumption)) (by have : (0 : Int) ≤ 32 - 0 := (by omega); omega) _ (lv_sub hl [2, 1, 0, 3, 4] rfl)
  intro nn
  induction nn with
  | zero => intro xf xg xj xP jf jj jP jm jl jh hmu; exfalso; have : (0 : Int) ≤ 32 - xj := (by omega); omega
  | succ nn ih =>
    intro xf xg xj xP jf jj jP jm jl jh hmu ls hl
    refine lv_iload hx hb dX1_whenHighWhole_8 (lv_at hl 2 rfl) ?_
    refine zr_bipush hx hb dX1_whenHighWhole_10 (by decide) ?_
    refine zr_icmp_ge (tgt := 59) hx hb dX1_whenHighWhole_12 (by decide) (by omega) (by decide) (fun c1 => ?_) (fun c1 => ?_)
    · refine lv_iload_n hx hb dX1_whenHighWhole_59 rfl (lv_at hl 0 rfl) ?_
      exact W.iret hx hb hr (fun t ht hW => ⟨_, rfl, (congrArg zI (show xf = zWhigh A xi from by first | exact zWhigh_fin jf (by omega) jl jh | exact zWhigh_fin jf (zend jP jm (show xj = 32 by omega) (by decide) jf.2.1) jl jh)), ht⟩) (fun q hq => absurd hq List.not_mem_nil) dX1_whenHighWhole_60
    · refine lv_iload_n hx hb dX1_whenHighWhole_15 rfl (lv_at hl 0 rfl) ?_
      refine lv_iload_n hx hb dX1_whenHighWhole_16 rfl (lv_at hl 1 rfl) ?_
      refine zr_icmp_ge (tgt := 59) hx hb dX1_whenHighWhole_17 (by decide) (by omega) (by omega) (fun c2 => ?_) (fun c2 => ?_)
      · refine lv_iload_n hx hb dX1_whenHighWhole_59 rfl (lv_at hl 0 rfl) ?_
        exact W.iret hx hb hr (fun t ht hW => ⟨_, rfl, (congrArg zI (show xf = zWhigh A xi from by first | exact zWhigh_fin jf (by omega) jl jh | exact zWhigh_fin jf (zend jP jm (show xj = 32 by omega) (by decide) jf.2.1) jl jh)), ht⟩) (fun q hq => absurd hq List.not_mem_nil) dX1_whenHighWhole_60
      · refine lv_iload_n hx hb dX1_whenHighWhole_20 rfl (lv_at hl 0 rfl) ?_
        refine lv_iload_n hx hb dX1_whenHighWhole_21 rfl (lv_at hl 1 rfl) ?_
        refine zr_iadd hx hb dX1_whenHighWhole_22 ?_
        refine zr_iconst hx hb dX1_whenHighWhole_23 ?_
        refine zr_idiv hx hb dX1_whenHighWhole_24 (by omega) (by decide) ?_
        refine lv_istore (lv' := [(5, .int (zI ((xf + xg) / 2))), (2, .int (zI xf)), (3, .int (zI xg)), (4, .int (zI xj)), (0, .ref (q 0)), (1, .int (zI xi))]) hx hb dX1_whenHighWhole_25 hl (by decide) rfl (fun ls hl => ?_)
        refine lv_aload_n hx hb dX1_whenHighWhole_27 rfl (lv_at hl 4 rfl) ?_
        refine lv_iload_n hx hb dX1_whenHighWhole_28 rfl (lv_at hl 5 rfl) ?_
        refine lv_iload hx hb dX1_whenHighWhole_29 (lv_at hl 0 rfl) ?_
        refine zc_rl (va_runV (As := [.int (zI xi), .int (zI ((xf + xg) / 2))]) (rest := []) ⟨hx, hb, hml, hown, hts⟩ (met_X1_highAfter l D cs q A xi ((xf + xg) / 2) (by first | assumption | exact zOK_w (by assumption)) (by first | assumption | omega) (by first | assumption | omega)) (cwV 2 hts gX1_whenHighWhole_X1_highAfter rfl rfl rfl (by decide +kernel) ⟨Nat.le_of_ble_eq_true rfl, Nat.le_of_ble_eq_true rfl⟩) ⟨zPre.blind, va_recv hK hP (ci := 1) (q0 := 0) rfl rfl, fun U hU hW => zp_R hP hK hD hN hU hW⟩ rfl rfl hl.1 rfl (lv_room (Nat.le_of_ble_eq_true rfl)) dX1_whenHighWhole_31 ⟨Nat.le_of_ble_eq_true rfl, Nat.le_of_ble_eq_true rfl⟩) ?_
        have he := zLow_e hI xi ((xf + xg) / 2)
        have he2 := zHigh_e hI xi ((xf + xg) / 2)
        refine lv_aload_n hx hb dX1_whenHighWhole_34 rfl (lv_at hl 4 rfl) ?_
        refine va_get (D := D) (ci := 1) (v := .long (zL (A 37))) (C := RX1) (T := TX1) (N := 18) hx hb hts hiX1 hown hK hP 0 rfl rfl 4 (by decide) (hts (.fieldLink RX1 48 "ChargeEstimator$Battery" "capacity" "J") (List.mem_of_getElem? (i := 2) rfl)) (fun _ h9 => h9) rfl dX1_whenHighWhole_35 ?_
        refine zr_lcmp_lt (tgt := 48) hx hb dX1_whenHighWhole_38 dX1_whenHighWhole_39 (by decide) (by omega) (by omega) (fun c3 => ?_) (fun c3 => ?_)
        · refine lv_iload hx hb dX1_whenHighWhole_48 (lv_at hl 0 rfl) ?_
          refine zr_iconst hx hb dX1_whenHighWhole_50 ?_
          refine zr_iadd hx hb dX1_whenHighWhole_51 ?_
          refine lv_istore_n (lv' := [(2, .int (zI (((xf + xg) / 2) + 1))), (5, .int (zI ((xf + xg) / 2))), (3, .int (zI xg)), (4, .int (zI xj)), (0, .ref (q 0)), (1, .int (zI xi))]) hx hb dX1_whenHighWhole_52 rfl hl (by decide) rfl (fun ls hl => ?_)
          refine zr_iinc (kk := 3) (lv' := [(4, .int (zI (xj + 1))), (2, .int (zI (((xf + xg) / 2) + 1))), (5, .int (zI ((xf + xg) / 2))), (3, .int (zI xg)), (0, .ref (q 0)), (1, .int (zI xi))]) hx hb dX1_whenHighWhole_53 hl rfl (by decide) rfl (fun ls hl => ?_)
          refine lv_goto (tgt := 8) hx hb dX1_whenHighWhole_56 (by decide) ?_
          exact ih (((xf + xg) / 2) + 1) xg (xj + 1) (2 * xP) (by omega) (by omega) (by first | rfl | (rw [zpow_s (by omega)]; omega)) (by first | decide | exact zhalf (y := xg - xf) (by omega) (by rw [jP]; exact zpow_1 _) jm) (by first | (intro k a b; omega) | assumption | (intro k a b; have := zHigh_mono hI (i := xi) (t1 := k) (t2 := (xf + xg) / 2) (by omega) (by omega); omega)) (by first | (intro a; omega) | assumption | (intro _; assumption)) (by omega) _ (lv_sub hl [1, 3, 0, 4, 5] rfl)
        · refine lv_iload hx hb dX1_whenHighWhole_42 (lv_at hl 0 rfl) ?_
          refine lv_istore_n (lv' := [(3, .int (zI ((xf + xg) / 2))), (5, .int (zI ((xf + xg) / 2))), (2, .int (zI xf)), (4, .int (zI xj)), (0, .ref (q 0)), (1, .int (zI xi))]) hx hb dX1_whenHighWhole_44 rfl hl (by decide) rfl (fun ls hl => ?_)
          refine lv_goto (tgt := 53) hx hb dX1_whenHighWhole_45 (by decide) ?_
          refine zr_iinc (kk := 3) (lv' := [(4, .int (zI (xj + 1))), (3, .int (zI ((xf + xg) / 2))), (5, .int (zI ((xf + xg) / 2))), (2, .int (zI xf)), (0, .ref (q 0)), (1, .int (zI xi))]) hx hb dX1_whenHighWhole_53 hl rfl (by decide) rfl (fun ls hl => ?_)
          refine lv_goto (tgt := 8) hx hb dX1_whenHighWhole_56 (by decide) ?_
          exact ih xf ((xf + xg) / 2) (xj + 1) (2 * xP) (by omega) (by omega) (by first | rfl | (rw [zpow_s (by omega)]; omega)) (by first | decide | exact zhalf (y := xg - xf) (by omega) (by rw [jP]; exact zpow_1 _) jm) (by first | (intro k a b; omega) | assumption | (intro k a b; have := zHigh_mono hI (i := xi) (t1 := k) (t2 := (xf + xg) / 2) (by omega) (by omega); omega)) (by first | (intro a; omega) | assumption | (intro _; assumption)) (by omega) _ (lv_sub hl [3, 1, 0, 4, 5] rfl)
theorem zNew_e (A : Int → Int) (N : Int) (k : Int) (h45 : k ≠ 45) (h46 : k ≠ 46) (h48 : k ≠ 48) (h49 : k ≠ 49) : zU (zU (zU (zU (zU (zU (zU (zU (zU (zU (zU (zU (zU (zU (zU (zU A 38 N) 37 N) 34 (N / 2)) 35 0) 36 N) 39 0) 41 0) 40 0) 42 0) 43 0) 44 0) 50 0) 51 0) 45 0) 47 0) 52 0 k = zNew A N k := by
  by_cases h : 34 ≤ k ∧ k ≤ 52
  · rcases (show k = 34 ∨ k = 35 ∨ k = 36 ∨ k = 37 ∨ k = 38 ∨ k = 39 ∨ k = 40 ∨ k = 41 ∨ k = 42 ∨ k = 43 ∨ k = 44 ∨ k = 45 ∨ k = 46 ∨ k = 47 ∨ k = 48 ∨ k = 49 ∨ k = 50 ∨ k = 51 ∨ k = 52 by omega) with rfl | rfl | rfl | rfl | rfl | rfl | rfl | rfl | rfl | rfl | rfl | rfl | rfl | rfl | rfl | rfl | rfl | rfl | rfl <;> first | rfl | exact absurd rfl h45 | exact absurd rfl h46 | exact absurd rfl h48 | exact absurd rfl h49
  · have e : zNew A N k = A k := by
      unfold zNew
      rw [zU_ne _ _ (by omega), zU_ne _ _ (by omega), zU_ne _ _ (by omega), zU_ne _ _ (by omega), zU_ne _ _ (by omega)]
      exact if_neg h
    rw [e, zU_ne _ _ (by omega), zU_ne _ _ (by omega), zU_ne _ _ (by omega), zU_ne _ _ (by omega), zU_ne _ _ (by omega), zU_ne _ _ (by omega), zU_ne _ _ (by omega), zU_ne _ _ (by omega), zU_ne _ _ (by omega), zU_ne _ _ (by omega), zU_ne _ _ (by omega), zU_ne _ _ (by omega), zU_ne _ _ (by omega), zU_ne _ _ (by omega), zU_ne _ _ (by omega), zU_ne _ _ (by omega)]
set_option maxHeartbeats 4000000 in
set_option maxRecDepth 100000 in
theorem met_X1_startAnew (l : Launch) (D : va_G) (cs : Nat → ClassId) (q : Nat → Nat) (sz : Nat) (A : Int → Int) (xn : Int) (kxn : 0 ≤ xn ∧ xn ≤ 100000000) : Met l yX1_startAnew wsX1_startAnew ({ frames := 1, cells := 0, slots := 0, locals := 20 }) (va_Pc [.ref (q 0), .long (zL xn)] (zPreZ D (zTy cs) (zbat cs q A) sz)) (zQv D (zbat cs q A) sz (zbat cs q (zNew A xn))) 0 0 (va_A (zbat cs q A) sz) := by
  refine Met.ofW (cc := cX1_startAnew) (maxL := 3) (ret := none) (by decide) rfl ?_
  intro p e s m args below meth c s₁ B hml hv
  obtain ⟨rfl, hsz, hP, hK, hD0, hN⟩ := hv
  have hx := B.exec
  have hb := B.bytes
  have hr := B.returns
  have hts := atoms_spec (ws := wsX1_startAnew) B.pre
  have hown : s.vm.findClass RX1 = some m.cls := findClass_of_methodNamed B.named
  have hlocks := B.notSynchronized
  subst hsz
  obtain ⟨A0, hAe⟩ : ∃ A0, A0 = va_A (zbat cs q A) s.heap.size := ⟨_, rfl⟩
  have hD := hD0.self (sz := s.heap.size)
  rw [← hAe] at hD
  have hA : ∀ q : Nat, s.heap.size ≤ q → A0 q := fun q h => by rw [hAe]; exact Or.inr h
  have hS : va_S A0 s.heap s.heap [] := va_S.rf
  have hP : va_P D vwCl (zbat cs q A) s.heap := hP
  have hl := lv_entry ([.ref (q 0), .long (zL xn)]) (n := 3) (Nat.le_of_ble_eq_true rfl)
  rw [lg_entry_eq]
  generalize (lg_sl ([.ref (q 0), .long (zL xn)]) ++ List.replicate (3 - (lg_sl ([.ref (q 0), .long (zL xn)])).length) Slot.unset).toArray = ls at hl ⊢
  have hl : lv_has ls 3 [(0, .ref (q 0)), (1, .long (zL xn))] := hl
  have hiX1 : ∀ w ∈ wsX10, w ∈ wsX1_startAnew := by decide +kernel
  refine lv_aload_n hx hb dX1_startAnew_0 rfl (lv_at hl 0 rfl) ?_
  refine lv_lload_n hx hb dX1_startAnew_1 rfl (lv_at hl 1 rfl) ?_
  refine va_put (D := D) (ci := 1) (v := .long (zL xn)) (ty := .long) (C := RX1) (T := TX1) (N := 18) hx hb hts hiX1 tyX1 tyX1_ok nmX1 hown hK hP hD hS 0 rfl rfl 3 (by decide) (hts (.fieldLink RX1 44 "ChargeEstimator$Battery" "nominal" "J") (List.mem_of_getElem? (i := 1) rfl)) (fun _ h9 => h9) rfl (by decide +kernel) rfl rfl (Nat.le_of_ble_eq_true rfl) dX1_startAnew_2 (fun H locs hP hD hS => ?_)
  have hP : va_P D vwCl (zbat cs q (zU A 38 xn)) H := zbp_38 hP
  have hD : va_D A0 (zbat cs q (zU A 38 xn)) := zD_addr hD rfl
  refine lv_aload_n hx hb dX1_startAnew_5 rfl (lv_at hl 0 rfl) ?_
  refine lv_lload_n hx hb dX1_startAnew_6 rfl (lv_at hl 1 rfl) ?_
  refine va_put (D := D) (ci := 1) (v := .long (zL xn)) (ty := .long) (C := RX1) (T := TX1) (N := 18) hx hb hts hiX1 tyX1 tyX1_ok nmX1 hown hK hP hD hS 0 rfl rfl 4 (by decide) (hts (.fieldLink RX1 48 "ChargeEstimator$Battery" "capacity" "J") (List.mem_of_getElem? (i := 2) rfl)) (fun _ h9 => h9) rfl (by decide +kernel) rfl rfl (Nat.le_of_ble_eq_true rfl) dX1_startAnew_7 (fun H locs hP hD hS => ?_)
  have hP : va_P D vwCl (zbat cs q (zU (zU A 38 xn) 37 xn)) H := zbp_37 hP
  have hD : va_D A0 (zbat cs q (zU (zU A 38 xn) 37 xn)) := zD_addr hD rfl
  refine lv_aload_n hx hb dX1_startAnew_10 rfl (lv_at hl 0 rfl) ?_
  refine lv_lload_n hx hb dX1_startAnew_11 rfl (lv_at hl 1 rfl) ?_
  refine zr_ldc2 (n := 2) hx hb hown (hts (.constantLong RX1 51 (2)) (List.mem_of_getElem? (i := 3) rfl)) rfl dX1_startAnew_12 ?_
  refine zr_ldiv hx hb dX1_startAnew_15 (by omega) (by decide) ?_
  refine va_put (D := D) (ci := 1) (v := .long (zL (xn / 2))) (ty := .long) (C := RX1) (T := TX1) (N := 18) hx hb hts hiX1 tyX1 tyX1_ok nmX1 hown hK hP hD hS 0 rfl rfl 5 (by decide) (hts (.fieldLink RX1 53 "ChargeEstimator$Battery" "estimate" "J") (List.mem_of_getElem? (i := 4) rfl)) (fun _ h9 => h9) rfl (by decide +kernel) rfl rfl (Nat.le_of_ble_eq_true rfl) dX1_startAnew_16 (fun H locs hP hD hS => ?_)
  have hP : va_P D vwCl (zbat cs q (zU (zU (zU A 38 xn) 37 xn) 34 (xn / 2))) H := zbp_34 hP
  have hD : va_D A0 (zbat cs q (zU (zU (zU A 38 xn) 37 xn) 34 (xn / 2))) := zD_addr hD rfl
  refine lv_aload_n hx hb dX1_startAnew_19 rfl (lv_at hl 0 rfl) ?_
  refine zr_lconst0 hx hb dX1_startAnew_20 ?_
  refine va_put (D := D) (ci := 1) (v := .long (zL 0)) (ty := .long) (C := RX1) (T := TX1) (N := 18) hx hb hts hiX1 tyX1 tyX1_ok nmX1 hown hK hP hD hS 0 rfl rfl 6 (by decide) (hts (.fieldLink RX1 56 "ChargeEstimator$Battery" "low" "J") (List.mem_of_getElem? (i := 5) rfl)) (fun _ h9 => h9) rfl (by decide +kernel) rfl rfl (Nat.le_of_ble_eq_true rfl) dX1_startAnew_21 (fun H locs hP hD hS => ?_)
  have hP : va_P D vwCl (zbat cs q (zU (zU (zU (zU A 38 xn) 37 xn) 34 (xn / 2)) 35 0)) H := zbp_35 hP
  have hD : va_D A0 (zbat cs q (zU (zU (zU (zU A 38 xn) 37 xn) 34 (xn / 2)) 35 0)) := zD_addr hD rfl
  refine lv_aload_n hx hb dX1_startAnew_24 rfl (lv_at hl 0 rfl) ?_
  refine lv_lload_n hx hb dX1_startAnew_25 rfl (lv_at hl 1 rfl) ?_
  refine va_put (D := D) (ci := 1) (v := .long (zL xn)) (ty := .long) (C := RX1) (T := TX1) (N := 18) hx hb hts hiX1 tyX1 tyX1_ok nmX1 hown hK hP hD hS 0 rfl rfl 7 (by decide) (hts (.fieldLink RX1 59 "ChargeEstimator$Battery" "high" "J") (List.mem_of_getElem? (i := 6) rfl)) (fun _ h9 => h9) rfl (by decide +kernel) rfl rfl (Nat.le_of_ble_eq_true rfl) dX1_startAnew_26 (fun H locs hP hD hS => ?_)
  have hP : va_P D vwCl (zbat cs q (zU (zU (zU (zU (zU A 38 xn) 37 xn) 34 (xn / 2)) 35 0) 36 xn)) H := zbp_36 hP
  have hD : va_D A0 (zbat cs q (zU (zU (zU (zU (zU A 38 xn) 37 xn) 34 (xn / 2)) 35 0) 36 xn)) := zD_addr hD rfl
  refine lv_aload_n hx hb dX1_startAnew_29 rfl (lv_at hl 0 rfl) ?_
  refine zr_lconst0 hx hb dX1_startAnew_30 ?_
  refine va_put (D := D) (ci := 1) (v := .long (zL 0)) (ty := .long) (C := RX1) (T := TX1) (N := 18) hx hb hts hiX1 tyX1 tyX1_ok nmX1 hown hK hP hD hS 0 rfl rfl 8 (by decide) (hts (.fieldLink RX1 62 "ChargeEstimator$Battery" "hysteresis" "J") (List.mem_of_getElem? (i := 7) rfl)) (fun _ h9 => h9) rfl (by decide +kernel) rfl rfl (Nat.le_of_ble_eq_true rfl) dX1_startAnew_31 (fun H locs hP hD hS => ?_)
  have hP : va_P D vwCl (zbat cs q (zU (zU (zU (zU (zU (zU A 38 xn) 37 xn) 34 (xn / 2)) 35 0) 36 xn) 39 0)) H := zbp_39 hP
  have hD : va_D A0 (zbat cs q (zU (zU (zU (zU (zU (zU A 38 xn) 37 xn) 34 (xn / 2)) 35 0) 36 xn) 39 0)) := zD_addr hD rfl
  refine lv_aload_n hx hb dX1_startAnew_34 rfl (lv_at hl 0 rfl) ?_
  refine zr_lconst0 hx hb dX1_startAnew_35 ?_
  refine va_put (D := D) (ci := 1) (v := .long (zL 0)) (ty := .long) (C := RX1) (T := TX1) (N := 18) hx hb hts hiX1 tyX1 tyX1_ok nmX1 hown hK hP hD hS 0 rfl rfl 9 (by decide) (hts (.fieldLink RX1 65 "ChargeEstimator$Battery" "throughput" "J") (List.mem_of_getElem? (i := 8) rfl)) (fun _ h9 => h9) rfl (by decide +kernel) rfl rfl (Nat.le_of_ble_eq_true rfl) dX1_startAnew_36 (fun H locs hP hD hS => ?_)
  have hP : va_P D vwCl (zbat cs q (zU (zU (zU (zU (zU (zU (zU A 38 xn) 37 xn) 34 (xn / 2)) 35 0) 36 xn) 39 0) 41 0)) H := zbp_41 hP
  have hD : va_D A0 (zbat cs q (zU (zU (zU (zU (zU (zU (zU A 38 xn) 37 xn) 34 (xn / 2)) 35 0) 36 xn) 39 0) 41 0)) := zD_addr hD rfl
  refine lv_aload_n hx hb dX1_startAnew_39 rfl (lv_at hl 0 rfl) ?_
  refine zr_lconst0 hx hb dX1_startAnew_40 ?_
  refine va_put (D := D) (ci := 1) (v := .long (zL 0)) (ty := .long) (C := RX1) (T := TX1) (N := 18) hx hb hts hiX1 tyX1 tyX1_ok nmX1 hown hK hP hD hS 0 rfl rfl 10 (by decide) (hts (.fieldLink RX1 68 "ChargeEstimator$Battery" "counted" "J") (List.mem_of_getElem? (i := 9) rfl)) (fun _ h9 => h9) rfl (by decide +kernel) rfl rfl (Nat.le_of_ble_eq_true rfl) dX1_startAnew_41 (fun H locs hP hD hS => ?_)
  have hP : va_P D vwCl (zbat cs q (zU (zU (zU (zU (zU (zU (zU (zU A 38 xn) 37 xn) 34 (xn / 2)) 35 0) 36 xn) 39 0) 41 0) 40 0)) H := zbp_40 hP
  have hD : va_D A0 (zbat cs q (zU (zU (zU (zU (zU (zU (zU (zU A 38 xn) 37 xn) 34 (xn / 2)) 35 0) 36 xn) 39 0) 41 0) 40 0)) := zD_addr hD rfl
  refine lv_aload_n hx hb dX1_startAnew_44 rfl (lv_at hl 0 rfl) ?_
  refine zr_iconst hx hb dX1_startAnew_45 ?_
  refine va_put (D := D) (ci := 1) (v := .int (zI 0)) (ty := .int) (C := RX1) (T := TX1) (N := 18) hx hb hts hiX1 tyX1 tyX1_ok nmX1 hown hK hP hD hS 0 rfl rfl 11 (by decide) (hts (.fieldLink RX1 71 "ChargeEstimator$Battery" "time" "I") (List.mem_of_getElem? (i := 10) rfl)) (fun _ h9 => h9) rfl (by decide +kernel) rfl rfl (Nat.le_of_ble_eq_true rfl) dX1_startAnew_46 (fun H locs hP hD hS => ?_)
  have hP : va_P D vwCl (zbat cs q (zU (zU (zU (zU (zU (zU (zU (zU (zU A 38 xn) 37 xn) 34 (xn / 2)) 35 0) 36 xn) 39 0) 41 0) 40 0) 42 0)) H := zbp_42 hP
  have hD : va_D A0 (zbat cs q (zU (zU (zU (zU (zU (zU (zU (zU (zU A 38 xn) 37 xn) 34 (xn / 2)) 35 0) 36 xn) 39 0) 41 0) 40 0) 42 0)) := zD_addr hD rfl
  refine lv_aload_n hx hb dX1_startAnew_49 rfl (lv_at hl 0 rfl) ?_
  refine zr_iconst hx hb dX1_startAnew_50 ?_
  refine va_put (D := D) (ci := 1) (v := .int (zI 0)) (ty := .int) (C := RX1) (T := TX1) (N := 18) hx hb hts hiX1 tyX1 tyX1_ok nmX1 hown hK hP hD hS 0 rfl rfl 12 (by decide) (hts (.fieldLink RX1 75 "ChargeEstimator$Battery" "restCounter" "I") (List.mem_of_getElem? (i := 11) rfl)) (fun _ h9 => h9) rfl (by decide +kernel) rfl rfl (Nat.le_of_ble_eq_true rfl) dX1_startAnew_51 (fun H locs hP hD hS => ?_)
  have hP : va_P D vwCl (zbat cs q (zU (zU (zU (zU (zU (zU (zU (zU (zU (zU A 38 xn) 37 xn) 34 (xn / 2)) 35 0) 36 xn) 39 0) 41 0) 40 0) 42 0) 43 0)) H := zbp_43 hP
  have hD : va_D A0 (zbat cs q (zU (zU (zU (zU (zU (zU (zU (zU (zU (zU A 38 xn) 37 xn) 34 (xn / 2)) 35 0) 36 xn) 39 0) 41 0) 40 0) 42 0) 43 0)) := zD_addr hD rfl
  refine lv_aload_n hx hb dX1_startAnew_54 rfl (lv_at hl 0 rfl) ?_
  refine zr_iconst hx hb dX1_startAnew_55 ?_
  refine va_put (D := D) (ci := 1) (v := .int (zI 0)) (ty := .int) (C := RX1) (T := TX1) (N := 18) hx hb hts hiX1 tyX1 tyX1_ok nmX1 hown hK hP hD hS 0 rfl rfl 13 (by decide) (hts (.fieldLink RX1 78 "ChargeEstimator$Battery" "fullCounter" "I") (List.mem_of_getElem? (i := 12) rfl)) (fun _ h9 => h9) rfl (by decide +kernel) rfl rfl (Nat.le_of_ble_eq_true rfl) dX1_startAnew_56 (fun H locs hP hD hS => ?_)
  have hP : va_P D vwCl (zbat cs q (zU (zU (zU (zU (zU (zU (zU (zU (zU (zU (zU A 38 xn) 37 xn) 34 (xn / 2)) 35 0) 36 xn) 39 0) 41 0) 40 0) 42 0) 43 0) 44 0)) H := zbp_44 hP
  have hD : va_D A0 (zbat cs q (zU (zU (zU (zU (zU (zU (zU (zU (zU (zU (zU A 38 xn) 37 xn) 34 (xn / 2)) 35 0) 36 xn) 39 0) 41 0) 40 0) 42 0) 43 0) 44 0)) := zD_addr hD rfl
  refine lv_aload_n hx hb dX1_startAnew_59 rfl (lv_at hl 0 rfl) ?_
  refine zr_iconst hx hb dX1_startAnew_60 ?_
  refine va_put (D := D) (ci := 1) (v := .int (zI 0)) (ty := .int) (C := RX1) (T := TX1) (N := 18) hx hb hts hiX1 tyX1 tyX1_ok nmX1 hown hK hP hD hS 0 rfl rfl 14 (by decide) (hts (.fieldLink RX1 81 "ChargeEstimator$Battery" "conflicts" "I") (List.mem_of_getElem? (i := 13) rfl)) (fun _ h9 => h9) rfl (by decide +kernel) rfl rfl (Nat.le_of_ble_eq_true rfl) dX1_startAnew_61 (fun H locs hP hD hS => ?_)
  have hP : va_P D vwCl (zbat cs q (zU (zU (zU (zU (zU (zU (zU (zU (zU (zU (zU (zU A 38 xn) 37 xn) 34 (xn / 2)) 35 0) 36 xn) 39 0) 41 0) 40 0) 42 0) 43 0) 44 0) 50 0)) H := zbp_50 hP
  have hD : va_D A0 (zbat cs q (zU (zU (zU (zU (zU (zU (zU (zU (zU (zU (zU (zU A 38 xn) 37 xn) 34 (xn / 2)) 35 0) 36 xn) 39 0) 41 0) 40 0) 42 0) 43 0) 44 0) 50 0)) := zD_addr hD rfl
  refine lv_aload_n hx hb dX1_startAnew_64 rfl (lv_at hl 0 rfl) ?_
  refine zr_iconst hx hb dX1_startAnew_65 ?_
  refine va_put (D := D) (ci := 1) (v := .int (zI 0)) (ty := .int) (C := RX1) (T := TX1) (N := 18) hx hb hts hiX1 tyX1 tyX1_ok nmX1 hown hK hP hD hS 0 rfl rfl 15 (by decide) (hts (.fieldLink RX1 84 "ChargeEstimator$Battery" "learnings" "I") (List.mem_of_getElem? (i := 14) rfl)) (fun _ h9 => h9) rfl (by decide +kernel) rfl rfl (Nat.le_of_ble_eq_true rfl) dX1_startAnew_66 (fun H locs hP hD hS => ?_)
  have hP : va_P D vwCl (zbat cs q (zU (zU (zU (zU (zU (zU (zU (zU (zU (zU (zU (zU (zU A 38 xn) 37 xn) 34 (xn / 2)) 35 0) 36 xn) 39 0) 41 0) 40 0) 42 0) 43 0) 44 0) 50 0) 51 0)) H := zbp_51 hP
  have hD : va_D A0 (zbat cs q (zU (zU (zU (zU (zU (zU (zU (zU (zU (zU (zU (zU (zU A 38 xn) 37 xn) 34 (xn / 2)) 35 0) 36 xn) 39 0) 41 0) 40 0) 42 0) 43 0) 44 0) 50 0) 51 0)) := zD_addr hD rfl
  refine lv_aload_n hx hb dX1_startAnew_69 rfl (lv_at hl 0 rfl) ?_
  refine zr_iconst hx hb dX1_startAnew_70 ?_
  refine va_put (D := D) (ci := 1) (v := .int (zI (-1))) (ty := .int) (C := RX1) (T := TX1) (N := 18) hx hb hts hiX1 tyX1 tyX1_ok nmX1 hown hK hP hD hS 0 rfl rfl 16 (by decide) (hts (.fieldLink RX1 87 "ChargeEstimator$Battery" "lastVoltage" "I") (List.mem_of_getElem? (i := 15) rfl)) (fun _ h9 => h9) rfl (by decide +kernel) rfl rfl (Nat.le_of_ble_eq_true rfl) dX1_startAnew_71 (fun H locs hP hD hS => ?_)
  have hP : va_P D vwCl (zbat cs q (zU (zU (zU (zU (zU (zU (zU (zU (zU (zU (zU (zU (zU (zU A 38 xn) 37 xn) 34 (xn / 2)) 35 0) 36 xn) 39 0) 41 0) 40 0) 42 0) 43 0) 44 0) 50 0) 51 0) 45 0)) H := zbp_lvn hP
  have hD : va_D A0 (zbat cs q (zU (zU (zU (zU (zU (zU (zU (zU (zU (zU (zU (zU (zU (zU A 38 xn) 37 xn) 34 (xn / 2)) 35 0) 36 xn) 39 0) 41 0) 40 0) 42 0) 43 0) 44 0) 50 0) 51 0) 45 0)) := zD_addr hD rfl
  refine lv_aload_n hx hb dX1_startAnew_74 rfl (lv_at hl 0 rfl) ?_
  refine zr_iconst hx hb dX1_startAnew_75 ?_
  refine va_put (D := D) (ci := 1) (v := .int (zI 0)) (ty := .boolean) (C := RX1) (T := TX1) (N := 18) hx hb hts hiX1 tyX1 tyX1_ok nmX1 hown hK hP hD hS 0 rfl rfl 17 (by decide) (hts (.fieldLink RX1 90 "ChargeEstimator$Battery" "wasEmpty" "Z") (List.mem_of_getElem? (i := 16) rfl)) (fun _ h9 => h9) rfl (by decide +kernel) (zbool_n (by decide)) (zbool_f (by decide)) (Nat.le_of_ble_eq_true rfl) dX1_startAnew_76 (fun H locs hP hD hS => ?_)
  have hP : va_P D vwCl (zbat cs q (zU (zU (zU (zU (zU (zU (zU (zU (zU (zU (zU (zU (zU (zU (zU A 38 xn) 37 xn) 34 (xn / 2)) 35 0) 36 xn) 39 0) 41 0) 40 0) 42 0) 43 0) 44 0) 50 0) 51 0) 45 0) 47 0)) H := zbp_47 hP
  have hD : va_D A0 (zbat cs q (zU (zU (zU (zU (zU (zU (zU (zU (zU (zU (zU (zU (zU (zU (zU A 38 xn) 37 xn) 34 (xn / 2)) 35 0) 36 xn) 39 0) 41 0) 40 0) 42 0) 43 0) 44 0) 50 0) 51 0) 45 0) 47 0)) := zD_addr hD rfl
  refine lv_aload_n hx hb dX1_startAnew_79 rfl (lv_at hl 0 rfl) ?_
  refine va_get (D := D) (ci := 1) (v := .ref (q 5)) (C := RX1) (T := TX1) (N := 18) hx hb hts hiX1 hown hK hP 0 rfl rfl 2 (by decide) (hts (.fieldLink RX1 25 "ChargeEstimator$Battery" "log" "LChargeEstimator$AnchorLog;") (List.mem_of_getElem? (i := 17) rfl)) (fun _ h9 => h9) rfl dX1_startAnew_80 ?_
  refine zc_v (va_runV (As := []) (rest := []) ⟨hx, hb, hml, hown, hts⟩ (met_X0_empty l D cs q H.size (zU (zU (zU (zU (zU (zU (zU (zU (zU (zU (zU (zU (zU (zU (zU A 38 xn) 37 xn) 34 (xn / 2)) 35 0) 36 xn) 39 0) 41 0) 40 0) 42 0) 43 0) 44 0) 50 0) 51 0) 45 0) 47 0) ) (cwV 0 hts gX1_startAnew_X0_empty rfl rfl rfl (by decide +kernel) ⟨Nat.le_of_ble_eq_true rfl, Nat.le_of_ble_eq_true rfl⟩) ⟨zPreZ.blind, va_recv hK hP (ci := 0) (q0 := 5) rfl rfl, fun U hU hW => zp_Z hP hK hD hN hU hW⟩ rfl rfl hl.1 rfl (lv_room (Nat.le_of_ble_eq_true rfl)) dX1_startAnew_83 ⟨Nat.le_of_ble_eq_true rfl, Nat.le_of_ble_eq_true rfl⟩) hS hD hA (fun H locs hP hD hS => ?_)
  have hP8 : va_P D vwCl (zbat cs q (zNew A xn)) H := zb_ext (fun k _ _ h45 h46 h48 h49 => zNew_e A xn k h45 h46 h48 h49) rfl hP
  have hP9 : va_P D vwCl (zbat cs q (zNew A xn)) H := hP8
  have hD9 : va_D A0 (zbat cs q (zNew A xn)) := zD_addr hD rfl
  subst hAe
  exact W.vret hx hb hr (fun t ht hW => ⟨⟨(), rfl, trivial, by rw [ht]; exact hP9, hD9⟩, hS.F ht⟩) hS.2.2 dX1_startAnew_86
