/-! the class: truths, bounds, numbers -/
theorem zfl_neg {a b : Int} (ha : a < 0) (hb : 0 < b) : -((-a + b - 1) / b) = a / b := by
  have h1 := Int.mul_ediv_add_emod (-a + b - 1) b
  have h2 := Int.emod_nonneg (-a + b - 1) (show b ≠ 0 by omega)
  have h3 := Int.emod_lt_of_pos (-a + b - 1) hb
  symm
  rw [Int.ediv_eq_iff_of_pos hb] 
  generalize (-a + b - 1) / b = k at *
  constructor
  · rw [Int.neg_mul]; have : b * k = k * b := Int.mul_comm _ _; omega
  · rw [Int.neg_mul]; have : b * k = k * b := Int.mul_comm _ _; omega
set_option maxHeartbeats 4000000 in
set_option maxRecDepth 100000 in
theorem met_X5_isWithin (l : Launch) (xv xa xb : Int) (kxv : -2147483648 ≤ xv ∧ xv ≤ 2147483647) (kxa : -2147483648 ≤ xa ∧ xa ≤ 2147483647) (kxb : -2147483648 ≤ xb ∧ xb ≤ 2147483647) : Met l yX5_isWithin wsX5_isWithin ({ frames := 0, cells := 0, slots := 0, locals := 0 }) (va_Pc [.int (zI xv), .int (zI xa), .int (zI xb)] (fun _ => True)) (zRi (zI (zB (xa ≤ xv ∧ xv ≤ xb)))) 0 0 (fun _ => False) := by
  refine Met.ofW (cc := cX5_isWithin) (maxL := 3) (ret := (some .boolean)) (by decide) rfl ?_
  intro p e s m args below meth c s₁ B hml hv
  obtain ⟨rfl, -⟩ := hv
  have hx := B.exec
  have hb := B.bytes
  have hr := B.returns
  have hts := atoms_spec (ws := wsX5_isWithin) B.pre
  have hown : s.vm.findClass RX5 = some m.cls := findClass_of_methodNamed B.named
  have hlocks := B.notSynchronized
  have hl := lv_entry ([.int (zI xv), .int (zI xa), .int (zI xb)]) (n := 3) (Nat.le_of_ble_eq_true rfl)
  rw [lg_entry_eq]
  generalize (lg_sl ([.int (zI xv), .int (zI xa), .int (zI xb)]) ++ List.replicate (3 - (lg_sl ([.int (zI xv), .int (zI xa), .int (zI xb)])).length) Slot.unset).toArray = ls at hl ⊢
  have hl : lv_has ls 3 [(0, .int (zI xv)), (1, .int (zI xa)), (2, .int (zI xb))] := hl
  refine lv_iload_n hx hb dX5_isWithin_0 rfl (lv_at hl 0 rfl) ?_
  refine lv_iload_n hx hb dX5_isWithin_1 rfl (lv_at hl 1 rfl) ?_
  refine zr_icmp_lt (tgt := 14) hx hb dX5_isWithin_2 (by decide) (by omega) (by omega) (fun c1 => ?_) (fun c1 => ?_)
  · refine zr_iconst hx hb dX5_isWithin_14 ?_
    exact W.zret hx hb hr (zbool_n (by decide)) (fun t ht hW => ⟨_, rfl, (congrArg zI (show 0 = zB (xa ≤ xv ∧ xv ≤ xb) from by first | exact (zB_t (by omega)).symm | exact (zB_f (by omega)).symm)), ht⟩) (fun q hq => absurd hq List.not_mem_nil) dX5_isWithin_15
  · refine lv_iload_n hx hb dX5_isWithin_5 rfl (lv_at hl 0 rfl) ?_
    refine lv_iload_n hx hb dX5_isWithin_6 rfl (lv_at hl 2 rfl) ?_
    refine zr_icmp_gt (tgt := 14) hx hb dX5_isWithin_7 (by decide) (by omega) (by omega) (fun c2 => ?_) (fun c2 => ?_)
    · refine zr_iconst hx hb dX5_isWithin_14 ?_
      exact W.zret hx hb hr (zbool_n (by decide)) (fun t ht hW => ⟨_, rfl, (congrArg zI (show 0 = zB (xa ≤ xv ∧ xv ≤ xb) from by first | exact (zB_t (by omega)).symm | exact (zB_f (by omega)).symm)), ht⟩) (fun q hq => absurd hq List.not_mem_nil) dX5_isWithin_15
    · refine zr_iconst hx hb dX5_isWithin_10 ?_
      refine lv_goto (tgt := 15) hx hb dX5_isWithin_11 (by decide) ?_
      exact W.zret hx hb hr (zbool_n (by decide)) (fun t ht hW => ⟨_, rfl, (congrArg zI (show 1 = zB (xa ≤ xv ∧ xv ≤ xb) from by first | exact (zB_t (by omega)).symm | exact (zB_f (by omega)).symm)), ht⟩) (fun q hq => absurd hq List.not_mem_nil) dX5_isWithin_15
set_option maxHeartbeats 4000000 in
set_option maxRecDepth 100000 in
theorem met_X5_isMeasurement (l : Launch) (xi xv xt : Int) (kxi : -2147483648 ≤ xi ∧ xi ≤ 2147483647) (kxv : -2147483648 ≤ xv ∧ xv ≤ 2147483647) (kxt : -2147483648 ≤ xt ∧ xt ≤ 2147483647) : Met l yX5_isMeasurement wsX5_isMeasurement ({ frames := 1, cells := 0, slots := 0, locals := 22 }) (va_Pc [.int (zI xi), .int (zI xv), .int (zI xt)] (fun _ => True)) (zRi (zI (zB ((-50000 ≤ xi ∧ xi ≤ 50000) ∧ (0 ≤ xv ∧ xv ≤ 6000) ∧ 1 ≤ xt ∧ xt ≤ 600)))) 0 0 (fun _ => False) := by
  refine Met.ofW (cc := cX5_isMeasurement) (maxL := 3) (ret := (some .boolean)) (by decide) rfl ?_
  intro p e s m args below meth c s₁ B hml hv
  obtain ⟨rfl, -⟩ := hv
  have hx := B.exec
  have hb := B.bytes
  have hr := B.returns
  have hts := atoms_spec (ws := wsX5_isMeasurement) B.pre
  have hown : s.vm.findClass RX5 = some m.cls := findClass_of_methodNamed B.named
  have hlocks := B.notSynchronized
  have hl := lv_entry ([.int (zI xi), .int (zI xv), .int (zI xt)]) (n := 3) (Nat.le_of_ble_eq_true rfl)
  rw [lg_entry_eq]
  generalize (lg_sl ([.int (zI xi), .int (zI xv), .int (zI xt)]) ++ List.replicate (3 - (lg_sl ([.int (zI xi), .int (zI xv), .int (zI xt)])).length) Slot.unset).toArray = ls at hl ⊢
  have hl : lv_has ls 3 [(0, .int (zI xi)), (1, .int (zI xv)), (2, .int (zI xt))] := hl
  refine lv_iload_n hx hb dX5_isMeasurement_0 rfl (lv_at hl 0 rfl) ?_
  refine zr_ldc (n := (-50000)) hx hb hown (hts (.constant RX5 165 (-50000)) (List.mem_of_getElem? (i := 1) rfl)) rfl dX5_isMeasurement_1 ?_
  refine zr_ldc (n := 50000) hx hb hown (hts (.constant RX5 166 (50000)) (List.mem_of_getElem? (i := 2) rfl)) rfl dX5_isMeasurement_3 ?_
  refine zc_ri (va_runS (As := [.int (zI xi), .int (zI (-50000)), .int (zI 50000)]) (rest := []) ⟨hx, hb, hml, hown, hts⟩ (met_X5_isWithin l xi (-50000) 50000 (by first | assumption | omega) (by first | assumption | omega) (by first | assumption | omega)) (va_cwS 3 hts gX5_isMeasurement_X5_isWithin rfl rfl rfl (by decide +kernel) ⟨Nat.le_of_ble_eq_true rfl, Nat.le_of_ble_eq_true rfl⟩) ⟨zTrue.blind, fun U hU hW => ⟨rfl, trivial⟩⟩ rfl rfl hl.1 rfl (lv_room (Nat.le_of_ble_eq_true rfl)) dX5_isMeasurement_5 ⟨Nat.le_of_ble_eq_true rfl, Nat.le_of_ble_eq_true rfl⟩) ?_
  refine zr_ifb_eq (tgt := 37) hx hb dX5_isMeasurement_8 (by decide) (fun c1 => ?_) (fun c1 => ?_)
  · refine zr_iconst hx hb dX5_isMeasurement_37 ?_
    exact W.zret hx hb hr (zbool_n (by decide)) (fun t ht hW => ⟨_, rfl, (congrArg zI (show 0 = zB ((-50000 ≤ xi ∧ xi ≤ 50000) ∧ (0 ≤ xv ∧ xv ≤ 6000) ∧ 1 ≤ xt ∧ xt ≤ 600) from by first | exact (zB_t (by omega)).symm | exact (zB_f (by omega)).symm)), ht⟩) (fun q hq => absurd hq List.not_mem_nil) dX5_isMeasurement_38
  · refine lv_iload_n hx hb dX5_isMeasurement_11 rfl (lv_at hl 1 rfl) ?_
    refine zr_iconst hx hb dX5_isMeasurement_12 ?_
    refine zr_sipush hx hb dX5_isMeasurement_13 (by decide) ?_
    refine zc_ri (va_runS (As := [.int (zI xv), .int (zI 0), .int (zI 6000)]) (rest := []) ⟨hx, hb, hml, hown, hts⟩ (met_X5_isWithin l xv 0 6000 (by first | assumption | omega) (by first | assumption | omega) (by first | assumption | omega)) (va_cwS 3 hts gX5_isMeasurement_X5_isWithin rfl rfl rfl (by decide +kernel) ⟨Nat.le_of_ble_eq_true rfl, Nat.le_of_ble_eq_true rfl⟩) ⟨zTrue.blind, fun U hU hW => ⟨rfl, trivial⟩⟩ rfl rfl hl.1 rfl (lv_room (Nat.le_of_ble_eq_true rfl)) dX5_isMeasurement_16 ⟨Nat.le_of_ble_eq_true rfl, Nat.le_of_ble_eq_true rfl⟩) ?_
    refine zr_ifb_eq (tgt := 37) hx hb dX5_isMeasurement_19 (by decide) (fun c2 => ?_) (fun c2 => ?_)
    · refine zr_iconst hx hb dX5_isMeasurement_37 ?_
      exact W.zret hx hb hr (zbool_n (by decide)) (fun t ht hW => ⟨_, rfl, (congrArg zI (show 0 = zB ((-50000 ≤ xi ∧ xi ≤ 50000) ∧ (0 ≤ xv ∧ xv ≤ 6000) ∧ 1 ≤ xt ∧ xt ≤ 600) from by first | exact (zB_t (by omega)).symm | exact (zB_f (by omega)).symm)), ht⟩) (fun q hq => absurd hq List.not_mem_nil) dX5_isMeasurement_38
    · refine lv_iload_n hx hb dX5_isMeasurement_22 rfl (lv_at hl 2 rfl) ?_
      refine zr_iconst hx hb dX5_isMeasurement_23 ?_
      refine zr_sipush hx hb dX5_isMeasurement_24 (by decide) ?_
      refine zc_ri (va_runS (As := [.int (zI xt), .int (zI 1), .int (zI 600)]) (rest := []) ⟨hx, hb, hml, hown, hts⟩ (met_X5_isWithin l xt 1 600 (by first | assumption | omega) (by first | assumption | omega) (by first | assumption | omega)) (va_cwS 3 hts gX5_isMeasurement_X5_isWithin rfl rfl rfl (by decide +kernel) ⟨Nat.le_of_ble_eq_true rfl, Nat.le_of_ble_eq_true rfl⟩) ⟨zTrue.blind, fun U hU hW => ⟨rfl, trivial⟩⟩ rfl rfl hl.1 rfl (lv_room (Nat.le_of_ble_eq_true rfl)) dX5_isMeasurement_27 ⟨Nat.le_of_ble_eq_true rfl, Nat.le_of_ble_eq_true rfl⟩) ?_
      refine zr_ifb_eq (tgt := 37) hx hb dX5_isMeasurement_30 (by decide) (fun c3 => ?_) (fun c3 => ?_)
      · refine zr_iconst hx hb dX5_isMeasurement_37 ?_
        exact W.zret hx hb hr (zbool_n (by decide)) (fun t ht hW => ⟨_, rfl, (congrArg zI (show 0 = zB ((-50000 ≤ xi ∧ xi ≤ 50000) ∧ (0 ≤ xv ∧ xv ≤ 6000) ∧ 1 ≤ xt ∧ xt ≤ 600) from by first | exact (zB_t (by omega)).symm | exact (zB_f (by omega)).symm)), ht⟩) (fun q hq => absurd hq List.not_mem_nil) dX5_isMeasurement_38
      · refine zr_iconst hx hb dX5_isMeasurement_33 ?_
        refine lv_goto (tgt := 38) hx hb dX5_isMeasurement_34 (by decide) ?_
        exact W.zret hx hb hr (zbool_n (by decide)) (fun t ht hW => ⟨_, rfl, (congrArg zI (show 1 = zB ((-50000 ≤ xi ∧ xi ≤ 50000) ∧ (0 ≤ xv ∧ xv ≤ 6000) ∧ 1 ≤ xt ∧ xt ≤ 600) from by first | exact (zB_t (by omega)).symm | exact (zB_f (by omega)).symm)), ht⟩) (fun q hq => absurd hq List.not_mem_nil) dX5_isMeasurement_38
set_option maxHeartbeats 4000000 in
set_option maxRecDepth 100000 in
theorem met_X5_clamp (l : Launch) (xv xa xb : Int) (kxv : -9223372036854775808 ≤ xv ∧ xv ≤ 9223372036854775807) (kxa : -9223372036854775808 ≤ xa ∧ xa ≤ 9223372036854775807) (kxb : -9223372036854775808 ≤ xb ∧ xb ≤ 9223372036854775807) (kab : xa ≤ xb) : Met l yX5_clamp wsX5_clamp ({ frames := 1, cells := 0, slots := 0, locals := 15 }) (va_Pc [.long (zL xv), .long (zL xa), .long (zL xb)] (fun _ => True)) (zRl (zL (zclamp xv xa xb))) 0 0 (fun _ => False) := by
  refine Met.ofW (cc := cX5_clamp) (maxL := 6) (ret := (some .long)) (by decide) rfl ?_
  intro p e s m args below meth c s₁ B hml hv
  obtain ⟨rfl, -⟩ := hv
  have hx := B.exec
  have hb := B.bytes
  have hr := B.returns
  have hts := atoms_spec (ws := wsX5_clamp) B.pre
  have hown : s.vm.findClass RX5 = some m.cls := findClass_of_methodNamed B.named
  have hlocks := B.notSynchronized
  have hl := lv_entry ([.long (zL xv), .long (zL xa), .long (zL xb)]) (n := 6) (Nat.le_of_ble_eq_true rfl)
  rw [lg_entry_eq]
  generalize (lg_sl ([.long (zL xv), .long (zL xa), .long (zL xb)]) ++ List.replicate (6 - (lg_sl ([.long (zL xv), .long (zL xa), .long (zL xb)])).length) Slot.unset).toArray = ls at hl ⊢
  have hl : lv_has ls 6 [(0, .long (zL xv)), (2, .long (zL xa)), (4, .long (zL xb))] := hl
  refine lv_lload_n hx hb dX5_clamp_0 rfl (lv_at hl 0 rfl) ?_
  refine lv_lload_n hx hb dX5_clamp_1 rfl (lv_at hl 1 rfl) ?_
  refine zm_maxL hx hb (hml.trans hl.1.symm) hown (hts (.methodLink RX5 247 Lib.MathLoose.max_long.x) (List.mem_of_getElem? (i := 1) rfl)) (hts (.static Lib.MathLoose.max_long.x) (List.mem_of_getElem? (i := 2) rfl)) (hts (.initialized "java/lang/Math") (List.mem_of_getElem? (i := 3) rfl)) (hts (.code Lib.MathLoose.max_long.x Lib.MathLoose.max_long.code 4 (some .long)) (List.mem_of_getElem? (i := 4) rfl)) (Nat.le_of_ble_eq_true rfl) (Nat.le_of_ble_eq_true rfl) (Nat.le_of_ble_eq_true rfl) (Nat.le_of_ble_eq_true rfl) dX5_clamp_2 (by omega) (by omega) ?_
  refine lv_lload hx hb dX5_clamp_5 (lv_at hl 2 rfl) ?_
  refine zm_minL hx hb (hml.trans hl.1.symm) hown (hts (.methodLink RX5 252 Lib.MathLoose.min_long.x) (List.mem_of_getElem? (i := 5) rfl)) (hts (.static Lib.MathLoose.min_long.x) (List.mem_of_getElem? (i := 6) rfl)) (hts (.initialized "java/lang/Math") (List.mem_of_getElem? (i := 3) rfl)) (hts (.code Lib.MathLoose.min_long.x Lib.MathLoose.min_long.code 4 (some .long)) (List.mem_of_getElem? (i := 7) rfl)) (Nat.le_of_ble_eq_true rfl) (Nat.le_of_ble_eq_true rfl) (Nat.le_of_ble_eq_true rfl) (Nat.le_of_ble_eq_true rfl) dX5_clamp_7 (by omega) (by omega) ?_
  exact W.lret hx hb hr (fun t ht hW => ⟨_, rfl, (congrArg zL (show min (max xv xa) xb = zclamp xv xa xb from by exact zclamp_mm kab)), ht⟩) (fun q hq => absurd hq List.not_mem_nil) dX5_clamp_10
set_option maxHeartbeats 4000000 in
set_option maxRecDepth 100000 in
theorem met_X5_mix (l : Launch) (xh xv : Int)  : Met l yX5_mix wsX5_mix ({ frames := 0, cells := 0, slots := 0, locals := 0 }) (va_Pc [.long (zL xh), .long (zL xv)] (fun _ => True)) (zRl (zL (31 * xh + xv))) 0 0 (fun _ => False) := by
  refine Met.ofW (cc := cX5_mix) (maxL := 4) (ret := (some .long)) (by decide) rfl ?_
  intro p e s m args below meth c s₁ B hml hv
  obtain ⟨rfl, -⟩ := hv
  have hx := B.exec
  have hb := B.bytes
  have hr := B.returns
  have hts := atoms_spec (ws := wsX5_mix) B.pre
  have hown : s.vm.findClass RX5 = some m.cls := findClass_of_methodNamed B.named
  have hlocks := B.notSynchronized
  have hl := lv_entry ([.long (zL xh), .long (zL xv)]) (n := 4) (Nat.le_of_ble_eq_true rfl)
  rw [lg_entry_eq]
  generalize (lg_sl ([.long (zL xh), .long (zL xv)]) ++ List.replicate (4 - (lg_sl ([.long (zL xh), .long (zL xv)])).length) Slot.unset).toArray = ls at hl ⊢
  have hl : lv_has ls 4 [(0, .long (zL xh)), (2, .long (zL xv))] := hl
  refine zr_ldc2 (n := 31) hx hb hown (hts (.constantLong RX5 255 (31)) (List.mem_of_getElem? (i := 1) rfl)) rfl dX5_mix_0 ?_
  refine lv_lload_n hx hb dX5_mix_3 rfl (lv_at hl 0 rfl) ?_
  refine zr_lmul hx hb dX5_mix_4 ?_
  refine lv_lload_n hx hb dX5_mix_5 rfl (lv_at hl 1 rfl) ?_
  refine zr_ladd hx hb dX5_mix_6 ?_
  exact W.lret hx hb hr (fun t ht hW => ⟨_, rfl, (congrArg zL (show (31 * xh) + xv = 31 * xh + xv from by rfl)), ht⟩) (fun q hq => absurd hq List.not_mem_nil) dX5_mix_7
set_option maxHeartbeats 4000000 in
set_option maxRecDepth 100000 in
theorem met_X6_in (l : Launch) (xv xa xb : Int) (kxv : -9223372036854775808 ≤ xv ∧ xv ≤ 9223372036854775807) (kxa : -9223372036854775808 ≤ xa ∧ xa ≤ 9223372036854775807) (kxb : -9223372036854775808 ≤ xb ∧ xb ≤ 9223372036854775807) : Met l yX6_in wsX6_in ({ frames := 0, cells := 0, slots := 0, locals := 0 }) (va_Pc [.long (zL xv), .long (zL xa), .long (zL xb)] (fun _ => True)) (zRi (zI (zB (xa ≤ xv ∧ xv ≤ xb)))) 0 0 (fun _ => False) := by
  refine Met.ofW (cc := cX6_in) (maxL := 6) (ret := (some .boolean)) (by decide) rfl ?_
  intro p e s m args below meth c s₁ B hml hv
  obtain ⟨rfl, -⟩ := hv
  have hx := B.exec
  have hb := B.bytes
  have hr := B.returns
  have hts := atoms_spec (ws := wsX6_in) B.pre
  have hown : s.vm.findClass RX6 = some m.cls := findClass_of_methodNamed B.named
  have hlocks := B.notSynchronized
  have hl := lv_entry ([.long (zL xv), .long (zL xa), .long (zL xb)]) (n := 6) (Nat.le_of_ble_eq_true rfl)
  rw [lg_entry_eq]
  generalize (lg_sl ([.long (zL xv), .long (zL xa), .long (zL xb)]) ++ List.replicate (6 - (lg_sl ([.long (zL xv), .long (zL xa), .long (zL xb)])).length) Slot.unset).toArray = ls at hl ⊢
  have hl : lv_has ls 6 [(0, .long (zL xv)), (2, .long (zL xa)), (4, .long (zL xb))] := hl
  refine lv_lload_n hx hb dX6_in_0 rfl (lv_at hl 0 rfl) ?_
  refine lv_lload_n hx hb dX6_in_1 rfl (lv_at hl 1 rfl) ?_
  refine zr_lcmp_lt (tgt := 17) hx hb dX6_in_2 dX6_in_3 (by decide) (by omega) (by omega) (fun c1 => ?_) (fun c1 => ?_)
  · refine zr_iconst hx hb dX6_in_17 ?_
    exact W.zret hx hb hr (zbool_n (by decide)) (fun t ht hW => ⟨_, rfl, (congrArg zI (show 0 = zB (xa ≤ xv ∧ xv ≤ xb) from by first | exact (zB_t (by omega)).symm | exact (zB_f (by omega)).symm)), ht⟩) (fun q hq => absurd hq List.not_mem_nil) dX6_in_18
  · refine lv_lload_n hx hb dX6_in_6 rfl (lv_at hl 0 rfl) ?_
    refine lv_lload hx hb dX6_in_7 (lv_at hl 2 rfl) ?_
    refine zr_lcmp_gt (tgt := 17) hx hb dX6_in_9 dX6_in_10 (by decide) (by omega) (by omega) (fun c2 => ?_) (fun c2 => ?_)
    · refine zr_iconst hx hb dX6_in_17 ?_
      exact W.zret hx hb hr (zbool_n (by decide)) (fun t ht hW => ⟨_, rfl, (congrArg zI (show 0 = zB (xa ≤ xv ∧ xv ≤ xb) from by first | exact (zB_t (by omega)).symm | exact (zB_f (by omega)).symm)), ht⟩) (fun q hq => absurd hq List.not_mem_nil) dX6_in_18
    · refine zr_iconst hx hb dX6_in_13 ?_
      refine lv_goto (tgt := 18) hx hb dX6_in_14 (by decide) ?_
      exact W.zret hx hb hr (zbool_n (by decide)) (fun t ht hW => ⟨_, rfl, (congrArg zI (show 1 = zB (xa ≤ xv ∧ xv ≤ xb) from by first | exact (zB_t (by omega)).symm | exact (zB_f (by omega)).symm)), ht⟩) (fun q hq => absurd hq List.not_mem_nil) dX6_in_18
set_option maxHeartbeats 4000000 in
set_option maxRecDepth 100000 in
theorem met_X6_clamp (l : Launch) (xv xa xb : Int) (kxv : -9223372036854775808 ≤ xv ∧ xv ≤ 9223372036854775807) (kxa : -9223372036854775808 ≤ xa ∧ xa ≤ 9223372036854775807) (kxb : -9223372036854775808 ≤ xb ∧ xb ≤ 9223372036854775807) : Met l yX6_clamp wsX6_clamp ({ frames := 0, cells := 0, slots := 0, locals := 0 }) (va_Pc [.long (zL xv), .long (zL xa), .long (zL xb)] (fun _ => True)) (zRl (zL (zclamp xv xa xb))) 0 0 (fun _ => False) := by
  refine Met.ofW (cc := cX6_clamp) (maxL := 6) (ret := (some .long)) (by decide) rfl ?_
  intro p e s m args below meth c s₁ B hml hv
  obtain ⟨rfl, -⟩ := hv
  have hx := B.exec
  have hb := B.bytes
  have hr := B.returns
  have hts := atoms_spec (ws := wsX6_clamp) B.pre
  have hown : s.vm.findClass RX6 = some m.cls := findClass_of_methodNamed B.named
  have hlocks := B.notSynchronized
  have hl := lv_entry ([.long (zL xv), .long (zL xa), .long (zL xb)]) (n := 6) (Nat.le_of_ble_eq_true rfl)
  rw [lg_entry_eq]
  generalize (lg_sl ([.long (zL xv), .long (zL xa), .long (zL xb)]) ++ List.replicate (6 - (lg_sl ([.long (zL xv), .long (zL xa), .long (zL xb)])).length) Slot.unset).toArray = ls at hl ⊢
  have hl : lv_has ls 6 [(0, .long (zL xv)), (2, .long (zL xa)), (4, .long (zL xb))] := hl
  refine lv_lload_n hx hb dX6_clamp_0 rfl (lv_at hl 0 rfl) ?_
  refine lv_lload_n hx hb dX6_clamp_1 rfl (lv_at hl 1 rfl) ?_
  refine zr_lcmp_ge (tgt := 10) hx hb dX6_clamp_2 dX6_clamp_3 (by decide) (by omega) (by omega) (fun c1 => ?_) (fun c1 => ?_)
  · refine lv_lload_n hx hb dX6_clamp_10 rfl (lv_at hl 0 rfl) ?_
    refine lv_lload hx hb dX6_clamp_11 (lv_at hl 2 rfl) ?_
    refine zr_lcmp_le (tgt := 22) hx hb dX6_clamp_13 dX6_clamp_14 (by decide) (by omega) (by omega) (fun c2 => ?_) (fun c2 => ?_)
    · refine lv_lload_n hx hb dX6_clamp_22 rfl (lv_at hl 0 rfl) ?_
      exact W.lret hx hb hr (fun t ht hW => ⟨_, rfl, (congrArg zL (show xv = zclamp xv xa xb from by unfold zclamp; (try split) <;> (try split) <;> omega)), ht⟩) (fun q hq => absurd hq List.not_mem_nil) dX6_clamp_23
    · refine lv_lload hx hb dX6_clamp_17 (lv_at hl 2 rfl) ?_
      refine lv_goto (tgt := 23) hx hb dX6_clamp_19 (by decide) ?_
      exact W.lret hx hb hr (fun t ht hW => ⟨_, rfl, (congrArg zL (show xb = zclamp xv xa xb from by unfold zclamp; (try split) <;> (try split) <;> omega)), ht⟩) (fun q hq => absurd hq List.not_mem_nil) dX6_clamp_23
  · refine lv_lload_n hx hb dX6_clamp_6 rfl (lv_at hl 1 rfl) ?_
    refine lv_goto (tgt := 23) hx hb dX6_clamp_7 (by decide) ?_
    exact W.lret hx hb hr (fun t ht hW => ⟨_, rfl, (congrArg zL (show xa = zclamp xv xa xb from by unfold zclamp; (try split) <;> (try split) <;> omega)), ht⟩) (fun q hq => absurd hq List.not_mem_nil) dX6_clamp_23
set_option maxHeartbeats 4000000 in
set_option maxRecDepth 100000 in
theorem met_X6_size (l : Launch) (xv : Int) (kxv : -9223372036854775807 ≤ xv ∧ xv ≤ 9223372036854775807) : Met l yX6_size wsX6_size ({ frames := 0, cells := 0, slots := 0, locals := 0 }) (va_Pc [.long (zL xv)] (fun _ => True)) (zRl (zL (max xv (-xv)))) 0 0 (fun _ => False) := by
  refine Met.ofW (cc := cX6_size) (maxL := 2) (ret := (some .long)) (by decide) rfl ?_
  intro p e s m args below meth c s₁ B hml hv
  obtain ⟨rfl, -⟩ := hv
  have hx := B.exec
  have hb := B.bytes
  have hr := B.returns
  have hts := atoms_spec (ws := wsX6_size) B.pre
  have hown : s.vm.findClass RX6 = some m.cls := findClass_of_methodNamed B.named
  have hlocks := B.notSynchronized
  have hl := lv_entry ([.long (zL xv)]) (n := 2) (Nat.le_of_ble_eq_true rfl)
  rw [lg_entry_eq]
  generalize (lg_sl ([.long (zL xv)]) ++ List.replicate (2 - (lg_sl ([.long (zL xv)])).length) Slot.unset).toArray = ls at hl ⊢
  have hl : lv_has ls 2 [(0, .long (zL xv))] := hl
  refine lv_lload_n hx hb dX6_size_0 rfl (lv_at hl 0 rfl) ?_
  refine zr_lconst0 hx hb dX6_size_1 ?_
  refine zr_lcmp_ge (tgt := 11) hx hb dX6_size_2 dX6_size_3 (by decide) (by omega) (by decide) (fun c1 => ?_) (fun c1 => ?_)
  · refine lv_lload_n hx hb dX6_size_11 rfl (lv_at hl 0 rfl) ?_
    exact W.lret hx hb hr (fun t ht hW => ⟨_, rfl, (congrArg zL (show xv = max xv (-xv) from by omega)), ht⟩) (fun q hq => absurd hq List.not_mem_nil) dX6_size_12
  · refine lv_lload_n hx hb dX6_size_6 rfl (lv_at hl 0 rfl) ?_
    refine zr_lneg hx hb dX6_size_7 ?_
    refine lv_goto (tgt := 12) hx hb dX6_size_8 (by decide) ?_
    exact W.lret hx hb hr (fun t ht hW => ⟨_, rfl, (congrArg zL (show -xv = max xv (-xv) from by omega)), ht⟩) (fun q hq => absurd hq List.not_mem_nil) dX6_size_12
set_option maxHeartbeats 4000000 in
set_option maxRecDepth 100000 in
theorem met_X6_floor (l : Launch) (xa xb : Int) (kxa : -4000000000000000000 ≤ xa ∧ xa ≤ 4000000000000000000) (kxb : 0 < xb ∧ xb ≤ 4000000000000000000) : Met l yX6_floor wsX6_floor ({ frames := 0, cells := 0, slots := 0, locals := 0 }) (va_Pc [.long (zL xa), .long (zL xb)] (fun _ => True)) (zRl (zL (xa / xb))) 0 0 (fun _ => False) := by
  refine Met.ofW (cc := cX6_floor) (maxL := 4) (ret := (some .long)) (by decide) rfl ?_
  intro p e s m args below meth c s₁ B hml hv
  obtain ⟨rfl, -⟩ := hv
  have hx := B.exec
  have hb := B.bytes
  have hr := B.returns
  have hts := atoms_spec (ws := wsX6_floor) B.pre
  have hown : s.vm.findClass RX6 = some m.cls := findClass_of_methodNamed B.named
  have hlocks := B.notSynchronized
  have hl := lv_entry ([.long (zL xa), .long (zL xb)]) (n := 4) (Nat.le_of_ble_eq_true rfl)
  rw [lg_entry_eq]
  generalize (lg_sl ([.long (zL xa), .long (zL xb)]) ++ List.replicate (4 - (lg_sl ([.long (zL xa), .long (zL xb)])).length) Slot.unset).toArray = ls at hl ⊢
  have hl : lv_has ls 4 [(0, .long (zL xa)), (2, .long (zL xb))] := hl
  refine lv_lload_n hx hb dX6_floor_0 rfl (lv_at hl 0 rfl) ?_
  refine zr_lconst0 hx hb dX6_floor_1 ?_
  refine zr_lcmp_lt (tgt := 12) hx hb dX6_floor_2 dX6_floor_3 (by decide) (by omega) (by decide) (fun c1 => ?_) (fun c1 => ?_)
  · refine lv_lload_n hx hb dX6_floor_12 rfl (lv_at hl 0 rfl) ?_
    refine zr_lneg hx hb dX6_floor_13 ?_
    refine lv_lload_n hx hb dX6_floor_14 rfl (lv_at hl 1 rfl) ?_
    refine zr_ladd hx hb dX6_floor_15 ?_
    refine zr_lconst1 hx hb dX6_floor_16 ?_
    refine zr_lsub hx hb dX6_floor_17 ?_
    refine lv_lload_n hx hb dX6_floor_18 rfl (lv_at hl 1 rfl) ?_
    refine zr_ldiv hx hb dX6_floor_19 (by omega) (by omega) ?_
    refine zr_lneg hx hb dX6_floor_20 ?_
    exact W.lret hx hb hr (fun t ht hW => ⟨_, rfl, (congrArg zL (show -((((-xa) + xb) - 1) / xb) = xa / xb from by first | rfl | exact zfl_neg (by omega) (by omega))), ht⟩) (fun q hq => absurd hq List.not_mem_nil) dX6_floor_21
  · refine lv_lload_n hx hb dX6_floor_6 rfl (lv_at hl 0 rfl) ?_
    refine lv_lload_n hx hb dX6_floor_7 rfl (lv_at hl 1 rfl) ?_
    refine zr_ldiv hx hb dX6_floor_8 (by omega) (by omega) ?_
    refine lv_goto (tgt := 21) hx hb dX6_floor_9 (by decide) ?_
    exact W.lret hx hb hr (fun t ht hW => ⟨_, rfl, (congrArg zL (show xa / xb = xa / xb from by first | rfl | exact zfl_neg (by omega) (by omega))), ht⟩) (fun q hq => absurd hq List.not_mem_nil) dX6_floor_21
set_option maxHeartbeats 4000000 in
set_option maxRecDepth 100000 in
theorem met_X6_isMeasurement (l : Launch) (xi xv xt : Int) (kxi : -2147483648 ≤ xi ∧ xi ≤ 2147483647) (kxv : -2147483648 ≤ xv ∧ xv ≤ 2147483647) (kxt : -2147483648 ≤ xt ∧ xt ≤ 2147483647) : Met l yX6_isMeasurement wsX6_isMeasurement ({ frames := 1, cells := 0, slots := 0, locals := 25 }) (va_Pc [.int (zI xi), .int (zI xv), .int (zI xt)] (fun _ => True)) (zRi (zI (zB ((-50000 ≤ xi ∧ xi ≤ 50000) ∧ (0 ≤ xv ∧ xv ≤ 6000) ∧ 1 ≤ xt ∧ xt ≤ 600)))) 0 0 (fun _ => False) := by
  refine Met.ofW (cc := cX6_isMeasurement) (maxL := 3) (ret := (some .boolean)) (by decide) rfl ?_
  intro p e s m args below meth c s₁ B hml hv
  obtain ⟨rfl, -⟩ := hv
  have hx := B.exec
  have hb := B.bytes
  have hr := B.returns
  have hts := atoms_spec (ws := wsX6_isMeasurement) B.pre
  have hown : s.vm.findClass RX6 = some m.cls := findClass_of_methodNamed B.named
  have hlocks := B.notSynchronized
  have hl := lv_entry ([.int (zI xi), .int (zI xv), .int (zI xt)]) (n := 3) (Nat.le_of_ble_eq_true rfl)
  rw [lg_entry_eq]
  generalize (lg_sl ([.int (zI xi), .int (zI xv), .int (zI xt)]) ++ List.replicate (3 - (lg_sl ([.int (zI xi), .int (zI xv), .int (zI xt)])).length) Slot.unset).toArray = ls at hl ⊢
  have hl : lv_has ls 3 [(0, .int (zI xi)), (1, .int (zI xv)), (2, .int (zI xt))] := hl
  refine lv_iload_n hx hb dX6_isMeasurement_0 rfl (lv_at hl 0 rfl) ?_
  refine zr_i2l hx hb dX6_isMeasurement_1 (by omega) ?_
  refine zr_ldc2 (n := (-50000)) hx hb hown (hts (.constantLong RX6 189 (-50000)) (List.mem_of_getElem? (i := 1) rfl)) rfl dX6_isMeasurement_2 ?_
  refine zr_ldc2 (n := 50000) hx hb hown (hts (.constantLong RX6 191 (50000)) (List.mem_of_getElem? (i := 2) rfl)) rfl dX6_isMeasurement_5 ?_
  refine zc_ri (va_runS (As := [.long (zL xi), .long (zL (-50000)), .long (zL 50000)]) (rest := []) ⟨hx, hb, hml, hown, hts⟩ (met_X6_in l xi (-50000) 50000 (by first | assumption | omega) (by first | assumption | omega) (by first | assumption | omega)) (va_cwS 3 hts gX6_isMeasurement_X6_in rfl rfl rfl (by decide +kernel) ⟨Nat.le_of_ble_eq_true rfl, Nat.le_of_ble_eq_true rfl⟩) ⟨zTrue.blind, fun U hU hW => ⟨rfl, trivial⟩⟩ rfl rfl hl.1 rfl (lv_room (Nat.le_of_ble_eq_true rfl)) dX6_isMeasurement_8 ⟨Nat.le_of_ble_eq_true rfl, Nat.le_of_ble_eq_true rfl⟩) ?_
  refine zr_ifb_eq (tgt := 42) hx hb dX6_isMeasurement_11 (by decide) (fun c1 => ?_) (fun c1 => ?_)
  · refine zr_iconst hx hb dX6_isMeasurement_42 ?_
    exact W.zret hx hb hr (zbool_n (by decide)) (fun t ht hW => ⟨_, rfl, (congrArg zI (show 0 = zB ((-50000 ≤ xi ∧ xi ≤ 50000) ∧ (0 ≤ xv ∧ xv ≤ 6000) ∧ 1 ≤ xt ∧ xt ≤ 600) from by first | exact (zB_t (by omega)).symm | exact (zB_f (by omega)).symm)), ht⟩) (fun q hq => absurd hq List.not_mem_nil) dX6_isMeasurement_43
  · refine lv_iload_n hx hb dX6_isMeasurement_14 rfl (lv_at hl 1 rfl) ?_
    refine zr_i2l hx hb dX6_isMeasurement_15 (by omega) ?_
    refine zr_lconst0 hx hb dX6_isMeasurement_16 ?_
    refine zr_ldc2 (n := 6000) hx hb hown (hts (.constantLong RX6 143 (6000)) (List.mem_of_getElem? (i := 3) rfl)) rfl dX6_isMeasurement_17 ?_
    refine zc_ri (va_runS (As := [.long (zL xv), .long (zL 0), .long (zL 6000)]) (rest := []) ⟨hx, hb, hml, hown, hts⟩ (met_X6_in l xv 0 6000 (by first | assumption | omega) (by first | assumption | omega) (by first | assumption | omega)) (va_cwS 3 hts gX6_isMeasurement_X6_in rfl rfl rfl (by decide +kernel) ⟨Nat.le_of_ble_eq_true rfl, Nat.le_of_ble_eq_true rfl⟩) ⟨zTrue.blind, fun U hU hW => ⟨rfl, trivial⟩⟩ rfl rfl hl.1 rfl (lv_room (Nat.le_of_ble_eq_true rfl)) dX6_isMeasurement_20 ⟨Nat.le_of_ble_eq_true rfl, Nat.le_of_ble_eq_true rfl⟩) ?_
    refine zr_ifb_eq (tgt := 42) hx hb dX6_isMeasurement_23 (by decide) (fun c2 => ?_) (fun c2 => ?_)
    · refine zr_iconst hx hb dX6_isMeasurement_42 ?_
      exact W.zret hx hb hr (zbool_n (by decide)) (fun t ht hW => ⟨_, rfl, (congrArg zI (show 0 = zB ((-50000 ≤ xi ∧ xi ≤ 50000) ∧ (0 ≤ xv ∧ xv ≤ 6000) ∧ 1 ≤ xt ∧ xt ≤ 600) from by first | exact (zB_t (by omega)).symm | exact (zB_f (by omega)).symm)), ht⟩) (fun q hq => absurd hq List.not_mem_nil) dX6_isMeasurement_43
    · refine lv_iload_n hx hb dX6_isMeasurement_26 rfl (lv_at hl 2 rfl) ?_
      refine zr_i2l hx hb dX6_isMeasurement_27 (by omega) ?_
      refine zr_lconst1 hx hb dX6_isMeasurement_28 ?_
      refine zr_ldc2 (n := 600) hx hb hown (hts (.constantLong RX6 193 (600)) (List.mem_of_getElem? (i := 4) rfl)) rfl dX6_isMeasurement_29 ?_
      refine zc_ri (va_runS (As := [.long (zL xt), .long (zL 1), .long (zL 600)]) (rest := []) ⟨hx, hb, hml, hown, hts⟩ (met_X6_in l xt 1 600 (by first | assumption | omega) (by first | assumption | omega) (by first | assumption | omega)) (va_cwS 3 hts gX6_isMeasurement_X6_in rfl rfl rfl (by decide +kernel) ⟨Nat.le_of_ble_eq_true rfl, Nat.le_of_ble_eq_true rfl⟩) ⟨zTrue.blind, fun U hU hW => ⟨rfl, trivial⟩⟩ rfl rfl hl.1 rfl (lv_room (Nat.le_of_ble_eq_true rfl)) dX6_isMeasurement_32 ⟨Nat.le_of_ble_eq_true rfl, Nat.le_of_ble_eq_true rfl⟩) ?_
      refine zr_ifb_eq (tgt := 42) hx hb dX6_isMeasurement_35 (by decide) (fun c3 => ?_) (fun c3 => ?_)
      · refine zr_iconst hx hb dX6_isMeasurement_42 ?_
        exact W.zret hx hb hr (zbool_n (by decide)) (fun t ht hW => ⟨_, rfl, (congrArg zI (show 0 = zB ((-50000 ≤ xi ∧ xi ≤ 50000) ∧ (0 ≤ xv ∧ xv ≤ 6000) ∧ 1 ≤ xt ∧ xt ≤ 600) from by first | exact (zB_t (by omega)).symm | exact (zB_f (by omega)).symm)), ht⟩) (fun q hq => absurd hq List.not_mem_nil) dX6_isMeasurement_43
      · refine zr_iconst hx hb dX6_isMeasurement_38 ?_
        refine lv_goto (tgt := 43) hx hb dX6_isMeasurement_39 (by decide) ?_
        exact W.zret hx hb hr (zbool_n (by decide)) (fun t ht hW => ⟨_, rfl, (congrArg zI (show 1 = zB ((-50000 ≤ xi ∧ xi ≤ 50000) ∧ (0 ≤ xv ∧ xv ≤ 6000) ∧ 1 ≤ xt ∧ xt ≤ 600) from by first | exact (zB_t (by omega)).symm | exact (zB_f (by omega)).symm)), ht⟩) (fun q hq => absurd hq List.not_mem_nil) dX6_isMeasurement_43
set_option maxHeartbeats 4000000 in
set_option maxRecDepth 100000 in
theorem met_X6_isModel (l : Launch) (xi xt xr xn : Int) (kxi : -2147483648 ≤ xi ∧ xi ≤ 2147483647) (kxt : -2147483648 ≤ xt ∧ xt ≤ 2147483647) (kxr : -2147483648 ≤ xr ∧ xr ≤ 2147483647) (kxn : -2147483648 ≤ xn ∧ xn ≤ 2147483647) : Met l yX6_isModel wsX6_isModel ({ frames := 2, cells := 0, slots := 0, locals := 47 }) (va_Pc [.int (zI xi), .int (zI xt), .int (zI xr), .int (zI xn)] (fun _ => True)) (zRi (zI (zB (((-50000 ≤ xi ∧ xi ≤ 50000) ∧ (0 ≤ (0 : Int) ∧ (0 : Int) ≤ 6000) ∧ 1 ≤ xt ∧ xt ≤ 600) ∧ (0 ≤ xr ∧ xr ≤ 1000) ∧ 0 ≤ xn ∧ xn ≤ 500)))) 0 0 (fun _ => False) := by
  refine Met.ofW (cc := cX6_isModel) (maxL := 4) (ret := (some .boolean)) (by decide) rfl ?_
  intro p e s m args below meth c s₁ B hml hv
  obtain ⟨rfl, -⟩ := hv
  have hx := B.exec
  have hb := B.bytes
  have hr := B.returns
  have hts := atoms_spec (ws := wsX6_isModel) B.pre
  have hown : s.vm.findClass RX6 = some m.cls := findClass_of_methodNamed B.named
  have hlocks := B.notSynchronized
  have hl := lv_entry ([.int (zI xi), .int (zI xt), .int (zI xr), .int (zI xn)]) (n := 4) (Nat.le_of_ble_eq_true rfl)
  rw [lg_entry_eq]
  generalize (lg_sl ([.int (zI xi), .int (zI xt), .int (zI xr), .int (zI xn)]) ++ List.replicate (4 - (lg_sl ([.int (zI xi), .int (zI xt), .int (zI xr), .int (zI xn)])).length) Slot.unset).toArray = ls at hl ⊢
  have hl : lv_has ls 4 [(0, .int (zI xi)), (1, .int (zI xt)), (2, .int (zI xr)), (3, .int (zI xn))] := hl
  refine lv_iload_n hx hb dX6_isModel_0 rfl (lv_at hl 0 rfl) ?_
  refine zr_iconst hx hb dX6_isModel_1 ?_
  refine lv_iload_n hx hb dX6_isModel_2 rfl (lv_at hl 1 rfl) ?_
  refine zc_ri (va_runS (As := [.int (zI xi), .int (zI 0), .int (zI xt)]) (rest := []) ⟨hx, hb, hml, hown, hts⟩ (met_X6_isMeasurement l xi 0 xt (by first | assumption | omega) (by first | assumption | omega) (by first | assumption | omega)) (va_cwS 3 hts gX6_isModel_X6_isMeasurement rfl rfl rfl (by decide +kernel) ⟨Nat.le_of_ble_eq_true rfl, Nat.le_of_ble_eq_true rfl⟩) ⟨zTrue.blind, fun U hU hW => ⟨rfl, trivial⟩⟩ rfl rfl hl.1 rfl (lv_room (Nat.le_of_ble_eq_true rfl)) dX6_isModel_3 ⟨Nat.le_of_ble_eq_true rfl, Nat.le_of_ble_eq_true rfl⟩) ?_
  refine zr_ifb_eq (tgt := 37) hx hb dX6_isModel_6 (by decide) (fun c1 => ?_) (fun c1 => ?_)
  · refine zr_iconst hx hb dX6_isModel_37 ?_
    exact W.zret hx hb hr (zbool_n (by decide)) (fun t ht hW => ⟨_, rfl, (congrArg zI (show 0 = zB (((-50000 ≤ xi ∧ xi ≤ 50000) ∧ (0 ≤ (0 : Int) ∧ (0 : Int) ≤ 6000) ∧ 1 ≤ xt ∧ xt ≤ 600) ∧ (0 ≤ xr ∧ xr ≤ 1000) ∧ 0 ≤ xn ∧ xn ≤ 500) from by first | exact (zB_t (by omega)).symm | exact (zB_f (by omega)).symm)), ht⟩) (fun q hq => absurd hq List.not_mem_nil) dX6_isModel_38
  · refine lv_iload_n hx hb dX6_isModel_9 rfl (lv_at hl 2 rfl) ?_
    refine zr_i2l hx hb dX6_isModel_10 (by omega) ?_
    refine zr_lconst0 hx hb dX6_isModel_11 ?_
    refine zr_ldc2 (n := 1000) hx hb hown (hts (.constantLong RX6 114 (1000)) (List.mem_of_getElem? (i := 1) rfl)) rfl dX6_isModel_12 ?_
    refine zc_ri (va_runS (As := [.long (zL xr), .long (zL 0), .long (zL 1000)]) (rest := []) ⟨hx, hb, hml, hown, hts⟩ (met_X6_in l xr 0 1000 (by first | assumption | omega) (by first | assumption | omega) (by first | assumption | omega)) (va_cwS 3 hts gX6_isModel_X6_in rfl rfl rfl (by decide +kernel) ⟨Nat.le_of_ble_eq_true rfl, Nat.le_of_ble_eq_true rfl⟩) ⟨zTrue.blind, fun U hU hW => ⟨rfl, trivial⟩⟩ rfl rfl hl.1 rfl (lv_room (Nat.le_of_ble_eq_true rfl)) dX6_isModel_15 ⟨Nat.le_of_ble_eq_true rfl, Nat.le_of_ble_eq_true rfl⟩) ?_
    refine zr_ifb_eq (tgt := 37) hx hb dX6_isModel_18 (by decide) (fun c2 => ?_) (fun c2 => ?_)
    · refine zr_iconst hx hb dX6_isModel_37 ?_
      exact W.zret hx hb hr (zbool_n (by decide)) (fun t ht hW => ⟨_, rfl, (congrArg zI (show 0 = zB (((-50000 ≤ xi ∧ xi ≤ 50000) ∧ (0 ≤ (0 : Int) ∧ (0 : Int) ≤ 6000) ∧ 1 ≤ xt ∧ xt ≤ 600) ∧ (0 ≤ xr ∧ xr ≤ 1000) ∧ 0 ≤ xn ∧ xn ≤ 500) from by first | exact (zB_t (by omega)).symm | exact (zB_f (by omega)).symm)), ht⟩) (fun q hq => absurd hq List.not_mem_nil) dX6_isModel_38
    · refine lv_iload_n hx hb dX6_isModel_21 rfl (lv_at hl 3 rfl) ?_
      refine zr_i2l hx hb dX6_isModel_22 (by omega) ?_
      refine zr_lconst0 hx hb dX6_isModel_23 ?_
      refine zr_ldc2 (n := 500) hx hb hown (hts (.constantLong RX6 28 (500)) (List.mem_of_getElem? (i := 2) rfl)) rfl dX6_isModel_24 ?_
      refine zc_ri (va_runS (As := [.long (zL xn), .long (zL 0), .long (zL 500)]) (rest := []) ⟨hx, hb, hml, hown, hts⟩ (met_X6_in l xn 0 500 (by first | assumption | omega) (by first | assumption | omega) (by first | assumption | omega)) (va_cwS 3 hts gX6_isModel_X6_in rfl rfl rfl (by decide +kernel) ⟨Nat.le_of_ble_eq_true rfl, Nat.le_of_ble_eq_true rfl⟩) ⟨zTrue.blind, fun U hU hW => ⟨rfl, trivial⟩⟩ rfl rfl hl.1 rfl (lv_room (Nat.le_of_ble_eq_true rfl)) dX6_isModel_27 ⟨Nat.le_of_ble_eq_true rfl, Nat.le_of_ble_eq_true rfl⟩) ?_
      refine zr_ifb_eq (tgt := 37) hx hb dX6_isModel_30 (by decide) (fun c3 => ?_) (fun c3 => ?_)
      · refine zr_iconst hx hb dX6_isModel_37 ?_
        exact W.zret hx hb hr (zbool_n (by decide)) (fun t ht hW => ⟨_, rfl, (congrArg zI (show 0 = zB (((-50000 ≤ xi ∧ xi ≤ 50000) ∧ (0 ≤ (0 : Int) ∧ (0 : Int) ≤ 6000) ∧ 1 ≤ xt ∧ xt ≤ 600) ∧ (0 ≤ xr ∧ xr ≤ 1000) ∧ 0 ≤ xn ∧ xn ≤ 500) from by first | exact (zB_t (by omega)).symm | exact (zB_f (by omega)).symm)), ht⟩) (fun q hq => absurd hq List.not_mem_nil) dX6_isModel_38
      · refine zr_iconst hx hb dX6_isModel_33 ?_
        refine lv_goto (tgt := 38) hx hb dX6_isModel_34 (by decide) ?_
        exact W.zret hx hb hr (zbool_n (by decide)) (fun t ht hW => ⟨_, rfl, (congrArg zI (show 1 = zB (((-50000 ≤ xi ∧ xi ≤ 50000) ∧ (0 ≤ (0 : Int) ∧ (0 : Int) ≤ 6000) ∧ 1 ≤ xt ∧ xt ≤ 600) ∧ (0 ≤ xr ∧ xr ≤ 1000) ∧ 0 ≤ xn ∧ xn ≤ 500) from by first | exact (zB_t (by omega)).symm | exact (zB_f (by omega)).symm)), ht⟩) (fun q hq => absurd hq List.not_mem_nil) dX6_isModel_38
