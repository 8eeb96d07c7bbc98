/-! the class: what its calls require -/
set_option maxHeartbeats 4000000 in
set_option maxRecDepth 100000 in
theorem met_X5_requireWithin_ok (l : Launch)  (xv : Int) (xa : Int) (xb : Int) (rxv : -2147483648 ≤ xv ∧ xv ≤ 2147483647) (rxa : -2147483648 ≤ xa ∧ xa ≤ 2147483647) (rxb : -2147483648 ≤ xb ∧ xb ≤ 2147483647) (kok : xa ≤ xv ∧ xv ≤ xb) : Met l yX5_requireWithin wsX5_requireWithin ({ frames := 1, cells := 0, slots := 0, locals := 22 }) (va_Pc [.int (zI xv), .int (zI xa), .int (zI xb)] (fun _ => True)) zRn 0 0 (fun _ => False) := by
  refine Met.ofW (cc := cX5_requireWithin) (maxL := 3) (ret := none) (by decide) rfl ?_
  intro p e s m args below meth c s₁ B hml hv
  obtain ⟨rfl, -⟩ := hv
  have hx := B.exec
  have hb := B.bytes
  have hr := B.returns
  have hts := atoms_spec (ws := wsX5_requireWithin) B.pre
  have hown : s.vm.findClass RX5 = some m.cls := findClass_of_methodNamed B.named
  have hlocks := B.notSynchronized
  have hl := lv_entry ([.int (zI xv), .int (zI xa), .int (zI xb)]) (n := 3) (Nat.le_of_ble_eq_true rfl)
  rw [lg_entry_eq]
  generalize (lg_sl ([.int (zI xv), .int (zI xa), .int (zI xb)]) ++ List.replicate (3 - (lg_sl ([.int (zI xv), .int (zI xa), .int (zI xb)])).length) Slot.unset).toArray = ls at hl ⊢
  have hl : lv_has ls 3 [(0, .int (zI xv)), (1, .int (zI xa)), (2, .int (zI xb))] := hl
  refine lv_iload_n hx hb dX5_requireWithin_0 rfl (lv_at hl 0 rfl) ?_
  refine lv_iload_n hx hb dX5_requireWithin_1 rfl (lv_at hl 1 rfl) ?_
  refine lv_iload_n hx hb dX5_requireWithin_2 rfl (lv_at hl 2 rfl) ?_
  refine zc_ri (va_runS (As := [.int (zI xv), .int (zI xa), .int (zI xb)]) (rest := []) ⟨hx, hb, hml, hown, hts⟩ (met_X5_isWithin l xv xa xb (by first | assumption | omega) (by first | assumption | omega) (by first | assumption | omega)) (va_cwS 3 hts gX5_requireWithin_X5_isWithin rfl rfl rfl (by decide +kernel) ⟨Nat.le_of_ble_eq_true rfl, Nat.le_of_ble_eq_true rfl⟩) ⟨zTrue.blind, fun U hU hW => ⟨rfl, trivial⟩⟩ rfl rfl hl.1 rfl (lv_room (Nat.le_of_ble_eq_true rfl)) dX5_requireWithin_3 ⟨Nat.le_of_ble_eq_true rfl, Nat.le_of_ble_eq_true rfl⟩) ?_
  refine zr_ifb_ne (tgt := 19) hx hb dX5_requireWithin_6 (by decide) (fun c1 => ?_) (fun c1 => ?_)
  · exact W.vret hx hb hr (fun t ht hW => ⟨rfl, ht⟩) (fun q hq => absurd hq List.not_mem_nil) dX5_requireWithin_19
  · exfalso; first | omega | (simp only [and_true, true_and] at c1; omega) | exact c1.2.elim
set_option maxHeartbeats 4000000 in
set_option maxRecDepth 100000 in
theorem met_X5_requireWithin_x (l : Launch) (hfl : l.stackTraces = false)  (xv : Int) (xa : Int) (xb : Int) (rxv : -2147483648 ≤ xv ∧ xv ≤ 2147483647) (rxa : -2147483648 ≤ xa ∧ xa ≤ 2147483647) (rxb : -2147483648 ≤ xb ∧ xb ≤ 2147483647) (kno : ¬ (xa ≤ xv ∧ xv ≤ xb)) : vx_Met l yX5_requireWithin wsX5_requireWithin ({ frames := 6, cells := 1, slots := 6, locals := 82 }) (va_Pc [.int (zI xv), .int (zI xa), .int (zI xb)] zPreY) zQXv (zXC "java/lang/IllegalArgumentException") 1 6 (fun _ => False) := by
  refine vx_ofW (cc := cX5_requireWithin) (maxL := 3) (ret := none) (by decide +kernel) rfl ?_
  intro p e s m args below meth c s₁ B hml hnx hv
  obtain ⟨rfl, hX⟩ := hv
  have hx := B.exec
  have hb := B.bytes
  have hr := B.returns
  have hts := atoms_spec (ws := wsX5_requireWithin) B.pre
  have hown : s.vm.findClass RX5 = some m.cls := findClass_of_methodNamed B.named
  have hlocks := B.notSynchronized
  have hX : zXF s s.heap := hX
  have hS : va_S (fun _ => False) s.heap s.heap [] := va_S.rf
  have hl := lv_entry ([.int (zI xv), .int (zI xa), .int (zI xb)]) (n := 3) (Nat.le_of_ble_eq_true rfl)
  rw [lg_entry_eq]
  generalize (lg_sl ([.int (zI xv), .int (zI xa), .int (zI xb)]) ++ List.replicate (3 - (lg_sl ([.int (zI xv), .int (zI xa), .int (zI xb)])).length) Slot.unset).toArray = ls at hl ⊢
  have hl : lv_has ls 3 [(0, .int (zI xv)), (1, .int (zI xa)), (2, .int (zI xb))] := hl
  refine lv_iload_n hx hb dX5_requireWithin_0 rfl (lv_at hl 0 rfl) ?_
  refine lv_iload_n hx hb dX5_requireWithin_1 rfl (lv_at hl 1 rfl) ?_
  refine lv_iload_n hx hb dX5_requireWithin_2 rfl (lv_at hl 2 rfl) ?_
  refine zc_ri (va_runS (As := [.int (zI xv), .int (zI xa), .int (zI xb)]) (rest := []) ⟨hx, hb, hml, hown, hts⟩ (met_X5_isWithin l xv xa xb (by first | assumption | omega) (by first | assumption | omega) (by first | assumption | omega)) (va_cwS 3 hts gX5_requireWithin_X5_isWithin rfl rfl rfl (by decide +kernel) ⟨Nat.le_of_ble_eq_true rfl, Nat.le_of_ble_eq_true rfl⟩) ⟨zTrue.blind, fun U hU hW => ⟨rfl, trivial⟩⟩ rfl rfl hl.1 rfl (lv_room (Nat.le_of_ble_eq_true rfl)) dX5_requireWithin_3 ⟨Nat.le_of_ble_eq_true rfl, Nat.le_of_ble_eq_true rfl⟩) ?_
  refine zr_ifb_ne (tgt := 19) hx hb dX5_requireWithin_6 (by decide) (fun c1 => ?_) (fun c1 => ?_)
  · exfalso; omega
  · obtain ⟨sa9, hstr9⟩ := hX.1.2 (241, "an argument is out of range") (by decide +kernel)
    exact vx_throwS (pc := 9) (own := RX5) (cls := "java/lang/IllegalArgumentException") (text := "an argument is out of range") (names := ["java/lang/RuntimeException", "java/lang/Exception"]) (ik := 88) (is := 241) (ic := 92) (mc := 1) (ms := 6) hx hb hfl hown (by decide +kernel) (by decide +kernel) (hts (.classLink RX5 88 "java/lang/IllegalArgumentException") (List.mem_of_getElem? (i := 1) rfl)) (hts (.initialized "java/lang/IllegalArgumentException") (List.mem_of_getElem? (i := 2) rfl)) hstr9 (vx_hat (B := zXw) (fun w hw => hts w ((show ∀ w ∈ (vx_atS RX5 92 "java/lang/IllegalArgumentException" ["java/lang/RuntimeException", "java/lang/Exception"]).filter goodWord, w ∈ wsX5_requireWithin by decide +kernel) w hw)) (by decide +kernel) (fun w hw => va_Nw.use (zXb_t (List.all_eq_true.mp zXw_b w hw)) (hX.1.1 w hw))) (by decide +kernel) hX.2.1.1 hX.2.1.2 hS (hl.1.trans hml.symm) dX5_requireWithin_9 dX5_requireWithin_12 dX5_requireWithin_13 dX5_requireWithin_15 dX5_requireWithin_18 (fun x hx => (hnx x hx).elim) (by decide) (Nat.le_of_ble_eq_true rfl) (Nat.le_of_ble_eq_true rfl) (Nat.le_of_ble_eq_true rfl) hlocks (fun t hvm hz hk => ⟨(), trivial, rfl, hz, fun q h _ => hk q h⟩) (fun z hz => by cases hz) (Nat.le_of_ble_eq_true rfl) (Nat.le_of_ble_eq_true rfl)
set_option maxHeartbeats 4000000 in
set_option maxRecDepth 100000 in
theorem met_X5_requirePoint_ok (l : Launch)  (xk : Int) (rxk : -2147483648 ≤ xk ∧ xk ≤ 2147483647) (kok : 0 ≤ xk ∧ xk ≤ 10) : Met l yX5_requirePoint wsX5_requirePoint ({ frames := 0, cells := 0, slots := 0, locals := 0 }) (va_Pc [.int (zI xk)] (fun _ => True)) zRn 0 0 (fun _ => False) := by
  refine Met.ofW (cc := cX5_requirePoint) (maxL := 1) (ret := none) (by decide) rfl ?_
  intro p e s m args below meth c s₁ B hml hv
  obtain ⟨rfl, -⟩ := hv
  have hx := B.exec
  have hb := B.bytes
  have hr := B.returns
  have hts := atoms_spec (ws := wsX5_requirePoint) B.pre
  have hown : s.vm.findClass RX5 = some m.cls := findClass_of_methodNamed B.named
  have hlocks := B.notSynchronized
  have hl := lv_entry ([.int (zI xk)]) (n := 1) (Nat.le_of_ble_eq_true rfl)
  rw [lg_entry_eq]
  generalize (lg_sl ([.int (zI xk)]) ++ List.replicate (1 - (lg_sl ([.int (zI xk)])).length) Slot.unset).toArray = ls at hl ⊢
  have hl : lv_has ls 1 [(0, .int (zI xk))] := hl
  refine lv_iload_n hx hb dX5_requirePoint_0 rfl (lv_at hl 0 rfl) ?_
  refine zr_if_lt (tgt := 10) hx hb dX5_requirePoint_1 (by decide) (by omega) (fun c1 => ?_) (fun c1 => ?_)
  · exfalso; first | omega | (simp only [and_true, true_and] at c1; omega) | exact c1.2.elim
  · refine lv_iload_n hx hb dX5_requirePoint_4 rfl (lv_at hl 0 rfl) ?_
    refine zr_bipush hx hb dX5_requirePoint_5 (by decide) ?_
    refine zr_icmp_lt (tgt := 20) hx hb dX5_requirePoint_7 (by decide) (by omega) (by decide) (fun c2 => ?_) (fun c2 => ?_)
    · exact W.vret hx hb hr (fun t ht hW => ⟨rfl, ht⟩) (fun q hq => absurd hq List.not_mem_nil) dX5_requirePoint_20
    · exfalso; first | omega | (simp only [and_true, true_and] at c2; omega) | exact c2.2.elim
set_option maxHeartbeats 4000000 in
set_option maxRecDepth 100000 in
theorem met_X5_requirePoint_x (l : Launch) (hfl : l.stackTraces = false)  (xk : Int) (rxk : -2147483648 ≤ xk ∧ xk ≤ 2147483647) (kno : ¬ (0 ≤ xk ∧ xk ≤ 10)) : vx_Met l yX5_requirePoint wsX5_requirePoint ({ frames := 6, cells := 1, slots := 6, locals := 82 }) (va_Pc [.int (zI xk)] zPreY) zQXv (zXC "java/lang/IndexOutOfBoundsException") 1 6 (fun _ => False) := by
  refine vx_ofW (cc := cX5_requirePoint) (maxL := 1) (ret := none) (by decide +kernel) rfl ?_
  intro p e s m args below meth c s₁ B hml hnx hv
  obtain ⟨rfl, hX⟩ := hv
  have hx := B.exec
  have hb := B.bytes
  have hr := B.returns
  have hts := atoms_spec (ws := wsX5_requirePoint) B.pre
  have hown : s.vm.findClass RX5 = some m.cls := findClass_of_methodNamed B.named
  have hlocks := B.notSynchronized
  have hX : zXF s s.heap := hX
  have hS : va_S (fun _ => False) s.heap s.heap [] := va_S.rf
  have hl := lv_entry ([.int (zI xk)]) (n := 1) (Nat.le_of_ble_eq_true rfl)
  rw [lg_entry_eq]
  generalize (lg_sl ([.int (zI xk)]) ++ List.replicate (1 - (lg_sl ([.int (zI xk)])).length) Slot.unset).toArray = ls at hl ⊢
  have hl : lv_has ls 1 [(0, .int (zI xk))] := hl
  refine lv_iload_n hx hb dX5_requirePoint_0 rfl (lv_at hl 0 rfl) ?_
  refine zr_if_lt (tgt := 10) hx hb dX5_requirePoint_1 (by decide) (by omega) (fun c1 => ?_) (fun c1 => ?_)
  · obtain ⟨sa9, hstr9⟩ := hX.1.2 (243, "there is no such point") (by decide +kernel)
    exact vx_throwS (pc := 10) (own := RX5) (cls := "java/lang/IndexOutOfBoundsException") (text := "there is no such point") (names := ["java/lang/RuntimeException", "java/lang/Exception"]) (ik := 157) (is := 243) (ic := 161) (mc := 1) (ms := 6) hx hb hfl hown (by decide +kernel) (by decide +kernel) (hts (.classLink RX5 157 "java/lang/IndexOutOfBoundsException") (List.mem_of_getElem? (i := 1) rfl)) (hts (.initialized "java/lang/IndexOutOfBoundsException") (List.mem_of_getElem? (i := 2) rfl)) hstr9 (vx_hat (B := zXw) (fun w hw => hts w ((show ∀ w ∈ (vx_atS RX5 161 "java/lang/IndexOutOfBoundsException" ["java/lang/RuntimeException", "java/lang/Exception"]).filter goodWord, w ∈ wsX5_requirePoint by decide +kernel) w hw)) (by decide +kernel) (fun w hw => va_Nw.use (zXb_t (List.all_eq_true.mp zXw_b w hw)) (hX.1.1 w hw))) (by decide +kernel) hX.2.1.1 hX.2.1.2 hS (hl.1.trans hml.symm) dX5_requirePoint_10 dX5_requirePoint_13 dX5_requirePoint_14 dX5_requirePoint_16 dX5_requirePoint_19 (fun x hx => (hnx x hx).elim) (by decide) (Nat.le_of_ble_eq_true rfl) (Nat.le_of_ble_eq_true rfl) (Nat.le_of_ble_eq_true rfl) hlocks (fun t hvm hz hk => ⟨(), trivial, rfl, hz, fun q h _ => hk q h⟩) (fun z hz => by cases hz) (Nat.le_of_ble_eq_true rfl) (Nat.le_of_ble_eq_true rfl)
  · refine lv_iload_n hx hb dX5_requirePoint_4 rfl (lv_at hl 0 rfl) ?_
    refine zr_bipush hx hb dX5_requirePoint_5 (by decide) ?_
    refine zr_icmp_lt (tgt := 20) hx hb dX5_requirePoint_7 (by decide) (by omega) (by decide) (fun c2 => ?_) (fun c2 => ?_)
    · exfalso; omega
    · obtain ⟨sa9, hstr9⟩ := hX.1.2 (243, "there is no such point") (by decide +kernel)
      exact vx_throwS (pc := 10) (own := RX5) (cls := "java/lang/IndexOutOfBoundsException") (text := "there is no such point") (names := ["java/lang/RuntimeException", "java/lang/Exception"]) (ik := 157) (is := 243) (ic := 161) (mc := 1) (ms := 6) hx hb hfl hown (by decide +kernel) (by decide +kernel) (hts (.classLink RX5 157 "java/lang/IndexOutOfBoundsException") (List.mem_of_getElem? (i := 1) rfl)) (hts (.initialized "java/lang/IndexOutOfBoundsException") (List.mem_of_getElem? (i := 2) rfl)) hstr9 (vx_hat (B := zXw) (fun w hw => hts w ((show ∀ w ∈ (vx_atS RX5 161 "java/lang/IndexOutOfBoundsException" ["java/lang/RuntimeException", "java/lang/Exception"]).filter goodWord, w ∈ wsX5_requirePoint by decide +kernel) w hw)) (by decide +kernel) (fun w hw => va_Nw.use (zXb_t (List.all_eq_true.mp zXw_b w hw)) (hX.1.1 w hw))) (by decide +kernel) hX.2.1.1 hX.2.1.2 hS (hl.1.trans hml.symm) dX5_requirePoint_10 dX5_requirePoint_13 dX5_requirePoint_14 dX5_requirePoint_16 dX5_requirePoint_19 (fun x hx => (hnx x hx).elim) (by decide) (Nat.le_of_ble_eq_true rfl) (Nat.le_of_ble_eq_true rfl) (Nat.le_of_ble_eq_true rfl) hlocks (fun t hvm hz hk => ⟨(), trivial, rfl, hz, fun q h _ => hk q h⟩) (fun z hz => by cases hz) (Nat.le_of_ble_eq_true rfl) (Nat.le_of_ble_eq_true rfl)
set_option maxHeartbeats 4000000 in
set_option maxRecDepth 100000 in
theorem met_X5_requireMeasurement_ok (l : Launch)  (xi : Int) (xv : Int) (xt : Int) (rxi : -2147483648 ≤ xi ∧ xi ≤ 2147483647) (rxv : -2147483648 ≤ xv ∧ xv ≤ 2147483647) (rxt : -2147483648 ≤ xt ∧ xt ≤ 2147483647) (kok : (-50000 ≤ xi ∧ xi ≤ 50000) ∧ (0 ≤ xv ∧ xv ≤ 6000) ∧ 1 ≤ xt ∧ xt ≤ 600) : Met l yX5_requireMeasurement wsX5_requireMeasurement ({ frames := 2, cells := 0, slots := 0, locals := 44 }) (va_Pc [.int (zI xi), .int (zI xv), .int (zI xt)] (fun _ => True)) zRn 0 0 (fun _ => False) := by
  refine Met.ofW (cc := cX5_requireMeasurement) (maxL := 3) (ret := none) (by decide) rfl ?_
  intro p e s m args below meth c s₁ B hml hv
  obtain ⟨rfl, -⟩ := hv
  have hx := B.exec
  have hb := B.bytes
  have hr := B.returns
  have hts := atoms_spec (ws := wsX5_requireMeasurement) B.pre
  have hown : s.vm.findClass RX5 = some m.cls := findClass_of_methodNamed B.named
  have hlocks := B.notSynchronized
  have hl := lv_entry ([.int (zI xi), .int (zI xv), .int (zI xt)]) (n := 3) (Nat.le_of_ble_eq_true rfl)
  rw [lg_entry_eq]
  generalize (lg_sl ([.int (zI xi), .int (zI xv), .int (zI xt)]) ++ List.replicate (3 - (lg_sl ([.int (zI xi), .int (zI xv), .int (zI xt)])).length) Slot.unset).toArray = ls at hl ⊢
  have hl : lv_has ls 3 [(0, .int (zI xi)), (1, .int (zI xv)), (2, .int (zI xt))] := hl
  refine lv_iload_n hx hb dX5_requireMeasurement_0 rfl (lv_at hl 0 rfl) ?_
  refine lv_iload_n hx hb dX5_requireMeasurement_1 rfl (lv_at hl 1 rfl) ?_
  refine lv_iload_n hx hb dX5_requireMeasurement_2 rfl (lv_at hl 2 rfl) ?_
  refine zc_ri (va_runS (As := [.int (zI xi), .int (zI xv), .int (zI xt)]) (rest := []) ⟨hx, hb, hml, hown, hts⟩ (met_X5_isMeasurement l xi xv xt (by first | assumption | omega) (by first | assumption | omega) (by first | assumption | omega)) (va_cwS 3 hts gX5_requireMeasurement_X5_isMeasurement rfl rfl rfl (by decide +kernel) ⟨Nat.le_of_ble_eq_true rfl, Nat.le_of_ble_eq_true rfl⟩) ⟨zTrue.blind, fun U hU hW => ⟨rfl, trivial⟩⟩ rfl rfl hl.1 rfl (lv_room (Nat.le_of_ble_eq_true rfl)) dX5_requireMeasurement_3 ⟨Nat.le_of_ble_eq_true rfl, Nat.le_of_ble_eq_true rfl⟩) ?_
  refine zr_ifb_ne (tgt := 19) hx hb dX5_requireMeasurement_6 (by decide) (fun c1 => ?_) (fun c1 => ?_)
  · exact W.vret hx hb hr (fun t ht hW => ⟨rfl, ht⟩) (fun q hq => absurd hq List.not_mem_nil) dX5_requireMeasurement_19
  · exfalso; first | omega | (simp only [and_true, true_and] at c1; omega) | exact c1.2.elim
set_option maxHeartbeats 4000000 in
set_option maxRecDepth 100000 in
theorem met_X5_requireMeasurement_x (l : Launch) (hfl : l.stackTraces = false)  (xi : Int) (xv : Int) (xt : Int) (rxi : -2147483648 ≤ xi ∧ xi ≤ 2147483647) (rxv : -2147483648 ≤ xv ∧ xv ≤ 2147483647) (rxt : -2147483648 ≤ xt ∧ xt ≤ 2147483647) (kno : ¬ ((-50000 ≤ xi ∧ xi ≤ 50000) ∧ (0 ≤ xv ∧ xv ≤ 6000) ∧ 1 ≤ xt ∧ xt ≤ 600)) : vx_Met l yX5_requireMeasurement wsX5_requireMeasurement ({ frames := 6, cells := 1, slots := 6, locals := 82 }) (va_Pc [.int (zI xi), .int (zI xv), .int (zI xt)] zPreY) zQXv (zXC "java/lang/IllegalArgumentException") 1 6 (fun _ => False) := by
  refine vx_ofW (cc := cX5_requireMeasurement) (maxL := 3) (ret := none) (by decide +kernel) rfl ?_
  intro p e s m args below meth c s₁ B hml hnx hv
  obtain ⟨rfl, hX⟩ := hv
  have hx := B.exec
  have hb := B.bytes
  have hr := B.returns
  have hts := atoms_spec (ws := wsX5_requireMeasurement) B.pre
  have hown : s.vm.findClass RX5 = some m.cls := findClass_of_methodNamed B.named
  have hlocks := B.notSynchronized
  have hX : zXF s s.heap := hX
  have hS : va_S (fun _ => False) s.heap s.heap [] := va_S.rf
  have hl := lv_entry ([.int (zI xi), .int (zI xv), .int (zI xt)]) (n := 3) (Nat.le_of_ble_eq_true rfl)
  rw [lg_entry_eq]
  generalize (lg_sl ([.int (zI xi), .int (zI xv), .int (zI xt)]) ++ List.replicate (3 - (lg_sl ([.int (zI xi), .int (zI xv), .int (zI xt)])).length) Slot.unset).toArray = ls at hl ⊢
  have hl : lv_has ls 3 [(0, .int (zI xi)), (1, .int (zI xv)), (2, .int (zI xt))] := hl
  refine lv_iload_n hx hb dX5_requireMeasurement_0 rfl (lv_at hl 0 rfl) ?_
  refine lv_iload_n hx hb dX5_requireMeasurement_1 rfl (lv_at hl 1 rfl) ?_
  refine lv_iload_n hx hb dX5_requireMeasurement_2 rfl (lv_at hl 2 rfl) ?_
  refine zc_ri (va_runS (As := [.int (zI xi), .int (zI xv), .int (zI xt)]) (rest := []) ⟨hx, hb, hml, hown, hts⟩ (met_X5_isMeasurement l xi xv xt (by first | assumption | omega) (by first | assumption | omega) (by first | assumption | omega)) (va_cwS 3 hts gX5_requireMeasurement_X5_isMeasurement rfl rfl rfl (by decide +kernel) ⟨Nat.le_of_ble_eq_true rfl, Nat.le_of_ble_eq_true rfl⟩) ⟨zTrue.blind, fun U hU hW => ⟨rfl, trivial⟩⟩ rfl rfl hl.1 rfl (lv_room (Nat.le_of_ble_eq_true rfl)) dX5_requireMeasurement_3 ⟨Nat.le_of_ble_eq_true rfl, Nat.le_of_ble_eq_true rfl⟩) ?_
  refine zr_ifb_ne (tgt := 19) hx hb dX5_requireMeasurement_6 (by decide) (fun c1 => ?_) (fun c1 => ?_)
  · exfalso; omega
  · obtain ⟨sa9, hstr9⟩ := hX.1.2 (245, "a measurement is out of range") (by decide +kernel)
    exact vx_throwS (pc := 9) (own := RX5) (cls := "java/lang/IllegalArgumentException") (text := "a measurement is out of range") (names := ["java/lang/RuntimeException", "java/lang/Exception"]) (ik := 88) (is := 245) (ic := 92) (mc := 1) (ms := 6) hx hb hfl hown (by decide +kernel) (by decide +kernel) (hts (.classLink RX5 88 "java/lang/IllegalArgumentException") (List.mem_of_getElem? (i := 1) rfl)) (hts (.initialized "java/lang/IllegalArgumentException") (List.mem_of_getElem? (i := 2) rfl)) hstr9 (vx_hat (B := zXw) (fun w hw => hts w ((show ∀ w ∈ (vx_atS RX5 92 "java/lang/IllegalArgumentException" ["java/lang/RuntimeException", "java/lang/Exception"]).filter goodWord, w ∈ wsX5_requireMeasurement by decide +kernel) w hw)) (by decide +kernel) (fun w hw => va_Nw.use (zXb_t (List.all_eq_true.mp zXw_b w hw)) (hX.1.1 w hw))) (by decide +kernel) hX.2.1.1 hX.2.1.2 hS (hl.1.trans hml.symm) dX5_requireMeasurement_9 dX5_requireMeasurement_12 dX5_requireMeasurement_13 dX5_requireMeasurement_15 dX5_requireMeasurement_18 (fun x hx => (hnx x hx).elim) (by decide) (Nat.le_of_ble_eq_true rfl) (Nat.le_of_ble_eq_true rfl) (Nat.le_of_ble_eq_true rfl) hlocks (fun t hvm hz hk => ⟨(), trivial, rfl, hz, fun q h _ => hk q h⟩) (fun z hz => by cases hz) (Nat.le_of_ble_eq_true rfl) (Nat.le_of_ble_eq_true rfl)
set_option maxHeartbeats 4000000 in
set_option maxRecDepth 100000 in
theorem met_X5_requireModel_ok (l : Launch)  (xi : Int) (xt : Int) (xr : Int) (xn : Int) (rxi : -2147483648 ≤ xi ∧ xi ≤ 2147483647) (rxt : -2147483648 ≤ xt ∧ xt ≤ 2147483647) (rxr : -2147483648 ≤ xr ∧ xr ≤ 2147483647) (rxn : -2147483648 ≤ xn ∧ xn ≤ 2147483647) (kok : ((-50000 ≤ xi ∧ xi ≤ 50000) ∧ (0 ≤ (0 : Int) ∧ (0 : Int) ≤ 6000) ∧ 1 ≤ xt ∧ xt ≤ 600) ∧ (0 ≤ xr ∧ xr ≤ 1000) ∧ 0 ≤ xn ∧ xn ≤ 500) : Met l yX5_requireModel wsX5_requireModel ({ frames := 3, cells := 0, slots := 0, locals := 66 }) (va_Pc [.int (zI xi), .int (zI xt), .int (zI xr), .int (zI xn)] (fun _ => True)) zRn 0 0 (fun _ => False) := by
  refine Met.ofW (cc := cX5_requireModel) (maxL := 4) (ret := none) (by decide) rfl ?_
  intro p e s m args below meth c s₁ B hml hv
  obtain ⟨rfl, -⟩ := hv
  have hx := B.exec
  have hb := B.bytes
  have hr := B.returns
  have hts := atoms_spec (ws := wsX5_requireModel) B.pre
  have hown : s.vm.findClass RX5 = some m.cls := findClass_of_methodNamed B.named
  have hlocks := B.notSynchronized
  have hl := lv_entry ([.int (zI xi), .int (zI xt), .int (zI xr), .int (zI xn)]) (n := 4) (Nat.le_of_ble_eq_true rfl)
  rw [lg_entry_eq]
  generalize (lg_sl ([.int (zI xi), .int (zI xt), .int (zI xr), .int (zI xn)]) ++ List.replicate (4 - (lg_sl ([.int (zI xi), .int (zI xt), .int (zI xr), .int (zI xn)])).length) Slot.unset).toArray = ls at hl ⊢
  have hl : lv_has ls 4 [(0, .int (zI xi)), (1, .int (zI xt)), (2, .int (zI xr)), (3, .int (zI xn))] := hl
  refine lv_iload_n hx hb dX5_requireModel_0 rfl (lv_at hl 0 rfl) ?_
  refine zr_iconst hx hb dX5_requireModel_1 ?_
  refine lv_iload_n hx hb dX5_requireModel_2 rfl (lv_at hl 1 rfl) ?_
  refine zc_rv (va_runS (As := [.int (zI xi), .int (zI 0), .int (zI xt)]) (rest := []) ⟨hx, hb, hml, hown, hts⟩ (met_X5_requireMeasurement_ok l xi 0 xt (by omega) (by decide) (by omega) (by first | assumption | omega)) (va_cwS 3 hts gX5_requireModel_X5_requireMeasurement rfl rfl rfl (by decide +kernel) ⟨(Nat.le_of_ble_eq_true rfl), (Nat.le_of_ble_eq_true rfl)⟩) ⟨zTrue.blind, fun U hU hW => ⟨rfl, trivial⟩⟩ rfl rfl hl.1 rfl (lv_room ((Nat.le_of_ble_eq_true rfl))) dX5_requireModel_3 ⟨(Nat.le_of_ble_eq_true rfl), (Nat.le_of_ble_eq_true rfl)⟩) ?_
  refine lv_iload_n hx hb dX5_requireModel_6 rfl (lv_at hl 2 rfl) ?_
  refine zr_iconst hx hb dX5_requireModel_7 ?_
  refine zr_sipush hx hb dX5_requireModel_8 (by decide) ?_
  refine zc_rv (va_runS (As := [.int (zI xr), .int (zI 0), .int (zI 1000)]) (rest := []) ⟨hx, hb, hml, hown, hts⟩ (met_X5_requireWithin_ok l xr 0 1000 (by omega) (by decide) (by decide) (by first | assumption | omega)) (va_cwS 3 hts gX5_requireModel_X5_requireWithin rfl rfl rfl (by decide +kernel) ⟨(Nat.le_of_ble_eq_true rfl), (Nat.le_of_ble_eq_true rfl)⟩) ⟨zTrue.blind, fun U hU hW => ⟨rfl, trivial⟩⟩ rfl rfl hl.1 rfl (lv_room ((Nat.le_of_ble_eq_true rfl))) dX5_requireModel_11 ⟨(Nat.le_of_ble_eq_true rfl), (Nat.le_of_ble_eq_true rfl)⟩) ?_
  refine lv_iload_n hx hb dX5_requireModel_14 rfl (lv_at hl 3 rfl) ?_
  refine zr_iconst hx hb dX5_requireModel_15 ?_
  refine zr_sipush hx hb dX5_requireModel_16 (by decide) ?_
  refine zc_rv (va_runS (As := [.int (zI xn), .int (zI 0), .int (zI 500)]) (rest := []) ⟨hx, hb, hml, hown, hts⟩ (met_X5_requireWithin_ok l xn 0 500 (by omega) (by decide) (by decide) (by first | assumption | omega)) (va_cwS 3 hts gX5_requireModel_X5_requireWithin rfl rfl rfl (by decide +kernel) ⟨(Nat.le_of_ble_eq_true rfl), (Nat.le_of_ble_eq_true rfl)⟩) ⟨zTrue.blind, fun U hU hW => ⟨rfl, trivial⟩⟩ rfl rfl hl.1 rfl (lv_room ((Nat.le_of_ble_eq_true rfl))) dX5_requireModel_19 ⟨(Nat.le_of_ble_eq_true rfl), (Nat.le_of_ble_eq_true rfl)⟩) ?_
  exact W.vret hx hb hr (fun t ht hW => ⟨rfl, ht⟩) (fun q hq => absurd hq List.not_mem_nil) dX5_requireModel_22
set_option maxHeartbeats 4000000 in
set_option maxRecDepth 100000 in
theorem met_X5_requireModel_x (l : Launch) (hfl : l.stackTraces = false)  (xi : Int) (xt : Int) (xr : Int) (xn : Int) (rxi : -2147483648 ≤ xi ∧ xi ≤ 2147483647) (rxt : -2147483648 ≤ xt ∧ xt ≤ 2147483647) (rxr : -2147483648 ≤ xr ∧ xr ≤ 2147483647) (rxn : -2147483648 ≤ xn ∧ xn ≤ 2147483647) (kno : ¬ (((-50000 ≤ xi ∧ xi ≤ 50000) ∧ (0 ≤ (0 : Int) ∧ (0 : Int) ≤ 6000) ∧ 1 ≤ xt ∧ xt ≤ 600) ∧ (0 ≤ xr ∧ xr ≤ 1000) ∧ 0 ≤ xn ∧ xn ≤ 500)) : vx_Met l yX5_requireModel wsX5_requireModel ({ frames := 7, cells := 1, slots := 6, locals := 104 }) (va_Pc [.int (zI xi), .int (zI xt), .int (zI xr), .int (zI xn)] zPreY) zQXv (zXC "java/lang/IllegalArgumentException") 1 6 (fun _ => False) := by
  refine vx_ofW (cc := cX5_requireModel) (maxL := 4) (ret := none) (by decide +kernel) rfl ?_
  intro p e s m args below meth c s₁ B hml hnx hv
  obtain ⟨rfl, hX⟩ := hv
  have hx := B.exec
  have hb := B.bytes
  have hr := B.returns
  have hts := atoms_spec (ws := wsX5_requireModel) B.pre
  have hown : s.vm.findClass RX5 = some m.cls := findClass_of_methodNamed B.named
  have hlocks := B.notSynchronized
  have hX : zXF s s.heap := hX
  have hS : va_S (fun _ => False) s.heap s.heap [] := va_S.rf
  have hl := lv_entry ([.int (zI xi), .int (zI xt), .int (zI xr), .int (zI xn)]) (n := 4) (Nat.le_of_ble_eq_true rfl)
  rw [lg_entry_eq]
  generalize (lg_sl ([.int (zI xi), .int (zI xt), .int (zI xr), .int (zI xn)]) ++ List.replicate (4 - (lg_sl ([.int (zI xi), .int (zI xt), .int (zI xr), .int (zI xn)])).length) Slot.unset).toArray = ls at hl ⊢
  have hl : lv_has ls 4 [(0, .int (zI xi)), (1, .int (zI xt)), (2, .int (zI xr)), (3, .int (zI xn))] := hl
  refine lv_iload_n hx hb dX5_requireModel_0 rfl (lv_at hl 0 rfl) ?_
  refine zr_iconst hx hb dX5_requireModel_1 ?_
  refine lv_iload_n hx hb dX5_requireModel_2 rfl (lv_at hl 1 rfl) ?_
  by_cases r1 : (-50000 ≤ xi ∧ xi ≤ 50000) ∧ (0 ≤ (0 : Int) ∧ (0 : Int) ≤ 6000) ∧ 1 ≤ xt ∧ xt ≤ 600
  rotate_left
  · exact zc_xv (vx_runS (As := [.int (zI xi), .int (zI 0), .int (zI xt)]) (rest := []) ⟨hx, hb, hml, hown, hts⟩ (met_X5_requireMeasurement_x l hfl xi 0 xt (by omega) (by decide) (by omega) r1) (va_cwS 3 hts gX5_requireModel_X5_requireMeasurement rfl rfl rfl (by decide +kernel) ⟨(Nat.le_of_ble_eq_true rfl), (Nat.le_of_ble_eq_true rfl)⟩) ⟨zPreY.blind, fun U hU hW => zp_Y hX hU hW⟩ rfl rfl hl.1 rfl (lv_room ((Nat.le_of_ble_eq_true rfl))) dX5_requireModel_3 ⟨(Nat.le_of_ble_eq_true rfl), (Nat.le_of_ble_eq_true rfl)⟩) hnx hlocks hS (Nat.le_of_ble_eq_true rfl) (Nat.le_of_ble_eq_true rfl)
  refine zc_rv (va_runS (As := [.int (zI xi), .int (zI 0), .int (zI xt)]) (rest := []) ⟨hx, hb, hml, hown, hts⟩ (met_X5_requireMeasurement_ok l xi 0 xt (by omega) (by decide) (by omega) r1) (va_cwS 3 hts gX5_requireModel_X5_requireMeasurement rfl rfl rfl (by decide +kernel) ⟨(Nat.le_of_ble_eq_true rfl), (Nat.le_of_ble_eq_true rfl)⟩) ⟨zTrue.blind, fun U hU hW => ⟨rfl, trivial⟩⟩ rfl rfl hl.1 rfl (lv_room ((Nat.le_of_ble_eq_true rfl))) dX5_requireModel_3 ⟨(Nat.le_of_ble_eq_true rfl), (Nat.le_of_ble_eq_true rfl)⟩) ?_
  refine lv_iload_n hx hb dX5_requireModel_6 rfl (lv_at hl 2 rfl) ?_
  refine zr_iconst hx hb dX5_requireModel_7 ?_
  refine zr_sipush hx hb dX5_requireModel_8 (by decide) ?_
  by_cases r2 : (0 : Int) ≤ xr ∧ xr ≤ (1000 : Int)
  rotate_left
  · exact zc_xv (vx_runS (As := [.int (zI xr), .int (zI 0), .int (zI 1000)]) (rest := []) ⟨hx, hb, hml, hown, hts⟩ (met_X5_requireWithin_x l hfl xr 0 1000 (by omega) (by decide) (by decide) r2) (va_cwS 3 hts gX5_requireModel_X5_requireWithin rfl rfl rfl (by decide +kernel) ⟨(Nat.le_of_ble_eq_true rfl), (Nat.le_of_ble_eq_true rfl)⟩) ⟨zPreY.blind, fun U hU hW => zp_Y hX hU hW⟩ rfl rfl hl.1 rfl (lv_room ((Nat.le_of_ble_eq_true rfl))) dX5_requireModel_11 ⟨(Nat.le_of_ble_eq_true rfl), (Nat.le_of_ble_eq_true rfl)⟩) hnx hlocks hS (Nat.le_of_ble_eq_true rfl) (Nat.le_of_ble_eq_true rfl)
  refine zc_rv (va_runS (As := [.int (zI xr), .int (zI 0), .int (zI 1000)]) (rest := []) ⟨hx, hb, hml, hown, hts⟩ (met_X5_requireWithin_ok l xr 0 1000 (by omega) (by decide) (by decide) r2) (va_cwS 3 hts gX5_requireModel_X5_requireWithin rfl rfl rfl (by decide +kernel) ⟨(Nat.le_of_ble_eq_true rfl), (Nat.le_of_ble_eq_true rfl)⟩) ⟨zTrue.blind, fun U hU hW => ⟨rfl, trivial⟩⟩ rfl rfl hl.1 rfl (lv_room ((Nat.le_of_ble_eq_true rfl))) dX5_requireModel_11 ⟨(Nat.le_of_ble_eq_true rfl), (Nat.le_of_ble_eq_true rfl)⟩) ?_
  refine lv_iload_n hx hb dX5_requireModel_14 rfl (lv_at hl 3 rfl) ?_
  refine zr_iconst hx hb dX5_requireModel_15 ?_
  refine zr_sipush hx hb dX5_requireModel_16 (by decide) ?_
  by_cases r3 : (0 : Int) ≤ xn ∧ xn ≤ (500 : Int)
  rotate_left
  · exact zc_xv (vx_runS (As := [.int (zI xn), .int (zI 0), .int (zI 500)]) (rest := []) ⟨hx, hb, hml, hown, hts⟩ (met_X5_requireWithin_x l hfl xn 0 500 (by omega) (by decide) (by decide) r3) (va_cwS 3 hts gX5_requireModel_X5_requireWithin rfl rfl rfl (by decide +kernel) ⟨(Nat.le_of_ble_eq_true rfl), (Nat.le_of_ble_eq_true rfl)⟩) ⟨zPreY.blind, fun U hU hW => zp_Y hX hU hW⟩ rfl rfl hl.1 rfl (lv_room ((Nat.le_of_ble_eq_true rfl))) dX5_requireModel_19 ⟨(Nat.le_of_ble_eq_true rfl), (Nat.le_of_ble_eq_true rfl)⟩) hnx hlocks hS (Nat.le_of_ble_eq_true rfl) (Nat.le_of_ble_eq_true rfl)
  refine zc_rv (va_runS (As := [.int (zI xn), .int (zI 0), .int (zI 500)]) (rest := []) ⟨hx, hb, hml, hown, hts⟩ (met_X5_requireWithin_ok l xn 0 500 (by omega) (by decide) (by decide) r3) (va_cwS 3 hts gX5_requireModel_X5_requireWithin rfl rfl rfl (by decide +kernel) ⟨(Nat.le_of_ble_eq_true rfl), (Nat.le_of_ble_eq_true rfl)⟩) ⟨zTrue.blind, fun U hU hW => ⟨rfl, trivial⟩⟩ rfl rfl hl.1 rfl (lv_room ((Nat.le_of_ble_eq_true rfl))) dX5_requireModel_19 ⟨(Nat.le_of_ble_eq_true rfl), (Nat.le_of_ble_eq_true rfl)⟩) ?_
  exfalso; omega
