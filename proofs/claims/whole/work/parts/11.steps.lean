/-! the battery: what it does in a measurement -/
theorem zqr (xa xb : Int) (hb : 0 < xb) : (0 ≤ xa → 0 ≤ xa.tdiv xb * xb ∧ xa.tdiv xb * xb ≤ xa ∧ 0 ≤ xa.tdiv xb ∧ xa.tdiv xb ≤ xa) ∧ (xa < 0 → xa ≤ xa.tdiv xb * xb ∧ xa.tdiv xb * xb ≤ 0 ∧ xa ≤ xa.tdiv xb ∧ xa.tdiv xb ≤ 0) := by
  have key : ∀ x : Int, 0 ≤ x → 0 ≤ x.tdiv xb * xb ∧ x.tdiv xb * xb ≤ x ∧ 0 ≤ x.tdiv xb ∧ x.tdiv xb ≤ x := by
    intro x hx
    rw [Int.tdiv_eq_ediv_of_nonneg hx]
    have h1 : 0 ≤ x / xb := Int.ediv_nonneg hx (by omega)
    have h2 : x / xb * xb ≤ x := Int.ediv_mul_le x (by omega)
    have h3 : x / xb * 1 ≤ x / xb * xb := Int.mul_le_mul_of_nonneg_left (by omega) h1
    exact ⟨Int.mul_nonneg h1 (by omega), h2, h1, by omega⟩
  refine ⟨key xa, fun h => ?_⟩
  have h1 := key (-xa) (by omega)
  rw [Int.neg_tdiv, Int.neg_mul] at h1
  omega
theorem zqr_1 (xa xb : Int) (ha : -2147483648 ≤ xa) (hb : 0 < xb) : (0 ≤ xa → 0 ≤ xa.tdiv xb * xb ∧ xa.tdiv xb * xb ≤ xa ∧ 0 ≤ xa.tdiv xb ∧ xa.tdiv xb ≤ xa) ∧ (xa < 0 → xa ≤ xa.tdiv xb * xb ∧ xa.tdiv xb * xb ≤ 0 ∧ xa ≤ xa.tdiv xb ∧ xa.tdiv xb ≤ 0) := zqr xa xb hb
theorem zqr_2 (xa xb : Int) (ha : -4000000000000000000 ≤ xa ∧ xa ≤ 4000000000000000000) (hb : 0 < xb) : (0 ≤ xa → 0 ≤ xa.tdiv xb * xb ∧ xa.tdiv xb * xb ≤ xa ∧ 0 ≤ xa.tdiv xb ∧ xa.tdiv xb ≤ xa) ∧ (xa < 0 → xa ≤ xa.tdiv xb * xb ∧ xa.tdiv xb * xb ≤ 0 ∧ xa ≤ xa.tdiv xb ∧ xa.tdiv xb ≤ 0) := zqr xa xb hb
set_option maxHeartbeats 4000000 in
set_option maxRecDepth 100000 in
theorem met_J9_floorDiv_7cf53 (l : Launch) (xa xb : Int) (kxa : -2147483648 ≤ xa ∧ xa ≤ 2147483647) (kxb : 0 < xb ∧ xb ≤ 1000000) : Met l yJ9_floorDiv_7cf53 wsJ9_floorDiv_7cf53 ({ frames := 0, cells := 0, slots := 0, locals := 0 }) (va_Pc [.int (zI xa), .int (zI xb)] (fun _ => True)) (zRi (zI (xa / xb))) 0 0 (fun _ => False) := by
  refine va_MetF (cc := cJ9_floorDiv_7cf53) (maxL := 3) (ret := (some .int)) (by decide +kernel) rfl ?_
  intro p e s m args below meth c s₁ B hml hv
  obtain ⟨rfl, -⟩ := hv
  have hx := B.exec
  have hb := B.bytes
  have hr := B.returns
  have hts := atoms_spec (ws := wsJ9_floorDiv_7cf53) B.pre
  have hown : s.vm.findClass RJ9 = some m.cls := findClass_of_methodNamed B.named
  have hlocks := B.notSynchronized
  have hl := lv_entry ([.int (zI xa), .int (zI xb)]) (n := 3) (Nat.le_of_ble_eq_true rfl)
  rw [lg_entry_eq]
  generalize (lg_sl ([.int (zI xa), .int (zI xb)]) ++ List.replicate (3 - (lg_sl ([.int (zI xa), .int (zI xb)])).length) Slot.unset).toArray = ls at hl ⊢
  have hl : lv_has ls 3 [(0, .int (zI xa)), (1, .int (zI xb))] := hl
  have ht1 := zqr_1 xa xb kxa.1 kxb.1
  refine lv_iload_n hx hb dJ9_floorDiv_7cf53_0 rfl (lv_at hl 0 rfl) ?_
  refine lv_iload_n hx hb dJ9_floorDiv_7cf53_1 rfl (lv_at hl 1 rfl) ?_
  refine zr_idivT hx hb dJ9_floorDiv_7cf53_2 (by omega) (by omega) ?_
  refine lv_istore_n (lv' := [(2, .int (zI (xa.tdiv xb))), (0, .int (zI xa)), (1, .int (zI xb))]) hx hb dJ9_floorDiv_7cf53_3 rfl hl (by decide) rfl (fun ls hl => ?_)
  refine lv_iload_n hx hb dJ9_floorDiv_7cf53_4 rfl (lv_at hl 1 rfl) ?_
  refine lv_iload_n hx hb dJ9_floorDiv_7cf53_5 rfl (lv_at hl 2 rfl) ?_
  refine zr_ixge (tgt := 21) hx hb dJ9_floorDiv_7cf53_6 dJ9_floorDiv_7cf53_7 (by decide) (by omega) (by omega) (fun c1 => ?_) (fun c1 => ?_)
  · refine lv_iload_n hx hb dJ9_floorDiv_7cf53_21 rfl (lv_at hl 0 rfl) ?_
    exact W.iret hx hb hr (fun t ht hW => ⟨_, rfl, (congrArg zI (show xa.tdiv xb = xa / xb from by first | exact zfd_0 (by omega) | exact zfd_1 (by omega) (by omega) | exact zfd_2 (by omega) (by omega) (by omega))), ht⟩) (fun q hq => absurd hq List.not_mem_nil) dJ9_floorDiv_7cf53_22
  · refine lv_iload_n hx hb dJ9_floorDiv_7cf53_10 rfl (lv_at hl 0 rfl) ?_
    refine lv_iload_n hx hb dJ9_floorDiv_7cf53_11 rfl (lv_at hl 2 rfl) ?_
    refine zr_imul hx hb dJ9_floorDiv_7cf53_12 ?_
    refine lv_iload_n hx hb dJ9_floorDiv_7cf53_13 rfl (lv_at hl 1 rfl) ?_
    refine zr_icmp_eq (tgt := 21) hx hb dJ9_floorDiv_7cf53_14 (by decide) (by omega) (by omega) (fun c2 => ?_) (fun c2 => ?_)
    · refine lv_iload_n hx hb dJ9_floorDiv_7cf53_21 rfl (lv_at hl 0 rfl) ?_
      exact W.iret hx hb hr (fun t ht hW => ⟨_, rfl, (congrArg zI (show xa.tdiv xb = xa / xb from by first | exact zfd_0 (by omega) | exact zfd_1 (by omega) (by omega) | exact zfd_2 (by omega) (by omega) (by omega))), ht⟩) (fun q hq => absurd hq List.not_mem_nil) dJ9_floorDiv_7cf53_22
    · refine lv_iload_n hx hb dJ9_floorDiv_7cf53_17 rfl (lv_at hl 0 rfl) ?_
      refine zr_iconst hx hb dJ9_floorDiv_7cf53_18 ?_
      refine zr_isub hx hb dJ9_floorDiv_7cf53_19 ?_
      exact W.iret hx hb hr (fun t ht hW => ⟨_, rfl, (congrArg zI (show (xa.tdiv xb) - 1 = xa / xb from by first | exact zfd_0 (by omega) | exact zfd_1 (by omega) (by omega) | exact zfd_2 (by omega) (by omega) (by omega))), ht⟩) (fun q hq => absurd hq List.not_mem_nil) dJ9_floorDiv_7cf53_20
set_option maxHeartbeats 4000000 in
set_option maxRecDepth 100000 in
theorem met_J9_floorDiv_f86c9 (l : Launch) (xa xb : Int) (kxa : -4000000000000000000 ≤ xa ∧ xa ≤ 4000000000000000000) (kxb : 0 < xb ∧ xb ≤ 1000000) : Met l yJ9_floorDiv_f86c9 wsJ9_floorDiv_f86c9 ({ frames := 0, cells := 0, slots := 0, locals := 0 }) (va_Pc [.long (zL xa), .long (zL xb)] (fun _ => True)) (zRl (zL (xa / xb))) 0 0 (fun _ => False) := by
  refine va_MetF (cc := cJ9_floorDiv_f86c9) (maxL := 6) (ret := (some .long)) (by decide +kernel) rfl ?_
  intro p e s m args below meth c s₁ B hml hv
  obtain ⟨rfl, -⟩ := hv
  have hx := B.exec
  have hb := B.bytes
  have hr := B.returns
  have hts := atoms_spec (ws := wsJ9_floorDiv_f86c9) B.pre
  have hown : s.vm.findClass RJ9 = some m.cls := findClass_of_methodNamed B.named
  have hlocks := B.notSynchronized
  have hl := lv_entry ([.long (zL xa), .long (zL xb)]) (n := 6) (Nat.le_of_ble_eq_true rfl)
  rw [lg_entry_eq]
  generalize (lg_sl ([.long (zL xa), .long (zL xb)]) ++ List.replicate (6 - (lg_sl ([.long (zL xa), .long (zL xb)])).length) Slot.unset).toArray = ls at hl ⊢
  have hl : lv_has ls 6 [(0, .long (zL xa)), (2, .long (zL xb))] := hl
  have ht1 := zqr_2 xa xb kxa kxb.1
  refine lv_lload_n hx hb dJ9_floorDiv_f86c9_0 rfl (lv_at hl 0 rfl) ?_
  refine lv_lload_n hx hb dJ9_floorDiv_f86c9_1 rfl (lv_at hl 1 rfl) ?_
  refine zr_ldivT hx hb dJ9_floorDiv_f86c9_2 (by omega) (by omega) ?_
  refine lv_lstore (lv' := [(4, .long (zL (xa.tdiv xb))), (0, .long (zL xa)), (2, .long (zL xb))]) hx hb dJ9_floorDiv_f86c9_3 hl (by decide) rfl (fun ls hl => ?_)
  refine lv_lload_n hx hb dJ9_floorDiv_f86c9_5 rfl (lv_at hl 1 rfl) ?_
  refine lv_lload_n hx hb dJ9_floorDiv_f86c9_6 rfl (lv_at hl 2 rfl) ?_
  refine zr_lxge (tgt := 27) hx hb dJ9_floorDiv_f86c9_7 dJ9_floorDiv_f86c9_8 dJ9_floorDiv_f86c9_9 dJ9_floorDiv_f86c9_10 (by decide) (by omega) (by omega) (fun c1 => ?_) (fun c1 => ?_)
  · refine lv_lload hx hb dJ9_floorDiv_f86c9_27 (lv_at hl 0 rfl) ?_
    exact W.lret hx hb hr (fun t ht hW => ⟨_, rfl, (congrArg zL (show xa.tdiv xb = xa / xb from by first | exact zfd_0 (by omega) | exact zfd_1 (by omega) (by omega) | exact zfd_2 (by omega) (by omega) (by omega))), ht⟩) (fun q hq => absurd hq List.not_mem_nil) dJ9_floorDiv_f86c9_29
  · refine lv_lload hx hb dJ9_floorDiv_f86c9_13 (lv_at hl 0 rfl) ?_
    refine lv_lload_n hx hb dJ9_floorDiv_f86c9_15 rfl (lv_at hl 2 rfl) ?_
    refine zr_lmul hx hb dJ9_floorDiv_f86c9_16 ?_
    refine lv_lload_n hx hb dJ9_floorDiv_f86c9_17 rfl (lv_at hl 1 rfl) ?_
    refine zr_lcmp_eq (tgt := 27) hx hb dJ9_floorDiv_f86c9_18 dJ9_floorDiv_f86c9_19 (by decide) (by omega) (by omega) (fun c2 => ?_) (fun c2 => ?_)
    · refine lv_lload hx hb dJ9_floorDiv_f86c9_27 (lv_at hl 0 rfl) ?_
      exact W.lret hx hb hr (fun t ht hW => ⟨_, rfl, (congrArg zL (show xa.tdiv xb = xa / xb from by first | exact zfd_0 (by omega) | exact zfd_1 (by omega) (by omega) | exact zfd_2 (by omega) (by omega) (by omega))), ht⟩) (fun q hq => absurd hq List.not_mem_nil) dJ9_floorDiv_f86c9_29
    · refine lv_lload hx hb dJ9_floorDiv_f86c9_22 (lv_at hl 0 rfl) ?_
      refine zr_lconst1 hx hb dJ9_floorDiv_f86c9_24 ?_
      refine zr_lsub hx hb dJ9_floorDiv_f86c9_25 ?_
      exact W.lret hx hb hr (fun t ht hW => ⟨_, rfl, (congrArg zL (show (xa.tdiv xb) - 1 = xa / xb from by first | exact zfd_0 (by omega) | exact zfd_1 (by omega) (by omega) | exact zfd_2 (by omega) (by omega) (by omega))), ht⟩) (fun q hq => absurd hq List.not_mem_nil) dJ9_floorDiv_f86c9_26
set_option maxHeartbeats 4000000 in
set_option maxRecDepth 100000 in
theorem met_X1_countCharge (l : Launch) (D : va_G) (cs : Nat → ClassId) (q : Nat → Nat) (sz : Nat) (n : Int) (A : Int → Int) (xi xt : Int) (hI : zOK n A) (hn : 0 ≤ n ∧ n ≤ 3100000) (kxi : -50000 ≤ xi ∧ xi ≤ 50000) (kxt : 1 ≤ xt ∧ xt ≤ 600) : Met l yX1_countCharge wsX1_countCharge ({ frames := 3, cells := 0, slots := 0, locals := 64 }) (va_Pc [.ref (q 0), .int (zI xi), .int (zI xt)] (zPreZ D (zTy cs) (zbat cs q A) sz)) (zQv D (zbat cs q A) sz (zbat cs q (zCnt A xi xt))) 0 0 (va_A (zbat cs q A) sz) := by
  refine Met.ofW (cc := cX1_countCharge) (maxL := 5) (ret := none) (by decide) rfl ?_
  intro p e s m args below meth c s₁ B hml hv
  obtain ⟨rfl, hsz, hP, hK, hD0, hN⟩ := hv
  have hx := B.exec
  have hb := B.bytes
  have hr := B.returns
  have hts := atoms_spec (ws := wsX1_countCharge) B.pre
  have hown : s.vm.findClass RX1 = some m.cls := findClass_of_methodNamed B.named
  have hlocks := B.notSynchronized
  subst hsz
  obtain ⟨A0, hAe⟩ : ∃ A0, A0 = va_A (zbat cs q A) s.heap.size := ⟨_, rfl⟩
  have hD := hD0.self (sz := s.heap.size)
  rw [← hAe] at hD
  have hA : ∀ q : Nat, s.heap.size ≤ q → A0 q := fun q h => by rw [hAe]; exact Or.inr h
  have hS : va_S A0 s.heap s.heap [] := va_S.rf
  have hP : va_P D vwCl (zbat cs q A) s.heap := hP
  have hl := lv_entry ([.ref (q 0), .int (zI xi), .int (zI xt)]) (n := 5) (Nat.le_of_ble_eq_true rfl)
  rw [lg_entry_eq]
  generalize (lg_sl ([.ref (q 0), .int (zI xi), .int (zI xt)]) ++ List.replicate (5 - (lg_sl ([.ref (q 0), .int (zI xi), .int (zI xt)])).length) Slot.unset).toArray = ls at hl ⊢
  have hl : lv_has ls 5 [(0, .ref (q 0)), (1, .int (zI xi)), (2, .int (zI xt))] := hl
  have hiX1 : ∀ w ∈ wsX10, w ∈ wsX1_countCharge := by decide +kernel
  have hw := zOK_w hI
  obtain ⟨hst, hC, q35, q36⟩ := id hw
  obtain ⟨qN, qC, qQ, qL, qH, q40, q41, q42, q43, q44, q45, q46, q47, q48, q49, q50, q51, q52, qhad, qlast, qrow⟩ := zOK_q hI
  have hMv := zMov_600 hI kxi kxt
  have hR := zRng_r hI
  have hLo := zLow_e hI xi xt
  have hHi := zHigh_e hI xi xt
  refine lv_aload_n hx hb dX1_countCharge_0 rfl (lv_at hl 0 rfl) ?_
  refine lv_iload_n hx hb dX1_countCharge_1 rfl (lv_at hl 1 rfl) ?_
  refine lv_iload_n hx hb dX1_countCharge_2 rfl (lv_at hl 2 rfl) ?_
  refine zc_rl (va_runV (As := [.int (zI xi), .int (zI xt)]) (rest := []) ⟨hx, hb, hml, hown, hts⟩ (met_X1_movedCharge l D cs q A xi xt (by first | assumption | exact zOK_w (by assumption)) (by first | assumption | omega) (by first | assumption | omega)) (cwV 2 hts gX1_countCharge_X1_movedCharge rfl rfl rfl (by decide +kernel) ⟨Nat.le_of_ble_eq_true rfl, Nat.le_of_ble_eq_true rfl⟩) ⟨zPre.blind, va_recv hK hP (ci := 1) (q0 := 0) rfl rfl, fun U hU hW => zp_R hP hK hD hN hU hW⟩ rfl rfl hl.1 rfl (lv_room (Nat.le_of_ble_eq_true rfl)) dX1_countCharge_3 ⟨Nat.le_of_ble_eq_true rfl, Nat.le_of_ble_eq_true rfl⟩) ?_
  refine lv_lstore_n (lv' := [(3, .long (zL (zMov A xi xt))), (0, .ref (q 0)), (1, .int (zI xi)), (2, .int (zI xt))]) hx hb dX1_countCharge_6 rfl hl (by decide) rfl (fun ls hl => ?_)
  refine lv_aload_n hx hb dX1_countCharge_7 rfl (lv_at hl 1 rfl) ?_
  refine lv_aload_n hx hb dX1_countCharge_8 rfl (lv_at hl 1 rfl) ?_
  refine va_get (D := D) (ci := 1) (v := .long (zL (A 34))) (C := RX1) (T := TX1) (N := 18) hx hb hts hiX1 hown hK hP 0 rfl rfl 5 (by decide) (hts (.fieldLink RX1 53 "ChargeEstimator$Battery" "estimate" "J") (List.mem_of_getElem? (i := 1) rfl)) (fun _ h9 => h9) rfl dX1_countCharge_9 ?_
  refine lv_lload_n hx hb dX1_countCharge_12 rfl (lv_at hl 0 rfl) ?_
  refine zr_ladd hx hb dX1_countCharge_13 ?_
  refine zr_lconst0 hx hb dX1_countCharge_14 ?_
  refine lv_aload_n hx hb dX1_countCharge_15 rfl (lv_at hl 1 rfl) ?_
  refine va_get (D := D) (ci := 1) (v := .long (zL (A 37))) (C := RX1) (T := TX1) (N := 18) hx hb hts hiX1 hown hK hP 0 rfl rfl 4 (by decide) (hts (.fieldLink RX1 48 "ChargeEstimator$Battery" "capacity" "J") (List.mem_of_getElem? (i := 2) rfl)) (fun _ h9 => h9) rfl dX1_countCharge_16 ?_
  refine zc_rl (va_runSN (As := [.long (zL ((A 34) + (zMov A xi xt))), .long (zL 0), .long (zL (A 37))]) (rest := [.ref (q 0)]) ⟨hx, hb, hml, hown, hts⟩ (met_X5_clamp l ((A 34) + (zMov A xi xt)) 0 (A 37) (by first | assumption | omega) (by first | assumption | omega) (by first | assumption | omega) (by first | assumption | omega)) ⟨va_cnB 3 hts gX1_countCharge_X5_clamp_n141 rfl rfl rfl (zn_RX1_141 hN) (hts (.initialized RX5) (List.mem_of_getElem? (i := 21) rfl)) (by decide +kernel) ⟨Nat.le_of_ble_eq_true rfl, Nat.le_of_ble_eq_true rfl⟩, (hts (.static yX5_clamp) (List.mem_of_getElem? (i := 20) rfl)), trivial⟩ ⟨zTrue.blind, fun U hU hW => ⟨rfl, trivial⟩⟩ rfl rfl hl.1 rfl (lv_room (Nat.le_of_ble_eq_true rfl)) dX1_countCharge_19 ⟨Nat.le_of_ble_eq_true rfl, Nat.le_of_ble_eq_true rfl⟩) ?_
  refine va_put (D := D) (ci := 1) (v := .long (zL (zclamp ((A 34) + (zMov A xi xt)) 0 (A 37)))) (ty := .long) (C := RX1) (T := TX1) (N := 18) hx hb hts hiX1 tyX1 tyX1_ok nmX1 hown hK hP hD hS 0 rfl rfl 5 (by decide) (hts (.fieldLink RX1 53 "ChargeEstimator$Battery" "estimate" "J") (List.mem_of_getElem? (i := 1) rfl)) (fun _ h9 => h9) rfl (by decide +kernel) rfl rfl (Nat.le_of_ble_eq_true rfl) dX1_countCharge_22 (fun H locs hP hD hS => ?_)
  have hP : va_P D vwCl (zbat cs q (zU A 34 (zclamp ((A 34) + (zMov A xi xt)) 0 (A 37)))) H := zbp_34 hP
  have hD : va_D A0 (zbat cs q (zU A 34 (zclamp ((A 34) + (zMov A xi xt)) 0 (A 37)))) := zD_addr hD rfl
  refine lv_aload_n hx hb dX1_countCharge_25 rfl (lv_at hl 1 rfl) ?_
  refine lv_aload_n hx hb dX1_countCharge_26 rfl (lv_at hl 1 rfl) ?_
  refine lv_iload_n hx hb dX1_countCharge_27 rfl (lv_at hl 2 rfl) ?_
  refine lv_iload_n hx hb dX1_countCharge_28 rfl (lv_at hl 3 rfl) ?_
  refine zc_rl (va_runV (As := [.int (zI xi), .int (zI xt)]) (rest := [.ref (q 0)]) ⟨hx, hb, hml, hown, hts⟩ (met_X1_lowAfter l D cs q (zU A 34 (zclamp ((A 34) + (zMov A xi xt)) 0 (A 37))) xi xt (by exact hw) (by first | assumption | omega) (by first | assumption | omega)) (cwV 2 hts gX1_countCharge_X1_lowAfter rfl rfl rfl (by decide +kernel) ⟨Nat.le_of_ble_eq_true rfl, Nat.le_of_ble_eq_true rfl⟩) ⟨zPre.blind, va_recv hK hP (ci := 1) (q0 := 0) rfl rfl, fun U hU hW => zp_R hP hK hD hN hU hW⟩ rfl rfl hl.1 rfl (lv_room (Nat.le_of_ble_eq_true rfl)) dX1_countCharge_29 ⟨Nat.le_of_ble_eq_true rfl, Nat.le_of_ble_eq_true rfl⟩) ?_
  refine zr_topl (b := zLow A xi xt) (by rfl) ?_
  refine va_put (D := D) (ci := 1) (v := .long (zL (zLow A xi xt))) (ty := .long) (C := RX1) (T := TX1) (N := 18) hx hb hts hiX1 tyX1 tyX1_ok nmX1 hown hK hP hD hS 0 rfl rfl 6 (by decide) (hts (.fieldLink RX1 56 "ChargeEstimator$Battery" "low" "J") (List.mem_of_getElem? (i := 3) rfl)) (fun _ h9 => h9) rfl (by decide +kernel) rfl rfl (Nat.le_of_ble_eq_true rfl) dX1_countCharge_32 (fun H locs hP hD hS => ?_)
  have hP : va_P D vwCl (zbat cs q (zU (zU A 34 (zclamp ((A 34) + (zMov A xi xt)) 0 (A 37))) 35 (zLow A xi xt))) H := zbp_35 hP
  have hD : va_D A0 (zbat cs q (zU (zU A 34 (zclamp ((A 34) + (zMov A xi xt)) 0 (A 37))) 35 (zLow A xi xt))) := zD_addr hD rfl
  refine lv_aload_n hx hb dX1_countCharge_35 rfl (lv_at hl 1 rfl) ?_
  refine lv_aload_n hx hb dX1_countCharge_36 rfl (lv_at hl 1 rfl) ?_
  refine lv_iload_n hx hb dX1_countCharge_37 rfl (lv_at hl 2 rfl) ?_
  refine lv_iload_n hx hb dX1_countCharge_38 rfl (lv_at hl 3 rfl) ?_
  refine zc_rl (va_runV (As := [.int (zI xi), .int (zI xt)]) (rest := [.ref (q 0)]) ⟨hx, hb, hml, hown, hts⟩ (met_X1_highAfter l D cs q (zU (zU A 34 (zclamp ((A 34) + (zMov A xi xt)) 0 (A 37))) 35 (zLow A xi xt)) xi xt (by exact ⟨hw.1, hw.2.1, hLo, hw.2.2.2⟩) (by first | assumption | omega) (by first | assumption | omega)) (cwV 2 hts gX1_countCharge_X1_highAfter rfl rfl rfl (by decide +kernel) ⟨Nat.le_of_ble_eq_true rfl, Nat.le_of_ble_eq_true rfl⟩) ⟨zPre.blind, va_recv hK hP (ci := 1) (q0 := 0) rfl rfl, fun U hU hW => zp_R hP hK hD hN hU hW⟩ rfl rfl hl.1 rfl (lv_room (Nat.le_of_ble_eq_true rfl)) dX1_countCharge_39 ⟨Nat.le_of_ble_eq_true rfl, Nat.le_of_ble_eq_true rfl⟩) ?_
  refine zr_topl (b := zHigh A xi xt) (by rfl) ?_
  refine va_put (D := D) (ci := 1) (v := .long (zL (zHigh A xi xt))) (ty := .long) (C := RX1) (T := TX1) (N := 18) hx hb hts hiX1 tyX1 tyX1_ok nmX1 hown hK hP hD hS 0 rfl rfl 7 (by decide) (hts (.fieldLink RX1 59 "ChargeEstimator$Battery" "high" "J") (List.mem_of_getElem? (i := 4) rfl)) (fun _ h9 => h9) rfl (by decide +kernel) rfl rfl (Nat.le_of_ble_eq_true rfl) dX1_countCharge_42 (fun H locs hP hD hS => ?_)
  have hP : va_P D vwCl (zbat cs q (zU (zU (zU A 34 (zclamp ((A 34) + (zMov A xi xt)) 0 (A 37))) 35 (zLow A xi xt)) 36 (zHigh A xi xt))) H := zbp_36 hP
  have hD : va_D A0 (zbat cs q (zU (zU (zU A 34 (zclamp ((A 34) + (zMov A xi xt)) 0 (A 37))) 35 (zLow A xi xt)) 36 (zHigh A xi xt))) := zD_addr hD rfl
  refine lv_aload_n hx hb dX1_countCharge_45 rfl (lv_at hl 1 rfl) ?_
  refine lv_aload_n hx hb dX1_countCharge_46 rfl (lv_at hl 1 rfl) ?_
  refine va_get (D := D) (ci := 1) (v := .long (zL (A 39))) (C := RX1) (T := TX1) (N := 18) hx hb hts hiX1 hown hK hP 0 rfl rfl 8 (by decide) (hts (.fieldLink RX1 62 "ChargeEstimator$Battery" "hysteresis" "J") (List.mem_of_getElem? (i := 5) rfl)) (fun _ h9 => h9) rfl dX1_countCharge_47 ?_
  refine lv_lload_n hx hb dX1_countCharge_50 rfl (lv_at hl 0 rfl) ?_
  refine zr_ladd hx hb dX1_countCharge_51 ?_
  refine zr_lconst0 hx hb dX1_countCharge_52 ?_
  refine lv_aload_n hx hb dX1_countCharge_53 rfl (lv_at hl 1 rfl) ?_
  refine zc_rl (va_runV (As := []) (rest := [.long (zL 0), .long (zL ((A 39) + (zMov A xi xt))), .ref (q 0)]) ⟨hx, hb, hml, hown, hts⟩ (met_X1_hysteresisRange l D cs q (zU (zU (zU A 34 (zclamp ((A 34) + (zMov A xi xt)) 0 (A 37))) 35 (zLow A xi xt)) 36 (zHigh A xi xt)) (by exact ⟨hw.1, hw.2.1, hLo, hHi⟩)) (cwV 0 hts gX1_countCharge_X1_hysteresisRange rfl rfl rfl (by decide +kernel) ⟨Nat.le_of_ble_eq_true rfl, Nat.le_of_ble_eq_true rfl⟩) ⟨zPre.blind, va_recv hK hP (ci := 1) (q0 := 0) rfl rfl, fun U hU hW => zp_R hP hK hD hN hU hW⟩ rfl rfl hl.1 rfl (lv_room (Nat.le_of_ble_eq_true rfl)) dX1_countCharge_54 ⟨Nat.le_of_ble_eq_true rfl, Nat.le_of_ble_eq_true rfl⟩) ?_
  have hR1 : zRng (zU (zU (zU A 34 (zclamp (A 34 + zMov A xi xt) 0 (A 37))) 35 (zLow A xi xt)) 36 (zHigh A xi xt)) = zRng A := rfl
  refine zr_topl (b := zRng A) (by rfl) ?_
  refine zc_rl (va_runSN (As := [.long (zL ((A 39) + (zMov A xi xt))), .long (zL 0), .long (zL (zRng A))]) (rest := [.ref (q 0)]) ⟨hx, hb, hml, hown, hts⟩ (met_X5_clamp l ((A 39) + (zMov A xi xt)) 0 (zRng A) (by first | assumption | omega) (by first | assumption | omega) (by first | assumption | omega) (by first | assumption | omega)) ⟨va_cnB 3 hts gX1_countCharge_X5_clamp_n141 rfl rfl rfl (zn_RX1_141 hN) (hts (.initialized RX5) (List.mem_of_getElem? (i := 21) rfl)) (by decide +kernel) ⟨Nat.le_of_ble_eq_true rfl, Nat.le_of_ble_eq_true rfl⟩, (hts (.static yX5_clamp) (List.mem_of_getElem? (i := 20) rfl)), trivial⟩ ⟨zTrue.blind, fun U hU hW => ⟨rfl, trivial⟩⟩ rfl rfl hl.1 rfl (lv_room (Nat.le_of_ble_eq_true rfl)) dX1_countCharge_57 ⟨Nat.le_of_ble_eq_true rfl, Nat.le_of_ble_eq_true rfl⟩) ?_
  refine va_put (D := D) (ci := 1) (v := .long (zL (zclamp ((A 39) + (zMov A xi xt)) 0 (zRng A)))) (ty := .long) (C := RX1) (T := TX1) (N := 18) hx hb hts hiX1 tyX1 tyX1_ok nmX1 hown hK hP hD hS 0 rfl rfl 8 (by decide) (hts (.fieldLink RX1 62 "ChargeEstimator$Battery" "hysteresis" "J") (List.mem_of_getElem? (i := 5) rfl)) (fun _ h9 => h9) rfl (by decide +kernel) rfl rfl (Nat.le_of_ble_eq_true rfl) dX1_countCharge_60 (fun H locs hP hD hS => ?_)
  have hP : va_P D vwCl (zbat cs q (zU (zU (zU (zU A 34 (zclamp ((A 34) + (zMov A xi xt)) 0 (A 37))) 35 (zLow A xi xt)) 36 (zHigh A xi xt)) 39 (zclamp ((A 39) + (zMov A xi xt)) 0 (zRng A)))) H := zbp_39 hP
  have hD : va_D A0 (zbat cs q (zU (zU (zU (zU A 34 (zclamp ((A 34) + (zMov A xi xt)) 0 (A 37))) 35 (zLow A xi xt)) 36 (zHigh A xi xt)) 39 (zclamp ((A 39) + (zMov A xi xt)) 0 (zRng A)))) := zD_addr hD rfl
  refine lv_aload_n hx hb dX1_countCharge_63 rfl (lv_at hl 1 rfl) ?_
  refine lv_dup hx hb dX1_countCharge_64 rfl ?_
  refine va_get (D := D) (ci := 1) (v := .long (zL (A 41))) (C := RX1) (T := TX1) (N := 18) hx hb hts hiX1 hown hK hP 0 rfl rfl 9 (by decide) (hts (.fieldLink RX1 65 "ChargeEstimator$Battery" "throughput" "J") (List.mem_of_getElem? (i := 6) rfl)) (fun _ h9 => h9) rfl dX1_countCharge_65 ?_
  refine lv_lload_n hx hb dX1_countCharge_68 rfl (lv_at hl 0 rfl) ?_
  refine zm_absL hx hb (hml.trans hl.1.symm) hown (hts (.methodLink RX1 181 Lib.MathLoose.abs_long.x) (List.mem_of_getElem? (i := 7) rfl)) (hts (.static Lib.MathLoose.abs_long.x) (List.mem_of_getElem? (i := 8) rfl)) (hts (.initialized "java/lang/Math") (List.mem_of_getElem? (i := 9) rfl)) (hts (.code Lib.MathLoose.abs_long.x Lib.MathLoose.abs_long.code 2 (some .long)) (List.mem_of_getElem? (i := 10) rfl)) (Nat.le_of_ble_eq_true rfl) (Nat.le_of_ble_eq_true rfl) (Nat.le_of_ble_eq_true rfl) (Nat.le_of_ble_eq_true rfl) dX1_countCharge_69 (by omega) ?_
  refine zr_ladd hx hb dX1_countCharge_72 ?_
  refine va_put (D := D) (ci := 1) (v := .long (zL ((A 41) + (max (zMov A xi xt) (-(zMov A xi xt)))))) (ty := .long) (C := RX1) (T := TX1) (N := 18) hx hb hts hiX1 tyX1 tyX1_ok nmX1 hown hK hP hD hS 0 rfl rfl 9 (by decide) (hts (.fieldLink RX1 65 "ChargeEstimator$Battery" "throughput" "J") (List.mem_of_getElem? (i := 6) rfl)) (fun _ h9 => h9) rfl (by decide +kernel) rfl rfl (Nat.le_of_ble_eq_true rfl) dX1_countCharge_73 (fun H locs hP hD hS => ?_)
  have hP : va_P D vwCl (zbat cs q (zU (zU (zU (zU (zU A 34 (zclamp ((A 34) + (zMov A xi xt)) 0 (A 37))) 35 (zLow A xi xt)) 36 (zHigh A xi xt)) 39 (zclamp ((A 39) + (zMov A xi xt)) 0 (zRng A))) 41 ((A 41) + (max (zMov A xi xt) (-(zMov A xi xt)))))) H := zbp_41 hP
  have hD : va_D A0 (zbat cs q (zU (zU (zU (zU (zU A 34 (zclamp ((A 34) + (zMov A xi xt)) 0 (A 37))) 35 (zLow A xi xt)) 36 (zHigh A xi xt)) 39 (zclamp ((A 39) + (zMov A xi xt)) 0 (zRng A))) 41 ((A 41) + (max (zMov A xi xt) (-(zMov A xi xt)))))) := zD_addr hD rfl
  refine lv_aload_n hx hb dX1_countCharge_76 rfl (lv_at hl 1 rfl) ?_
  refine lv_dup hx hb dX1_countCharge_77 rfl ?_
  refine va_get (D := D) (ci := 1) (v := .long (zL (A 40))) (C := RX1) (T := TX1) (N := 18) hx hb hts hiX1 hown hK hP 0 rfl rfl 10 (by decide) (hts (.fieldLink RX1 68 "ChargeEstimator$Battery" "counted" "J") (List.mem_of_getElem? (i := 11) rfl)) (fun _ h9 => h9) rfl dX1_countCharge_78 ?_
  refine lv_lload_n hx hb dX1_countCharge_81 rfl (lv_at hl 0 rfl) ?_
  refine zr_ladd hx hb dX1_countCharge_82 ?_
  refine va_put (D := D) (ci := 1) (v := .long (zL ((A 40) + (zMov A xi xt)))) (ty := .long) (C := RX1) (T := TX1) (N := 18) hx hb hts hiX1 tyX1 tyX1_ok nmX1 hown hK hP hD hS 0 rfl rfl 10 (by decide) (hts (.fieldLink RX1 68 "ChargeEstimator$Battery" "counted" "J") (List.mem_of_getElem? (i := 11) rfl)) (fun _ h9 => h9) rfl (by decide +kernel) rfl rfl (Nat.le_of_ble_eq_true rfl) dX1_countCharge_83 (fun H locs hP hD hS => ?_)
  have hP : va_P D vwCl (zbat cs q (zU (zU (zU (zU (zU (zU A 34 (zclamp ((A 34) + (zMov A xi xt)) 0 (A 37))) 35 (zLow A xi xt)) 36 (zHigh A xi xt)) 39 (zclamp ((A 39) + (zMov A xi xt)) 0 (zRng A))) 41 ((A 41) + (max (zMov A xi xt) (-(zMov A xi xt))))) 40 ((A 40) + (zMov A xi xt)))) H := zbp_40 hP
  have hD : va_D A0 (zbat cs q (zU (zU (zU (zU (zU (zU A 34 (zclamp ((A 34) + (zMov A xi xt)) 0 (A 37))) 35 (zLow A xi xt)) 36 (zHigh A xi xt)) 39 (zclamp ((A 39) + (zMov A xi xt)) 0 (zRng A))) 41 ((A 41) + (max (zMov A xi xt) (-(zMov A xi xt))))) 40 ((A 40) + (zMov A xi xt)))) := zD_addr hD rfl
  refine lv_aload_n hx hb dX1_countCharge_86 rfl (lv_at hl 1 rfl) ?_
  refine lv_dup hx hb dX1_countCharge_87 rfl ?_
  refine va_get (D := D) (ci := 1) (v := .int (zI (A 42))) (C := RX1) (T := TX1) (N := 18) hx hb hts hiX1 hown hK hP 0 rfl rfl 11 (by decide) (hts (.fieldLink RX1 71 "ChargeEstimator$Battery" "time" "I") (List.mem_of_getElem? (i := 12) rfl)) (fun _ h9 => h9) rfl dX1_countCharge_88 ?_
  refine lv_iload_n hx hb dX1_countCharge_91 rfl (lv_at hl 3 rfl) ?_
  refine zr_iadd hx hb dX1_countCharge_92 ?_
  refine va_put (D := D) (ci := 1) (v := .int (zI ((A 42) + xt))) (ty := .int) (C := RX1) (T := TX1) (N := 18) hx hb hts hiX1 tyX1 tyX1_ok nmX1 hown hK hP hD hS 0 rfl rfl 11 (by decide) (hts (.fieldLink RX1 71 "ChargeEstimator$Battery" "time" "I") (List.mem_of_getElem? (i := 12) rfl)) (fun _ h9 => h9) rfl (by decide +kernel) rfl rfl (Nat.le_of_ble_eq_true rfl) dX1_countCharge_93 (fun H locs hP hD hS => ?_)
  have hP : va_P D vwCl (zbat cs q (zU (zU (zU (zU (zU (zU (zU A 34 (zclamp ((A 34) + (zMov A xi xt)) 0 (A 37))) 35 (zLow A xi xt)) 36 (zHigh A xi xt)) 39 (zclamp ((A 39) + (zMov A xi xt)) 0 (zRng A))) 41 ((A 41) + (max (zMov A xi xt) (-(zMov A xi xt))))) 40 ((A 40) + (zMov A xi xt))) 42 ((A 42) + xt))) H := zbp_42 hP
  have hD : va_D A0 (zbat cs q (zU (zU (zU (zU (zU (zU (zU A 34 (zclamp ((A 34) + (zMov A xi xt)) 0 (A 37))) 35 (zLow A xi xt)) 36 (zHigh A xi xt)) 39 (zclamp ((A 39) + (zMov A xi xt)) 0 (zRng A))) 41 ((A 41) + (max (zMov A xi xt) (-(zMov A xi xt))))) 40 ((A 40) + (zMov A xi xt))) 42 ((A 42) + xt))) := zD_addr hD rfl
  have hP9 : va_P D vwCl (zbat cs q (zCnt A xi xt)) H := hP
  have hD9 : va_D A0 (zbat cs q (zCnt A xi xt)) := zD_addr hD rfl
  subst hAe
  exact W.vret hx hb hr (fun t ht hW => ⟨⟨(), rfl, trivial, by rw [ht]; exact hP9, hD9⟩, hS.F ht⟩) hS.2.2 dX1_countCharge_96
set_option maxHeartbeats 4000000 in
set_option maxRecDepth 100000 in
theorem met_X1_restIsReached (l : Launch) (D : va_G) (cs : Nat → ClassId) (q : Nat → Nat) (sz : Nat) (n : Int) (A : Int → Int) (xi xv xt : Int) (hI : zOK n A) (hn : 0 ≤ n ∧ n ≤ 3100000) (kxi : -50000 ≤ xi ∧ xi ≤ 50000) (kxv : 0 ≤ xv ∧ xv ≤ 6000) (kxt : 1 ≤ xt ∧ xt ≤ 600) : Met l yX1_restIsReached wsX1_restIsReached ({ frames := 1, cells := 0, slots := 0, locals := 13 }) (va_Pc [.ref (q 0), .int (zI xi), .int (zI xv), .int (zI xt)] (zPreZ D (zTy cs) (zbat cs q A) sz)) (zQi D (zbat cs q A) sz (zI (zB (A 43 < A 6 ∧ A 6 ≤ zRst A xi xv xt 43))) (zbat cs q (zRst A xi xv xt))) 0 0 (va_A (zbat cs q A) sz) := by
  refine Met.ofW (cc := cX1_restIsReached) (maxL := 6) (ret := (some .boolean)) (by decide) rfl ?_
  intro p e s m args below meth c s₁ B hml hv
  obtain ⟨rfl, hsz, hP, hK, hD0, hN⟩ := hv
  have hx := B.exec
  have hb := B.bytes
  have hr := B.returns
  have hts := atoms_spec (ws := wsX1_restIsReached) B.pre
  have hown : s.vm.findClass RX1 = some m.cls := findClass_of_methodNamed B.named
  have hlocks := B.notSynchronized
  subst hsz
  obtain ⟨A0, hAe⟩ : ∃ A0, A0 = va_A (zbat cs q A) s.heap.size := ⟨_, rfl⟩
  have hD := hD0.self (sz := s.heap.size)
  rw [← hAe] at hD
  have hA : ∀ q : Nat, s.heap.size ≤ q → A0 q := fun q h => by rw [hAe]; exact Or.inr h
  have hS : va_S A0 s.heap s.heap [] := va_S.rf
  have hP : va_P D vwCl (zbat cs q A) s.heap := hP
  have hl := lv_entry ([.ref (q 0), .int (zI xi), .int (zI xv), .int (zI xt)]) (n := 6) (Nat.le_of_ble_eq_true rfl)
  rw [lg_entry_eq]
  generalize (lg_sl ([.ref (q 0), .int (zI xi), .int (zI xv), .int (zI xt)]) ++ List.replicate (6 - (lg_sl ([.ref (q 0), .int (zI xi), .int (zI xv), .int (zI xt)])).length) Slot.unset).toArray = ls at hl ⊢
  have hl : lv_has ls 6 [(0, .ref (q 0)), (1, .int (zI xi)), (2, .int (zI xv)), (3, .int (zI xt))] := hl
  have hiX1 : ∀ w ∈ wsX10, w ∈ wsX1_restIsReached := by decide +kernel
  obtain ⟨s0, s1, s2, s3, s4, s5, s6, s7, s8, s9, s10, s11⟩ := zOK_s hI
  obtain ⟨qN, qC, qQ, qL, qH, q40, q41, q42, q43, q44, q45, q46, q47, q48, q49, q50, q51, q52, qhad, qlast, qrow⟩ := zOK_q hI
  have hz : (A 45 = 1 ∧ zlv A = A 46) ∨ (A 45 ≠ 1 ∧ zlv A = -1) := by unfold zlv; split <;> omega
  have er_t : zRests A xi xv → zRst A xi xv xt 43 = A 43 + xt := fun h => by rw [zRst_t h]; rfl
  have er_f : ¬ zRests A xi xv → zRst A xi xv xt 43 = 0 := fun h => by rw [zRst_f h]; rfl
  refine lv_iload_n hx hb dX1_restIsReached_0 rfl (lv_at hl 1 rfl) ?_
  refine zm_absI hx hb (hml.trans hl.1.symm) hown (hts (.methodLink RX1 196 Lib.Math.abs.name) (List.mem_of_getElem? (i := 1) rfl)) (hts (.static Lib.Math.abs.name) (List.mem_of_getElem? (i := 2) rfl)) (hts (.initialized "java/lang/Math") (List.mem_of_getElem? (i := 3) rfl)) (hts (.code Lib.Math.abs.name Lib.Math.abs.code 1 (some .int)) (List.mem_of_getElem? (i := 4) rfl)) (Nat.le_of_ble_eq_true rfl) (Nat.le_of_ble_eq_true rfl) (Nat.le_of_ble_eq_true rfl) (Nat.le_of_ble_eq_true rfl) dX1_restIsReached_1 (by omega) ?_
  refine lv_aload_n hx hb dX1_restIsReached_4 rfl (lv_at hl 0 rfl) ?_
  refine va_get (D := D) (ci := 1) (v := .ref (q 1)) (C := RX1) (T := TX1) (N := 18) hx hb hts hiX1 hown hK hP 0 rfl rfl 0 (by decide) (hts (.fieldLink RX1 9 "ChargeEstimator$Battery" "settings" "[I") (List.mem_of_getElem? (i := 5) rfl)) (fun _ h9 => h9) rfl dX1_restIsReached_5 ?_
  refine zr_iconst hx hb dX1_restIsReached_8 ?_
  refine zr_iald (D := D) (g := A) hx hb hK hP 1 0 rfl rfl (by decide) (by decide) dX1_restIsReached_9 ?_
  refine zr_icmp_gt (tgt := 43) hx hb dX1_restIsReached_10 (by decide) (by omega) (by omega) (fun c1 => ?_) (fun c1 => ?_)
  · refine zr_iconst hx hb dX1_restIsReached_43 ?_
    refine lv_istore (lv' := [(4, .int (zI 0)), (0, .ref (q 0)), (1, .int (zI xi)), (2, .int (zI xv)), (3, .int (zI xt))]) hx hb dX1_restIsReached_44 hl (by decide) rfl (fun ls hl => ?_)
    refine lv_aload_n hx hb dX1_restIsReached_46 rfl (lv_at hl 1 rfl) ?_
    refine va_get (D := D) (ci := 1) (v := .int (zI (A 43))) (C := RX1) (T := TX1) (N := 18) hx hb hts hiX1 hown hK hP 0 rfl rfl 12 (by decide) (hts (.fieldLink RX1 75 "ChargeEstimator$Battery" "restCounter" "I") (List.mem_of_getElem? (i := 7) rfl)) (fun _ h9 => h9) rfl dX1_restIsReached_47 ?_
    refine lv_istore (lv' := [(5, .int (zI (A 43))), (4, .int (zI 0)), (0, .ref (q 0)), (1, .int (zI xi)), (2, .int (zI xv)), (3, .int (zI xt))]) hx hb dX1_restIsReached_50 hl (by decide) rfl (fun ls hl => ?_)
    refine lv_aload_n hx hb dX1_restIsReached_52 rfl (lv_at hl 2 rfl) ?_
    refine lv_iload hx hb dX1_restIsReached_53 (lv_at hl 1 rfl) ?_
    refine zr_if_eq (tgt := 65) hx hb dX1_restIsReached_55 (by decide) (by decide) (fun c2 => ?_) (fun c2 => ?_)
    · refine zr_iconst hx hb dX1_restIsReached_65 ?_
      refine va_put (D := D) (ci := 1) (v := .int (zI 0)) (ty := .int) (C := RX1) (T := TX1) (N := 18) hx hb hts hiX1 tyX1 tyX1_ok nmX1 hown hK hP hD hS 0 rfl rfl 12 (by decide) (hts (.fieldLink RX1 75 "ChargeEstimator$Battery" "restCounter" "I") (List.mem_of_getElem? (i := 7) rfl)) (fun _ h9 => h9) rfl (by decide +kernel) rfl rfl (Nat.le_of_ble_eq_true rfl) dX1_restIsReached_66 (fun H locs hP hD hS => ?_)
      have hP : va_P D vwCl (zbat cs q (zU A 43 0)) H := zbp_43 hP
      have hD : va_D A0 (zbat cs q (zU A 43 0)) := zD_addr hD rfl
      refine lv_aload_n hx hb dX1_restIsReached_69 rfl (lv_at hl 2 rfl) ?_
      refine va_get (D := D) (ci := 1) (v := .int (zI 0)) (C := RX1) (T := TX1) (N := 18) hx hb hts hiX1 hown hK hP 0 rfl rfl 12 (by decide) (hts (.fieldLink RX1 75 "ChargeEstimator$Battery" "restCounter" "I") (List.mem_of_getElem? (i := 7) rfl)) (fun _ h9 => h9) rfl dX1_restIsReached_70 ?_
      refine lv_aload_n hx hb dX1_restIsReached_73 rfl (lv_at hl 2 rfl) ?_
      refine va_get (D := D) (ci := 1) (v := .ref (q 1)) (C := RX1) (T := TX1) (N := 18) hx hb hts hiX1 hown hK hP 0 rfl rfl 0 (by decide) (hts (.fieldLink RX1 9 "ChargeEstimator$Battery" "settings" "[I") (List.mem_of_getElem? (i := 5) rfl)) (fun _ h9 => h9) rfl dX1_restIsReached_74 ?_
      refine zr_bipush hx hb dX1_restIsReached_77 (by decide) ?_
      refine zr_iald (D := D) (g := (zU A 43 0)) hx hb hK hP 1 0 rfl rfl (by decide) (by decide) dX1_restIsReached_79 ?_
      rw [show (zU A 43 0) 6 = A 6 from by first | rfl | simp [zO, zU]]
      refine zr_icmp_lt (tgt := 99) hx hb dX1_restIsReached_80 (by decide) (by decide) (by omega) (fun c3 => ?_) (fun c3 => ?_)
      · refine zr_iconst hx hb dX1_restIsReached_99 ?_
        have hP8 : va_P D vwCl (zbat cs q (zRst A xi xv xt)) H := by first | (rw [zRst_t (by unfold zRests; omega)]; exact hP) | (rw [zRst_f (by unfold zRests; omega)]; exact hP)
        have hP9 : va_P D vwCl (zbat cs q (zRst A xi xv xt)) H := hP8
        have hD9 : va_D A0 (zbat cs q (zRst A xi xv xt)) := zD_addr hD rfl
        subst hAe
        exact W.zret hx hb hr (zbool_n (by decide)) (fun t ht hW => ⟨⟨_, (), rfl, (congrArg zI (show 0 = zB (A 43 < A 6 ∧ A 6 ≤ zRst A xi xv xt 43) from by first | (have er := er_t (by unfold zRests; omega); first | exact (zB_t (by omega)).symm | exact (zB_f (by omega)).symm) | (have er := er_f (by unfold zRests; omega); first | exact (zB_t (by omega)).symm | exact (zB_f (by omega)).symm))), by rw [ht]; exact hP9, hD9⟩, hS.F ht⟩) hS.2.2 dX1_restIsReached_100
      · refine lv_iload hx hb dX1_restIsReached_83 (lv_at hl 0 rfl) ?_
        refine lv_aload_n hx hb dX1_restIsReached_85 rfl (lv_at hl 2 rfl) ?_
        refine va_get (D := D) (ci := 1) (v := .ref (q 1)) (C := RX1) (T := TX1) (N := 18) hx hb hts hiX1 hown hK hP 0 rfl rfl 0 (by decide) (hts (.fieldLink RX1 9 "ChargeEstimator$Battery" "settings" "[I") (List.mem_of_getElem? (i := 5) rfl)) (fun _ h9 => h9) rfl dX1_restIsReached_86 ?_
        refine zr_bipush hx hb dX1_restIsReached_89 (by decide) ?_
        refine zr_iald (D := D) (g := (zU A 43 0)) hx hb hK hP 1 0 rfl rfl (by decide) (by decide) dX1_restIsReached_91 ?_
        rw [show (zU A 43 0) 6 = A 6 from by first | rfl | simp [zO, zU]]
        refine zr_icmp_ge (tgt := 99) hx hb dX1_restIsReached_92 (by decide) (by omega) (by omega) (fun c4 => ?_) (fun c4 => ?_)
        · refine zr_iconst hx hb dX1_restIsReached_99 ?_
          have hP8 : va_P D vwCl (zbat cs q (zRst A xi xv xt)) H := by first | (rw [zRst_t (by unfold zRests; omega)]; exact hP) | (rw [zRst_f (by unfold zRests; omega)]; exact hP)
          have hP9 : va_P D vwCl (zbat cs q (zRst A xi xv xt)) H := hP8
          have hD9 : va_D A0 (zbat cs q (zRst A xi xv xt)) := zD_addr hD rfl
          subst hAe
          exact W.zret hx hb hr (zbool_n (by decide)) (fun t ht hW => ⟨⟨_, (), rfl, (congrArg zI (show 0 = zB (A 43 < A 6 ∧ A 6 ≤ zRst A xi xv xt 43) from by first | (have er := er_t (by unfold zRests; omega); first | exact (zB_t (by omega)).symm | exact (zB_f (by omega)).symm) | (have er := er_f (by unfold zRests; omega); first | exact (zB_t (by omega)).symm | exact (zB_f (by omega)).symm))), by rw [ht]; exact hP9, hD9⟩, hS.F ht⟩) hS.2.2 dX1_restIsReached_100
        · refine zr_iconst hx hb dX1_restIsReached_95 ?_
          refine lv_goto (tgt := 100) hx hb dX1_restIsReached_96 (by decide) ?_
          have hP8 : va_P D vwCl (zbat cs q (zRst A xi xv xt)) H := by first | (rw [zRst_t (by unfold zRests; omega)]; exact hP) | (rw [zRst_f (by unfold zRests; omega)]; exact hP)
          have hP9 : va_P D vwCl (zbat cs q (zRst A xi xv xt)) H := hP8
          have hD9 : va_D A0 (zbat cs q (zRst A xi xv xt)) := zD_addr hD rfl
          subst hAe
          exact W.zret hx hb hr (zbool_n (by decide)) (fun t ht hW => ⟨⟨_, (), rfl, (congrArg zI (show 1 = zB (A 43 < A 6 ∧ A 6 ≤ zRst A xi xv xt 43) from by first | (have er := er_t (by unfold zRests; omega); first | exact (zB_t (by omega)).symm | exact (zB_f (by omega)).symm) | (have er := er_f (by unfold zRests; omega); first | exact (zB_t (by omega)).symm | exact (zB_f (by omega)).symm))), by rw [ht]; exact hP9, hD9⟩, hS.F ht⟩) hS.2.2 dX1_restIsReached_100
    · exact absurd c2 (by decide)
  · refine lv_aload_n hx hb dX1_restIsReached_13 rfl (lv_at hl 0 rfl) ?_
    refine va_get (D := D) (ci := 1) (v := .int (zI (zlv A))) (C := RX1) (T := TX1) (N := 18) hx hb hts hiX1 hown hK hP 0 rfl rfl 16 (by decide) (hts (.fieldLink RX1 87 "ChargeEstimator$Battery" "lastVoltage" "I") (List.mem_of_getElem? (i := 6) rfl)) (fun _ h9 => h9) rfl dX1_restIsReached_14 ?_
    refine zr_iconst hx hb dX1_restIsReached_17 ?_
    refine zr_icmp_eq (tgt := 43) hx hb dX1_restIsReached_18 (by decide) (by omega) (by decide) (fun c5 => ?_) (fun c5 => ?_)
    · refine zr_iconst hx hb dX1_restIsReached_43 ?_
      refine lv_istore (lv' := [(4, .int (zI 0)), (0, .ref (q 0)), (1, .int (zI xi)), (2, .int (zI xv)), (3, .int (zI xt))]) hx hb dX1_restIsReached_44 hl (by decide) rfl (fun ls hl => ?_)
      refine lv_aload_n hx hb dX1_restIsReached_46 rfl (lv_at hl 1 rfl) ?_
      refine va_get (D := D) (ci := 1) (v := .int (zI (A 43))) (C := RX1) (T := TX1) (N := 18) hx hb hts hiX1 hown hK hP 0 rfl rfl 12 (by decide) (hts (.fieldLink RX1 75 "ChargeEstimator$Battery" "restCounter" "I") (List.mem_of_getElem? (i := 7) rfl)) (fun _ h9 => h9) rfl dX1_restIsReached_47 ?_
      refine lv_istore (lv' := [(5, .int (zI (A 43))), (4, .int (zI 0)), (0, .ref (q 0)), (1, .int (zI xi)), (2, .int (zI xv)), (3, .int (zI xt))]) hx hb dX1_restIsReached_50 hl (by decide) rfl (fun ls hl => ?_)
      refine lv_aload_n hx hb dX1_restIsReached_52 rfl (lv_at hl 2 rfl) ?_
      refine lv_iload hx hb dX1_restIsReached_53 (lv_at hl 1 rfl) ?_
      refine zr_if_eq (tgt := 65) hx hb dX1_restIsReached_55 (by decide) (by decide) (fun c6 => ?_) (fun c6 => ?_)
      · refine zr_iconst hx hb dX1_restIsReached_65 ?_
        refine va_put (D := D) (ci := 1) (v := .int (zI 0)) (ty := .int) (C := RX1) (T := TX1) (N := 18) hx hb hts hiX1 tyX1 tyX1_ok nmX1 hown hK hP hD hS 0 rfl rfl 12 (by decide) (hts (.fieldLink RX1 75 "ChargeEstimator$Battery" "restCounter" "I") (List.mem_of_getElem? (i := 7) rfl)) (fun _ h9 => h9) rfl (by decide +kernel) rfl rfl (Nat.le_of_ble_eq_true rfl) dX1_restIsReached_66 (fun H locs hP hD hS => ?_)
        have hP : va_P D vwCl (zbat cs q (zU A 43 0)) H := zbp_43 hP
        have hD : va_D A0 (zbat cs q (zU A 43 0)) := zD_addr hD rfl
        refine lv_aload_n hx hb dX1_restIsReached_69 rfl (lv_at hl 2 rfl) ?_
        refine va_get (D := D) (ci := 1) (v := .int (zI 0)) (C := RX1) (T := TX1) (N := 18) hx hb hts hiX1 hown hK hP 0 rfl rfl 12 (by decide) (hts (.fieldLink RX1 75 "ChargeEstimator$Battery" "restCounter" "I") (List.mem_of_getElem? (i := 7) rfl)) (fun _ h9 => h9) rfl dX1_restIsReached_70 ?_
        refine lv_aload_n hx hb dX1_restIsReached_73 rfl (lv_at hl 2 rfl) ?_
        refine va_get (D := D) (ci := 1) (v := .ref (q 1)) (C := RX1) (T := TX1) (N := 18) hx hb hts hiX1 hown hK hP 0 rfl rfl 0 (by decide) (hts (.fieldLink RX1 9 "ChargeEstimator$Battery" "settings" "[I") (List.mem_of_getElem? (i := 5) rfl)) (fun _ h9 => h9) rfl dX1_restIsReached_74 ?_
        refine zr_bipush hx hb dX1_restIsReached_77 (by decide) ?_
        refine zr_iald (D := D) (g := (zU A 43 0)) hx hb hK hP 1 0 rfl rfl (by decide) (by decide) dX1_restIsReached_79 ?_
        rw [show (zU A 43 0) 6 = A 6 from by first | rfl | simp [zO, zU]]
        refine zr_icmp_lt (tgt := 99) hx hb dX1_restIsReached_80 (by decide) (by decide) (by omega) (fun c7 => ?_) (fun c7 => ?_)
        · refine zr_iconst hx hb dX1_restIsReached_99 ?_
          have hP8 : va_P D vwCl (zbat cs q (zRst A xi xv xt)) H := by first | (rw [zRst_t (by unfold zRests; omega)]; exact hP) | (rw [zRst_f (by unfold zRests; omega)]; exact hP)
          have hP9 : va_P D vwCl (zbat cs q (zRst A xi xv xt)) H := hP8
          have hD9 : va_D A0 (zbat cs q (zRst A xi xv xt)) := zD_addr hD rfl
          subst hAe
          exact W.zret hx hb hr (zbool_n (by decide)) (fun t ht hW => ⟨⟨_, (), rfl, (congrArg zI (show 0 = zB (A 43 < A 6 ∧ A 6 ≤ zRst A xi xv xt 43) from by first | (have er := er_t (by unfold zRests; omega); first | exact (zB_t (by omega)).symm | exact (zB_f (by omega)).symm) | (have er := er_f (by unfold zRests; omega); first | exact (zB_t (by omega)).symm | exact (zB_f (by omega)).symm))), by rw [ht]; exact hP9, hD9⟩, hS.F ht⟩) hS.2.2 dX1_restIsReached_100
        · refine lv_iload hx hb dX1_restIsReached_83 (lv_at hl 0 rfl) ?_
          refine lv_aload_n hx hb dX1_restIsReached_85 rfl (lv_at hl 2 rfl) ?_
          refine va_get (D := D) (ci := 1) (v := .ref (q 1)) (C := RX1) (T := TX1) (N := 18) hx hb hts hiX1 hown hK hP 0 rfl rfl 0 (by decide) (hts (.fieldLink RX1 9 "ChargeEstimator$Battery" "settings" "[I") (List.mem_of_getElem? (i := 5) rfl)) (fun _ h9 => h9) rfl dX1_restIsReached_86 ?_
          refine zr_bipush hx hb dX1_restIsReached_89 (by decide) ?_
          refine zr_iald (D := D) (g := (zU A 43 0)) hx hb hK hP 1 0 rfl rfl (by decide) (by decide) dX1_restIsReached_91 ?_
          rw [show (zU A 43 0) 6 = A 6 from by first | rfl | simp [zO, zU]]
          refine zr_icmp_ge (tgt := 99) hx hb dX1_restIsReached_92 (by decide) (by omega) (by omega) (fun c8 => ?_) (fun c8 => ?_)
          · refine zr_iconst hx hb dX1_restIsReached_99 ?_
            have hP8 : va_P D vwCl (zbat cs q (zRst A xi xv xt)) H := by first | (rw [zRst_t (by unfold zRests; omega)]; exact hP) | (rw [zRst_f (by unfold zRests; omega)]; exact hP)
            have hP9 : va_P D vwCl (zbat cs q (zRst A xi xv xt)) H := hP8
            have hD9 : va_D A0 (zbat cs q (zRst A xi xv xt)) := zD_addr hD rfl
            subst hAe
            exact W.zret hx hb hr (zbool_n (by decide)) (fun t ht hW => ⟨⟨_, (), rfl, (congrArg zI (show 0 = zB (A 43 < A 6 ∧ A 6 ≤ zRst A xi xv xt 43) from by first | (have er := er_t (by unfold zRests; omega); first | exact (zB_t (by omega)).symm | exact (zB_f (by omega)).symm) | (have er := er_f (by unfold zRests; omega); first | exact (zB_t (by omega)).symm | exact (zB_f (by omega)).symm))), by rw [ht]; exact hP9, hD9⟩, hS.F ht⟩) hS.2.2 dX1_restIsReached_100
          · refine zr_iconst hx hb dX1_restIsReached_95 ?_
            refine lv_goto (tgt := 100) hx hb dX1_restIsReached_96 (by decide) ?_
            have hP8 : va_P D vwCl (zbat cs q (zRst A xi xv xt)) H := by first | (rw [zRst_t (by unfold zRests; omega)]; exact hP) | (rw [zRst_f (by unfold zRests; omega)]; exact hP)
            have hP9 : va_P D vwCl (zbat cs q (zRst A xi xv xt)) H := hP8
            have hD9 : va_D A0 (zbat cs q (zRst A xi xv xt)) := zD_addr hD rfl
            subst hAe
            exact W.zret hx hb hr (zbool_n (by decide)) (fun t ht hW => ⟨⟨_, (), rfl, (congrArg zI (show 1 = zB (A 43 < A 6 ∧ A 6 ≤ zRst A xi xv xt 43) from by first | (have er := er_t (by unfold zRests; omega); first | exact (zB_t (by omega)).symm | exact (zB_f (by omega)).symm) | (have er := er_f (by unfold zRests; omega); first | exact (zB_t (by omega)).symm | exact (zB_f (by omega)).symm))), by rw [ht]; exact hP9, hD9⟩, hS.F ht⟩) hS.2.2 dX1_restIsReached_100
      · exact absurd c6 (by decide)
    · refine lv_iload_n hx hb dX1_restIsReached_21 rfl (lv_at hl 2 rfl) ?_
      refine lv_aload_n hx hb dX1_restIsReached_22 rfl (lv_at hl 0 rfl) ?_
      refine va_get (D := D) (ci := 1) (v := .int (zI (zlv A))) (C := RX1) (T := TX1) (N := 18) hx hb hts hiX1 hown hK hP 0 rfl rfl 16 (by decide) (hts (.fieldLink RX1 87 "ChargeEstimator$Battery" "lastVoltage" "I") (List.mem_of_getElem? (i := 6) rfl)) (fun _ h9 => h9) rfl dX1_restIsReached_23 ?_
      refine zr_isub hx hb dX1_restIsReached_26 ?_
      refine zm_absI hx hb (hml.trans hl.1.symm) hown (hts (.methodLink RX1 196 Lib.Math.abs.name) (List.mem_of_getElem? (i := 1) rfl)) (hts (.static Lib.Math.abs.name) (List.mem_of_getElem? (i := 2) rfl)) (hts (.initialized "java/lang/Math") (List.mem_of_getElem? (i := 3) rfl)) (hts (.code Lib.Math.abs.name Lib.Math.abs.code 1 (some .int)) (List.mem_of_getElem? (i := 4) rfl)) (Nat.le_of_ble_eq_true rfl) (Nat.le_of_ble_eq_true rfl) (Nat.le_of_ble_eq_true rfl) (Nat.le_of_ble_eq_true rfl) dX1_restIsReached_27 (by omega) ?_
      refine lv_aload_n hx hb dX1_restIsReached_30 rfl (lv_at hl 0 rfl) ?_
      refine va_get (D := D) (ci := 1) (v := .ref (q 1)) (C := RX1) (T := TX1) (N := 18) hx hb hts hiX1 hown hK hP 0 rfl rfl 0 (by decide) (hts (.fieldLink RX1 9 "ChargeEstimator$Battery" "settings" "[I") (List.mem_of_getElem? (i := 5) rfl)) (fun _ h9 => h9) rfl dX1_restIsReached_31 ?_
      refine zr_iconst hx hb dX1_restIsReached_34 ?_
      refine zr_iald (D := D) (g := A) hx hb hK hP 1 0 rfl rfl (by decide) (by decide) dX1_restIsReached_35 ?_
      refine zr_icmp_gt (tgt := 43) hx hb dX1_restIsReached_36 (by decide) (by omega) (by omega) (fun c9 => ?_) (fun c9 => ?_)
      · refine zr_iconst hx hb dX1_restIsReached_43 ?_
        refine lv_istore (lv' := [(4, .int (zI 0)), (0, .ref (q 0)), (1, .int (zI xi)), (2, .int (zI xv)), (3, .int (zI xt))]) hx hb dX1_restIsReached_44 hl (by decide) rfl (fun ls hl => ?_)
        refine lv_aload_n hx hb dX1_restIsReached_46 rfl (lv_at hl 1 rfl) ?_
        refine va_get (D := D) (ci := 1) (v := .int (zI (A 43))) (C := RX1) (T := TX1) (N := 18) hx hb hts hiX1 hown hK hP 0 rfl rfl 12 (by decide) (hts (.fieldLink RX1 75 "ChargeEstimator$Battery" "restCounter" "I") (List.mem_of_getElem? (i := 7) rfl)) (fun _ h9 => h9) rfl dX1_restIsReached_47 ?_
        refine lv_istore (lv' := [(5, .int (zI (A 43))), (4, .int (zI 0)), (0, .ref (q 0)), (1, .int (zI xi)), (2, .int (zI xv)), (3, .int (zI xt))]) hx hb dX1_restIsReached_50 hl (by decide) rfl (fun ls hl => ?_)
        refine lv_aload_n hx hb dX1_restIsReached_52 rfl (lv_at hl 2 rfl) ?_
        refine lv_iload hx hb dX1_restIsReached_53 (lv_at hl 1 rfl) ?_
        refine zr_if_eq (tgt := 65) hx hb dX1_restIsReached_55 (by decide) (by decide) (fun c10 => ?_) (fun c10 => ?_)
        · refine zr_iconst hx hb dX1_restIsReached_65 ?_
          refine va_put (D := D) (ci := 1) (v := .int (zI 0)) (ty := .int) (C := RX1) (T := TX1) (N := 18) hx hb hts hiX1 tyX1 tyX1_ok nmX1 hown hK hP hD hS 0 rfl rfl 12 (by decide) (hts (.fieldLink RX1 75 "ChargeEstimator$Battery" "restCounter" "I") (List.mem_of_getElem? (i := 7) rfl)) (fun _ h9 => h9) rfl (by decide +kernel) rfl rfl (Nat.le_of_ble_eq_true rfl) dX1_restIsReached_66 (fun H locs hP hD hS => ?_)
          have hP : va_P D vwCl (zbat cs q (zU A 43 0)) H := zbp_43 hP
          have hD : va_D A0 (zbat cs q (zU A 43 0)) := zD_addr hD rfl
          refine lv_aload_n hx hb dX1_restIsReached_69 rfl (lv_at hl 2 rfl) ?_
          refine va_get (D := D) (ci := 1) (v := .int (zI 0)) (C := RX1) (T := TX1) (N := 18) hx hb hts hiX1 hown hK hP 0 rfl rfl 12 (by decide) (hts (.fieldLink RX1 75 "ChargeEstimator$Battery" "restCounter" "I") (List.mem_of_getElem? (i := 7) rfl)) (fun _ h9 => h9) rfl dX1_restIsReached_70 ?_
          refine lv_aload_n hx hb dX1_restIsReached_73 rfl (lv_at hl 2 rfl) ?_
          refine va_get (D := D) (ci := 1) (v := .ref (q 1)) (C := RX1) (T := TX1) (N := 18) hx hb hts hiX1 hown hK hP 0 rfl rfl 0 (by decide) (hts (.fieldLink RX1 9 "ChargeEstimator$Battery" "settings" "[I") (List.mem_of_getElem? (i := 5) rfl)) (fun _ h9 => h9) rfl dX1_restIsReached_74 ?_
          refine zr_bipush hx hb dX1_restIsReached_77 (by decide) ?_
          refine zr_iald (D := D) (g := (zU A 43 0)) hx hb hK hP 1 0 rfl rfl (by decide) (by decide) dX1_restIsReached_79 ?_
          rw [show (zU A 43 0) 6 = A 6 from by first | rfl | simp [zO, zU]]
          refine zr_icmp_lt (tgt := 99) hx hb dX1_restIsReached_80 (by decide) (by decide) (by omega) (fun c11 => ?_) (fun c11 => ?_)
          · refine zr_iconst hx hb dX1_restIsReached_99 ?_
            have hP8 : va_P D vwCl (zbat cs q (zRst A xi xv xt)) H := by first | (rw [zRst_t (by unfold zRests; omega)]; exact hP) | (rw [zRst_f (by unfold zRests; omega)]; exact hP)
            have hP9 : va_P D vwCl (zbat cs q (zRst A xi xv xt)) H := hP8
            have hD9 : va_D A0 (zbat cs q (zRst A xi xv xt)) := zD_addr hD rfl
            subst hAe
            exact W.zret hx hb hr (zbool_n (by decide)) (fun t ht hW => ⟨⟨_, (), rfl, (congrArg zI (show 0 = zB (A 43 < A 6 ∧ A 6 ≤ zRst A xi xv xt 43) from by first | (have er := er_t (by unfold zRests; omega); first | exact (zB_t (by omega)).symm | exact (zB_f (by omega)).symm) | (have er := er_f (by unfold zRests; omega); first | exact (zB_t (by omega)).symm | exact (zB_f (by omega)).symm))), by rw [ht]; exact hP9, hD9⟩, hS.F ht⟩) hS.2.2 dX1_restIsReached_100
          · refine lv_iload hx hb dX1_restIsReached_83 (lv_at hl 0 rfl) ?_
            refine lv_aload_n hx hb dX1_restIsReached_85 rfl (lv_at hl 2 rfl) ?_
            refine va_get (D := D) (ci := 1) (v := .ref (q 1)) (C := RX1) (T := TX1) (N := 18) hx hb hts hiX1 hown hK hP 0 rfl rfl 0 (by decide) (hts (.fieldLink RX1 9 "ChargeEstimator$Battery" "settings" "[I") (List.mem_of_getElem? (i := 5) rfl)) (fun _ h9 => h9) rfl dX1_restIsReached_86 ?_
            refine zr_bipush hx hb dX1_restIsReached_89 (by decide) ?_
            refine zr_iald (D := D) (g := (zU A 43 0)) hx hb hK hP 1 0 rfl rfl (by decide) (by decide) dX1_restIsReached_91 ?_
            rw [show (zU A 43 0) 6 = A 6 from by first | rfl | simp [zO, zU]]
            refine zr_icmp_ge (tgt := 99) hx hb dX1_restIsReached_92 (by decide) (by omega) (by omega) (fun c12 => ?_) (fun c12 => ?_)
            · refine zr_iconst hx hb dX1_restIsReached_99 ?_
              have hP8 : va_P D vwCl (zbat cs q (zRst A xi xv xt)) H := by first | (rw [zRst_t (by unfold zRests; omega)]; exact hP) | (rw [zRst_f (by unfold zRests; omega)]; exact hP)
              have hP9 : va_P D vwCl (zbat cs q (zRst A xi xv xt)) H := hP8
              have hD9 : va_D A0 (zbat cs q (zRst A xi xv xt)) := zD_addr hD rfl
              subst hAe
              exact W.zret hx hb hr (zbool_n (by decide)) (fun t ht hW => ⟨⟨_, (), rfl, (congrArg zI (show 0 = zB (A 43 < A 6 ∧ A 6 ≤ zRst A xi xv xt 43) from by first | (have er := er_t (by unfold zRests; omega); first | exact (zB_t (by omega)).symm | exact (zB_f (by omega)).symm) | (have er := er_f (by unfold zRests; omega); first | exact (zB_t (by omega)).symm | exact (zB_f (by omega)).symm))), by rw [ht]; exact hP9, hD9⟩, hS.F ht⟩) hS.2.2 dX1_restIsReached_100
            · refine zr_iconst hx hb dX1_restIsReached_95 ?_
              refine lv_goto (tgt := 100) hx hb dX1_restIsReached_96 (by decide) ?_
              have hP8 : va_P D vwCl (zbat cs q (zRst A xi xv xt)) H := by first | (rw [zRst_t (by unfold zRests; omega)]; exact hP) | (rw [zRst_f (by unfold zRests; omega)]; exact hP)
              have hP9 : va_P D vwCl (zbat cs q (zRst A xi xv xt)) H := hP8
              have hD9 : va_D A0 (zbat cs q (zRst A xi xv xt)) := zD_addr hD rfl
              subst hAe
              exact W.zret hx hb hr (zbool_n (by decide)) (fun t ht hW => ⟨⟨_, (), rfl, (congrArg zI (show 1 = zB (A 43 < A 6 ∧ A 6 ≤ zRst A xi xv xt 43) from by first | (have er := er_t (by unfold zRests; omega); first | exact (zB_t (by omega)).symm | exact (zB_f (by omega)).symm) | (have er := er_f (by unfold zRests; omega); first | exact (zB_t (by omega)).symm | exact (zB_f (by omega)).symm))), by rw [ht]; exact hP9, hD9⟩, hS.F ht⟩) hS.2.2 dX1_restIsReached_100
        · exact absurd c10 (by decide)
      · refine zr_iconst hx hb dX1_restIsReached_39 ?_
        refine lv_goto (tgt := 44) hx hb dX1_restIsReached_40 (by decide) ?_
        refine lv_istore (lv' := [(4, .int (zI 1)), (0, .ref (q 0)), (1, .int (zI xi)), (2, .int (zI xv)), (3, .int (zI xt))]) hx hb dX1_restIsReached_44 hl (by decide) rfl (fun ls hl => ?_)
        refine lv_aload_n hx hb dX1_restIsReached_46 rfl (lv_at hl 1 rfl) ?_
        refine va_get (D := D) (ci := 1) (v := .int (zI (A 43))) (C := RX1) (T := TX1) (N := 18) hx hb hts hiX1 hown hK hP 0 rfl rfl 12 (by decide) (hts (.fieldLink RX1 75 "ChargeEstimator$Battery" "restCounter" "I") (List.mem_of_getElem? (i := 7) rfl)) (fun _ h9 => h9) rfl dX1_restIsReached_47 ?_
        refine lv_istore (lv' := [(5, .int (zI (A 43))), (4, .int (zI 1)), (0, .ref (q 0)), (1, .int (zI xi)), (2, .int (zI xv)), (3, .int (zI xt))]) hx hb dX1_restIsReached_50 hl (by decide) rfl (fun ls hl => ?_)
        refine lv_aload_n hx hb dX1_restIsReached_52 rfl (lv_at hl 2 rfl) ?_
        refine lv_iload hx hb dX1_restIsReached_53 (lv_at hl 1 rfl) ?_
        refine zr_if_eq (tgt := 65) hx hb dX1_restIsReached_55 (by decide) (by decide) (fun c13 => ?_) (fun c13 => ?_)
        · exact absurd c13 (by decide)
        · refine lv_iload hx hb dX1_restIsReached_58 (lv_at hl 0 rfl) ?_
          refine lv_iload_n hx hb dX1_restIsReached_60 rfl (lv_at hl 5 rfl) ?_
          refine zr_iadd hx hb dX1_restIsReached_61 ?_
          refine lv_goto (tgt := 66) hx hb dX1_restIsReached_62 (by decide) ?_
          refine va_put (D := D) (ci := 1) (v := .int (zI ((A 43) + xt))) (ty := .int) (C := RX1) (T := TX1) (N := 18) hx hb hts hiX1 tyX1 tyX1_ok nmX1 hown hK hP hD hS 0 rfl rfl 12 (by decide) (hts (.fieldLink RX1 75 "ChargeEstimator$Battery" "restCounter" "I") (List.mem_of_getElem? (i := 7) rfl)) (fun _ h9 => h9) rfl (by decide +kernel) rfl rfl (Nat.le_of_ble_eq_true rfl) dX1_restIsReached_66 (fun H locs hP hD hS => ?_)
          have hP : va_P D vwCl (zbat cs q (zU A 43 ((A 43) + xt))) H := zbp_43 hP
          have hD : va_D A0 (zbat cs q (zU A 43 ((A 43) + xt))) := zD_addr hD rfl
          refine lv_aload_n hx hb dX1_restIsReached_69 rfl (lv_at hl 2 rfl) ?_
          refine va_get (D := D) (ci := 1) (v := .int (zI ((A 43) + xt))) (C := RX1) (T := TX1) (N := 18) hx hb hts hiX1 hown hK hP 0 rfl rfl 12 (by decide) (hts (.fieldLink RX1 75 "ChargeEstimator$Battery" "restCounter" "I") (List.mem_of_getElem? (i := 7) rfl)) (fun _ h9 => h9) rfl dX1_restIsReached_70 ?_
          refine lv_aload_n hx hb dX1_restIsReached_73 rfl (lv_at hl 2 rfl) ?_
          refine va_get (D := D) (ci := 1) (v := .ref (q 1)) (C := RX1) (T := TX1) (N := 18) hx hb hts hiX1 hown hK hP 0 rfl rfl 0 (by decide) (hts (.fieldLink RX1 9 "ChargeEstimator$Battery" "settings" "[I") (List.mem_of_getElem? (i := 5) rfl)) (fun _ h9 => h9) rfl dX1_restIsReached_74 ?_
          refine zr_bipush hx hb dX1_restIsReached_77 (by decide) ?_
          refine zr_iald (D := D) (g := (zU A 43 ((A 43) + xt))) hx hb hK hP 1 0 rfl rfl (by decide) (by decide) dX1_restIsReached_79 ?_
          rw [show (zU A 43 ((A 43) + xt)) 6 = A 6 from by first | rfl | simp [zO, zU]]
          refine zr_icmp_lt (tgt := 99) hx hb dX1_restIsReached_80 (by decide) (by omega) (by omega) (fun c14 => ?_) (fun c14 => ?_)
          · refine zr_iconst hx hb dX1_restIsReached_99 ?_
            have hP8 : va_P D vwCl (zbat cs q (zRst A xi xv xt)) H := by first | (rw [zRst_t (by unfold zRests; omega)]; exact hP) | (rw [zRst_f (by unfold zRests; omega)]; exact hP)
            have hP9 : va_P D vwCl (zbat cs q (zRst A xi xv xt)) H := hP8
            have hD9 : va_D A0 (zbat cs q (zRst A xi xv xt)) := zD_addr hD rfl
            subst hAe
            exact W.zret hx hb hr (zbool_n (by decide)) (fun t ht hW => ⟨⟨_, (), rfl, (congrArg zI (show 0 = zB (A 43 < A 6 ∧ A 6 ≤ zRst A xi xv xt 43) from by first | (have er := er_t (by unfold zRests; omega); first | exact (zB_t (by omega)).symm | exact (zB_f (by omega)).symm) | (have er := er_f (by unfold zRests; omega); first | exact (zB_t (by omega)).symm | exact (zB_f (by omega)).symm))), by rw [ht]; exact hP9, hD9⟩, hS.F ht⟩) hS.2.2 dX1_restIsReached_100
          · refine lv_iload hx hb dX1_restIsReached_83 (lv_at hl 0 rfl) ?_
            refine lv_aload_n hx hb dX1_restIsReached_85 rfl (lv_at hl 2 rfl) ?_
            refine va_get (D := D) (ci := 1) (v := .ref (q 1)) (C := RX1) (T := TX1) (N := 18) hx hb hts hiX1 hown hK hP 0 rfl rfl 0 (by decide) (hts (.fieldLink RX1 9 "ChargeEstimator$Battery" "settings" "[I") (List.mem_of_getElem? (i := 5) rfl)) (fun _ h9 => h9) rfl dX1_restIsReached_86 ?_
            refine zr_bipush hx hb dX1_restIsReached_89 (by decide) ?_
            refine zr_iald (D := D) (g := (zU A 43 ((A 43) + xt))) hx hb hK hP 1 0 rfl rfl (by decide) (by decide) dX1_restIsReached_91 ?_
            rw [show (zU A 43 ((A 43) + xt)) 6 = A 6 from by first | rfl | simp [zO, zU]]
            refine zr_icmp_ge (tgt := 99) hx hb dX1_restIsReached_92 (by decide) (by omega) (by omega) (fun c15 => ?_) (fun c15 => ?_)
            · refine zr_iconst hx hb dX1_restIsReached_99 ?_
              have hP8 : va_P D vwCl (zbat cs q (zRst A xi xv xt)) H := by first | (rw [zRst_t (by unfold zRests; omega)]; exact hP) | (rw [zRst_f (by unfold zRests; omega)]; exact hP)
              have hP9 : va_P D vwCl (zbat cs q (zRst A xi xv xt)) H := hP8
              have hD9 : va_D A0 (zbat cs q (zRst A xi xv xt)) := zD_addr hD rfl
              subst hAe
              exact W.zret hx hb hr (zbool_n (by decide)) (fun t ht hW => ⟨⟨_, (), rfl, (congrArg zI (show 0 = zB (A 43 < A 6 ∧ A 6 ≤ zRst A xi xv xt 43) from by first | (have er := er_t (by unfold zRests; omega); first | exact (zB_t (by omega)).symm | exact (zB_f (by omega)).symm) | (have er := er_f (by unfold zRests; omega); first | exact (zB_t (by omega)).symm | exact (zB_f (by omega)).symm))), by rw [ht]; exact hP9, hD9⟩, hS.F ht⟩) hS.2.2 dX1_restIsReached_100
            · refine zr_iconst hx hb dX1_restIsReached_95 ?_
              refine lv_goto (tgt := 100) hx hb dX1_restIsReached_96 (by decide) ?_
              have hP8 : va_P D vwCl (zbat cs q (zRst A xi xv xt)) H := by first | (rw [zRst_t (by unfold zRests; omega)]; exact hP) | (rw [zRst_f (by unfold zRests; omega)]; exact hP)
              have hP9 : va_P D vwCl (zbat cs q (zRst A xi xv xt)) H := hP8
              have hD9 : va_D A0 (zbat cs q (zRst A xi xv xt)) := zD_addr hD rfl
              subst hAe
              exact W.zret hx hb hr (zbool_n (by decide)) (fun t ht hW => ⟨⟨_, (), rfl, (congrArg zI (show 1 = zB (A 43 < A 6 ∧ A 6 ≤ zRst A xi xv xt 43) from by first | (have er := er_t (by unfold zRests; omega); first | exact (zB_t (by omega)).symm | exact (zB_f (by omega)).symm) | (have er := er_f (by unfold zRests; omega); first | exact (zB_t (by omega)).symm | exact (zB_f (by omega)).symm))), by rw [ht]; exact hP9, hD9⟩, hS.F ht⟩) hS.2.2 dX1_restIsReached_100
set_option maxHeartbeats 4000000 in
set_option maxRecDepth 100000 in
theorem met_X1_fullIsReached (l : Launch) (D : va_G) (cs : Nat → ClassId) (q : Nat → Nat) (sz : Nat) (n : Int) (A : Int → Int) (xi xv xt : Int) (hI : zOK n A) (hn : 0 ≤ n ∧ n ≤ 3100000) (kxi : -50000 ≤ xi ∧ xi ≤ 50000) (kxv : 0 ≤ xv ∧ xv ≤ 6000) (kxt : 1 ≤ xt ∧ xt ≤ 600) : Met l yX1_fullIsReached wsX1_fullIsReached ({ frames := 0, cells := 0, slots := 0, locals := 0 }) (va_Pc [.ref (q 0), .int (zI xi), .int (zI xv), .int (zI xt)] (zPreZ D (zTy cs) (zbat cs q A) sz)) (zQi D (zbat cs q A) sz (zI (zB (A 44 < 60 ∧ 60 ≤ zFul A xi xv xt 44))) (zbat cs q (zFul A xi xv xt))) 0 0 (va_A (zbat cs q A) sz) := by
  refine Met.ofW (cc := cX1_fullIsReached) (maxL := 6) (ret := (some .boolean)) (by decide) rfl ?_
  intro p e s m args below meth c s₁ B hml hv
  obtain ⟨rfl, hsz, hP, hK, hD0, hN⟩ := hv
  have hx := B.exec
  have hb := B.bytes
  have hr := B.returns
  have hts := atoms_spec (ws := wsX1_fullIsReached) B.pre
  have hown : s.vm.findClass RX1 = some m.cls := findClass_of_methodNamed B.named
  have hlocks := B.notSynchronized
  subst hsz
  obtain ⟨A0, hAe⟩ : ∃ A0, A0 = va_A (zbat cs q A) s.heap.size := ⟨_, rfl⟩
  have hD := hD0.self (sz := s.heap.size)
  rw [← hAe] at hD
  have hA : ∀ q : Nat, s.heap.size ≤ q → A0 q := fun q h => by rw [hAe]; exact Or.inr h
  have hS : va_S A0 s.heap s.heap [] := va_S.rf
  have hP : va_P D vwCl (zbat cs q A) s.heap := hP
  have hl := lv_entry ([.ref (q 0), .int (zI xi), .int (zI xv), .int (zI xt)]) (n := 6) (Nat.le_of_ble_eq_true rfl)
  rw [lg_entry_eq]
  generalize (lg_sl ([.ref (q 0), .int (zI xi), .int (zI xv), .int (zI xt)]) ++ List.replicate (6 - (lg_sl ([.ref (q 0), .int (zI xi), .int (zI xv), .int (zI xt)])).length) Slot.unset).toArray = ls at hl ⊢
  have hl : lv_has ls 6 [(0, .ref (q 0)), (1, .int (zI xi)), (2, .int (zI xv)), (3, .int (zI xt))] := hl
  have hiX1 : ∀ w ∈ wsX10, w ∈ wsX1_fullIsReached := by decide +kernel
  obtain ⟨s0, s1, s2, s3, s4, s5, s6, s7, s8, s9, s10, s11⟩ := zOK_s hI
  obtain ⟨qN, qC, qQ, qL, qH, q40, q41, q42, q43, q44, q45, q46, q47, q48, q49, q50, q51, q52, qhad, qlast, qrow⟩ := zOK_q hI
  have er_t : zFulls A xi xv → zFul A xi xv xt 44 = A 44 + xt := fun h => by rw [zFul_t h]; rfl
  have er_f : ¬ zFulls A xi xv → zFul A xi xv xt 44 = 0 := fun h => by rw [zFul_f h]; rfl
  refine lv_iload_n hx hb dX1_fullIsReached_0 rfl (lv_at hl 1 rfl) ?_
  refine zr_if_lt (tgt := 30) hx hb dX1_fullIsReached_1 (by decide) (by omega) (fun c1 => ?_) (fun c1 => ?_)
  · refine zr_iconst hx hb dX1_fullIsReached_30 ?_
    refine lv_istore (lv' := [(4, .int (zI 0)), (0, .ref (q 0)), (1, .int (zI xi)), (2, .int (zI xv)), (3, .int (zI xt))]) hx hb dX1_fullIsReached_31 hl (by decide) rfl (fun ls hl => ?_)
    refine lv_aload_n hx hb dX1_fullIsReached_33 rfl (lv_at hl 1 rfl) ?_
    refine va_get (D := D) (ci := 1) (v := .int (zI (A 44))) (C := RX1) (T := TX1) (N := 18) hx hb hts hiX1 hown hK hP 0 rfl rfl 13 (by decide) (hts (.fieldLink RX1 78 "ChargeEstimator$Battery" "fullCounter" "I") (List.mem_of_getElem? (i := 2) rfl)) (fun _ h9 => h9) rfl dX1_fullIsReached_34 ?_
    refine lv_istore (lv' := [(5, .int (zI (A 44))), (4, .int (zI 0)), (0, .ref (q 0)), (1, .int (zI xi)), (2, .int (zI xv)), (3, .int (zI xt))]) hx hb dX1_fullIsReached_37 hl (by decide) rfl (fun ls hl => ?_)
    refine lv_aload_n hx hb dX1_fullIsReached_39 rfl (lv_at hl 2 rfl) ?_
    refine lv_iload hx hb dX1_fullIsReached_40 (lv_at hl 1 rfl) ?_
    refine zr_if_eq (tgt := 52) hx hb dX1_fullIsReached_42 (by decide) (by decide) (fun c2 => ?_) (fun c2 => ?_)
    · refine zr_iconst hx hb dX1_fullIsReached_52 ?_
      refine va_put (D := D) (ci := 1) (v := .int (zI 0)) (ty := .int) (C := RX1) (T := TX1) (N := 18) hx hb hts hiX1 tyX1 tyX1_ok nmX1 hown hK hP hD hS 0 rfl rfl 13 (by decide) (hts (.fieldLink RX1 78 "ChargeEstimator$Battery" "fullCounter" "I") (List.mem_of_getElem? (i := 2) rfl)) (fun _ h9 => h9) rfl (by decide +kernel) rfl rfl (Nat.le_of_ble_eq_true rfl) dX1_fullIsReached_53 (fun H locs hP hD hS => ?_)
      have hP : va_P D vwCl (zbat cs q (zU A 44 0)) H := zbp_44 hP
      have hD : va_D A0 (zbat cs q (zU A 44 0)) := zD_addr hD rfl
      refine lv_aload_n hx hb dX1_fullIsReached_56 rfl (lv_at hl 2 rfl) ?_
      refine va_get (D := D) (ci := 1) (v := .int (zI 0)) (C := RX1) (T := TX1) (N := 18) hx hb hts hiX1 hown hK hP 0 rfl rfl 13 (by decide) (hts (.fieldLink RX1 78 "ChargeEstimator$Battery" "fullCounter" "I") (List.mem_of_getElem? (i := 2) rfl)) (fun _ h9 => h9) rfl dX1_fullIsReached_57 ?_
      refine zr_bipush hx hb dX1_fullIsReached_60 (by decide) ?_
      refine zr_icmp_lt (tgt := 76) hx hb dX1_fullIsReached_62 (by decide) (by decide) (by decide) (fun c3 => ?_) (fun c3 => ?_)
      · refine zr_iconst hx hb dX1_fullIsReached_76 ?_
        have hP8 : va_P D vwCl (zbat cs q (zFul A xi xv xt)) H := by first | (rw [zFul_t (by unfold zFulls; omega)]; exact hP) | (rw [zFul_f (by unfold zFulls; omega)]; exact hP)
        have hP9 : va_P D vwCl (zbat cs q (zFul A xi xv xt)) H := hP8
        have hD9 : va_D A0 (zbat cs q (zFul A xi xv xt)) := zD_addr hD rfl
        subst hAe
        exact W.zret hx hb hr (zbool_n (by decide)) (fun t ht hW => ⟨⟨_, (), rfl, (congrArg zI (show 0 = zB (A 44 < 60 ∧ 60 ≤ zFul A xi xv xt 44) from by first | (have er := er_t (by unfold zFulls; omega); first | exact (zB_t (by omega)).symm | exact (zB_f (by omega)).symm) | (have er := er_f (by unfold zFulls; omega); first | exact (zB_t (by omega)).symm | exact (zB_f (by omega)).symm))), by rw [ht]; exact hP9, hD9⟩, hS.F ht⟩) hS.2.2 dX1_fullIsReached_77
      · exact absurd c3 (by decide)
    · exact absurd c2 (by decide)
  · refine lv_iload_n hx hb dX1_fullIsReached_4 rfl (lv_at hl 1 rfl) ?_
    refine lv_aload_n hx hb dX1_fullIsReached_5 rfl (lv_at hl 0 rfl) ?_
    refine va_get (D := D) (ci := 1) (v := .ref (q 1)) (C := RX1) (T := TX1) (N := 18) hx hb hts hiX1 hown hK hP 0 rfl rfl 0 (by decide) (hts (.fieldLink RX1 9 "ChargeEstimator$Battery" "settings" "[I") (List.mem_of_getElem? (i := 1) rfl)) (fun _ h9 => h9) rfl dX1_fullIsReached_6 ?_
    refine zr_bipush hx hb dX1_fullIsReached_9 (by decide) ?_
    refine zr_iald (D := D) (g := A) hx hb hK hP 1 0 rfl rfl (by decide) (by decide) dX1_fullIsReached_11 ?_
    refine zr_icmp_gt (tgt := 30) hx hb dX1_fullIsReached_12 (by decide) (by omega) (by omega) (fun c4 => ?_) (fun c4 => ?_)
    · refine zr_iconst hx hb dX1_fullIsReached_30 ?_
      refine lv_istore (lv' := [(4, .int (zI 0)), (0, .ref (q 0)), (1, .int (zI xi)), (2, .int (zI xv)), (3, .int (zI xt))]) hx hb dX1_fullIsReached_31 hl (by decide) rfl (fun ls hl => ?_)
      refine lv_aload_n hx hb dX1_fullIsReached_33 rfl (lv_at hl 1 rfl) ?_
      refine va_get (D := D) (ci := 1) (v := .int (zI (A 44))) (C := RX1) (T := TX1) (N := 18) hx hb hts hiX1 hown hK hP 0 rfl rfl 13 (by decide) (hts (.fieldLink RX1 78 "ChargeEstimator$Battery" "fullCounter" "I") (List.mem_of_getElem? (i := 2) rfl)) (fun _ h9 => h9) rfl dX1_fullIsReached_34 ?_
      refine lv_istore (lv' := [(5, .int (zI (A 44))), (4, .int (zI 0)), (0, .ref (q 0)), (1, .int (zI xi)), (2, .int (zI xv)), (3, .int (zI xt))]) hx hb dX1_fullIsReached_37 hl (by decide) rfl (fun ls hl => ?_)
      refine lv_aload_n hx hb dX1_fullIsReached_39 rfl (lv_at hl 2 rfl) ?_
      refine lv_iload hx hb dX1_fullIsReached_40 (lv_at hl 1 rfl) ?_
      refine zr_if_eq (tgt := 52) hx hb dX1_fullIsReached_42 (by decide) (by decide) (fun c5 => ?_) (fun c5 => ?_)
      · refine zr_iconst hx hb dX1_fullIsReached_52 ?_
        refine va_put (D := D) (ci := 1) (v := .int (zI 0)) (ty := .int) (C := RX1) (T := TX1) (N := 18) hx hb hts hiX1 tyX1 tyX1_ok nmX1 hown hK hP hD hS 0 rfl rfl 13 (by decide) (hts (.fieldLink RX1 78 "ChargeEstimator$Battery" "fullCounter" "I") (List.mem_of_getElem? (i := 2) rfl)) (fun _ h9 => h9) rfl (by decide +kernel) rfl rfl (Nat.le_of_ble_eq_true rfl) dX1_fullIsReached_53 (fun H locs hP hD hS => ?_)
        have hP : va_P D vwCl (zbat cs q (zU A 44 0)) H := zbp_44 hP
        have hD : va_D A0 (zbat cs q (zU A 44 0)) := zD_addr hD rfl
        refine lv_aload_n hx hb dX1_fullIsReached_56 rfl (lv_at hl 2 rfl) ?_
        refine va_get (D := D) (ci := 1) (v := .int (zI 0)) (C := RX1) (T := TX1) (N := 18) hx hb hts hiX1 hown hK hP 0 rfl rfl 13 (by decide) (hts (.fieldLink RX1 78 "ChargeEstimator$Battery" "fullCounter" "I") (List.mem_of_getElem? (i := 2) rfl)) (fun _ h9 => h9) rfl dX1_fullIsReached_57 ?_
        refine zr_bipush hx hb dX1_fullIsReached_60 (by decide) ?_
        refine zr_icmp_lt (tgt := 76) hx hb dX1_fullIsReached_62 (by decide) (by decide) (by decide) (fun c6 => ?_) (fun c6 => ?_)
        · refine zr_iconst hx hb dX1_fullIsReached_76 ?_
          have hP8 : va_P D vwCl (zbat cs q (zFul A xi xv xt)) H := by first | (rw [zFul_t (by unfold zFulls; omega)]; exact hP) | (rw [zFul_f (by unfold zFulls; omega)]; exact hP)
          have hP9 : va_P D vwCl (zbat cs q (zFul A xi xv xt)) H := hP8
          have hD9 : va_D A0 (zbat cs q (zFul A xi xv xt)) := zD_addr hD rfl
          subst hAe
          exact W.zret hx hb hr (zbool_n (by decide)) (fun t ht hW => ⟨⟨_, (), rfl, (congrArg zI (show 0 = zB (A 44 < 60 ∧ 60 ≤ zFul A xi xv xt 44) from by first | (have er := er_t (by unfold zFulls; omega); first | exact (zB_t (by omega)).symm | exact (zB_f (by omega)).symm) | (have er := er_f (by unfold zFulls; omega); first | exact (zB_t (by omega)).symm | exact (zB_f (by omega)).symm))), by rw [ht]; exact hP9, hD9⟩, hS.F ht⟩) hS.2.2 dX1_fullIsReached_77
        · exact absurd c6 (by decide)
      · exact absurd c5 (by decide)
    · refine lv_iload_n hx hb dX1_fullIsReached_15 rfl (lv_at hl 2 rfl) ?_
      refine lv_aload_n hx hb dX1_fullIsReached_16 rfl (lv_at hl 0 rfl) ?_
      refine va_get (D := D) (ci := 1) (v := .ref (q 1)) (C := RX1) (T := TX1) (N := 18) hx hb hts hiX1 hown hK hP 0 rfl rfl 0 (by decide) (hts (.fieldLink RX1 9 "ChargeEstimator$Battery" "settings" "[I") (List.mem_of_getElem? (i := 1) rfl)) (fun _ h9 => h9) rfl dX1_fullIsReached_17 ?_
      refine zr_bipush hx hb dX1_fullIsReached_20 (by decide) ?_
      refine zr_iald (D := D) (g := A) hx hb hK hP 1 0 rfl rfl (by decide) (by decide) dX1_fullIsReached_22 ?_
      refine zr_icmp_lt (tgt := 30) hx hb dX1_fullIsReached_23 (by decide) (by omega) (by omega) (fun c7 => ?_) (fun c7 => ?_)
      · refine zr_iconst hx hb dX1_fullIsReached_30 ?_
        refine lv_istore (lv' := [(4, .int (zI 0)), (0, .ref (q 0)), (1, .int (zI xi)), (2, .int (zI xv)), (3, .int (zI xt))]) hx hb dX1_fullIsReached_31 hl (by decide) rfl (fun ls hl => ?_)
        refine lv_aload_n hx hb dX1_fullIsReached_33 rfl (lv_at hl 1 rfl) ?_
        refine va_get (D := D) (ci := 1) (v := .int (zI (A 44))) (C := RX1) (T := TX1) (N := 18) hx hb hts hiX1 hown hK hP 0 rfl rfl 13 (by decide) (hts (.fieldLink RX1 78 "ChargeEstimator$Battery" "fullCounter" "I") (List.mem_of_getElem? (i := 2) rfl)) (fun _ h9 => h9) rfl dX1_fullIsReached_34 ?_
        refine lv_istore (lv' := [(5, .int (zI (A 44))), (4, .int (zI 0)), (0, .ref (q 0)), (1, .int (zI xi)), (2, .int (zI xv)), (3, .int (zI xt))]) hx hb dX1_fullIsReached_37 hl (by decide) rfl (fun ls hl => ?_)
        refine lv_aload_n hx hb dX1_fullIsReached_39 rfl (lv_at hl 2 rfl) ?_
        refine lv_iload hx hb dX1_fullIsReached_40 (lv_at hl 1 rfl) ?_
        refine zr_if_eq (tgt := 52) hx hb dX1_fullIsReached_42 (by decide) (by decide) (fun c8 => ?_) (fun c8 => ?_)
        · refine zr_iconst hx hb dX1_fullIsReached_52 ?_
          refine va_put (D := D) (ci := 1) (v := .int (zI 0)) (ty := .int) (C := RX1) (T := TX1) (N := 18) hx hb hts hiX1 tyX1 tyX1_ok nmX1 hown hK hP hD hS 0 rfl rfl 13 (by decide) (hts (.fieldLink RX1 78 "ChargeEstimator$Battery" "fullCounter" "I") (List.mem_of_getElem? (i := 2) rfl)) (fun _ h9 => h9) rfl (by decide +kernel) rfl rfl (Nat.le_of_ble_eq_true rfl) dX1_fullIsReached_53 (fun H locs hP hD hS => ?_)
          have hP : va_P D vwCl (zbat cs q (zU A 44 0)) H := zbp_44 hP
          have hD : va_D A0 (zbat cs q (zU A 44 0)) := zD_addr hD rfl
          refine lv_aload_n hx hb dX1_fullIsReached_56 rfl (lv_at hl 2 rfl) ?_
          refine va_get (D := D) (ci := 1) (v := .int (zI 0)) (C := RX1) (T := TX1) (N := 18) hx hb hts hiX1 hown hK hP 0 rfl rfl 13 (by decide) (hts (.fieldLink RX1 78 "ChargeEstimator$Battery" "fullCounter" "I") (List.mem_of_getElem? (i := 2) rfl)) (fun _ h9 => h9) rfl dX1_fullIsReached_57 ?_
          refine zr_bipush hx hb dX1_fullIsReached_60 (by decide) ?_
          refine zr_icmp_lt (tgt := 76) hx hb dX1_fullIsReached_62 (by decide) (by decide) (by decide) (fun c9 => ?_) (fun c9 => ?_)
          · refine zr_iconst hx hb dX1_fullIsReached_76 ?_
            have hP8 : va_P D vwCl (zbat cs q (zFul A xi xv xt)) H := by first | (rw [zFul_t (by unfold zFulls; omega)]; exact hP) | (rw [zFul_f (by unfold zFulls; omega)]; exact hP)
            have hP9 : va_P D vwCl (zbat cs q (zFul A xi xv xt)) H := hP8
            have hD9 : va_D A0 (zbat cs q (zFul A xi xv xt)) := zD_addr hD rfl
            subst hAe
            exact W.zret hx hb hr (zbool_n (by decide)) (fun t ht hW => ⟨⟨_, (), rfl, (congrArg zI (show 0 = zB (A 44 < 60 ∧ 60 ≤ zFul A xi xv xt 44) from by first | (have er := er_t (by unfold zFulls; omega); first | exact (zB_t (by omega)).symm | exact (zB_f (by omega)).symm) | (have er := er_f (by unfold zFulls; omega); first | exact (zB_t (by omega)).symm | exact (zB_f (by omega)).symm))), by rw [ht]; exact hP9, hD9⟩, hS.F ht⟩) hS.2.2 dX1_fullIsReached_77
          · exact absurd c9 (by decide)
        · exact absurd c8 (by decide)
      · refine zr_iconst hx hb dX1_fullIsReached_26 ?_
        refine lv_goto (tgt := 31) hx hb dX1_fullIsReached_27 (by decide) ?_
        refine lv_istore (lv' := [(4, .int (zI 1)), (0, .ref (q 0)), (1, .int (zI xi)), (2, .int (zI xv)), (3, .int (zI xt))]) hx hb dX1_fullIsReached_31 hl (by decide) rfl (fun ls hl => ?_)
        refine lv_aload_n hx hb dX1_fullIsReached_33 rfl (lv_at hl 1 rfl) ?_
        refine va_get (D := D) (ci := 1) (v := .int (zI (A 44))) (C := RX1) (T := TX1) (N := 18) hx hb hts hiX1 hown hK hP 0 rfl rfl 13 (by decide) (hts (.fieldLink RX1 78 "ChargeEstimator$Battery" "fullCounter" "I") (List.mem_of_getElem? (i := 2) rfl)) (fun _ h9 => h9) rfl dX1_fullIsReached_34 ?_
        refine lv_istore (lv' := [(5, .int (zI (A 44))), (4, .int (zI 1)), (0, .ref (q 0)), (1, .int (zI xi)), (2, .int (zI xv)), (3, .int (zI xt))]) hx hb dX1_fullIsReached_37 hl (by decide) rfl (fun ls hl => ?_)
        refine lv_aload_n hx hb dX1_fullIsReached_39 rfl (lv_at hl 2 rfl) ?_
        refine lv_iload hx hb dX1_fullIsReached_40 (lv_at hl 1 rfl) ?_
        refine zr_if_eq (tgt := 52) hx hb dX1_fullIsReached_42 (by decide) (by decide) (fun c10 => ?_) (fun c10 => ?_)
        · exact absurd c10 (by decide)
        · refine lv_iload hx hb dX1_fullIsReached_45 (lv_at hl 0 rfl) ?_
          refine lv_iload_n hx hb dX1_fullIsReached_47 rfl (lv_at hl 5 rfl) ?_
          refine zr_iadd hx hb dX1_fullIsReached_48 ?_
          refine lv_goto (tgt := 53) hx hb dX1_fullIsReached_49 (by decide) ?_
          refine va_put (D := D) (ci := 1) (v := .int (zI ((A 44) + xt))) (ty := .int) (C := RX1) (T := TX1) (N := 18) hx hb hts hiX1 tyX1 tyX1_ok nmX1 hown hK hP hD hS 0 rfl rfl 13 (by decide) (hts (.fieldLink RX1 78 "ChargeEstimator$Battery" "fullCounter" "I") (List.mem_of_getElem? (i := 2) rfl)) (fun _ h9 => h9) rfl (by decide +kernel) rfl rfl (Nat.le_of_ble_eq_true rfl) dX1_fullIsReached_53 (fun H locs hP hD hS => ?_)
          have hP : va_P D vwCl (zbat cs q (zU A 44 ((A 44) + xt))) H := zbp_44 hP
          have hD : va_D A0 (zbat cs q (zU A 44 ((A 44) + xt))) := zD_addr hD rfl
          refine lv_aload_n hx hb dX1_fullIsReached_56 rfl (lv_at hl 2 rfl) ?_
          refine va_get (D := D) (ci := 1) (v := .int (zI ((A 44) + xt))) (C := RX1) (T := TX1) (N := 18) hx hb hts hiX1 hown hK hP 0 rfl rfl 13 (by decide) (hts (.fieldLink RX1 78 "ChargeEstimator$Battery" "fullCounter" "I") (List.mem_of_getElem? (i := 2) rfl)) (fun _ h9 => h9) rfl dX1_fullIsReached_57 ?_
          refine zr_bipush hx hb dX1_fullIsReached_60 (by decide) ?_
          refine zr_icmp_lt (tgt := 76) hx hb dX1_fullIsReached_62 (by decide) (by omega) (by decide) (fun c11 => ?_) (fun c11 => ?_)
          · refine zr_iconst hx hb dX1_fullIsReached_76 ?_
            have hP8 : va_P D vwCl (zbat cs q (zFul A xi xv xt)) H := by first | (rw [zFul_t (by unfold zFulls; omega)]; exact hP) | (rw [zFul_f (by unfold zFulls; omega)]; exact hP)
            have hP9 : va_P D vwCl (zbat cs q (zFul A xi xv xt)) H := hP8
            have hD9 : va_D A0 (zbat cs q (zFul A xi xv xt)) := zD_addr hD rfl
            subst hAe
            exact W.zret hx hb hr (zbool_n (by decide)) (fun t ht hW => ⟨⟨_, (), rfl, (congrArg zI (show 0 = zB (A 44 < 60 ∧ 60 ≤ zFul A xi xv xt 44) from by first | (have er := er_t (by unfold zFulls; omega); first | exact (zB_t (by omega)).symm | exact (zB_f (by omega)).symm) | (have er := er_f (by unfold zFulls; omega); first | exact (zB_t (by omega)).symm | exact (zB_f (by omega)).symm))), by rw [ht]; exact hP9, hD9⟩, hS.F ht⟩) hS.2.2 dX1_fullIsReached_77
          · refine lv_iload hx hb dX1_fullIsReached_65 (lv_at hl 0 rfl) ?_
            refine zr_bipush hx hb dX1_fullIsReached_67 (by decide) ?_
            refine zr_icmp_ge (tgt := 76) hx hb dX1_fullIsReached_69 (by decide) (by omega) (by decide) (fun c12 => ?_) (fun c12 => ?_)
            · refine zr_iconst hx hb dX1_fullIsReached_76 ?_
              have hP8 : va_P D vwCl (zbat cs q (zFul A xi xv xt)) H := by first | (rw [zFul_t (by unfold zFulls; omega)]; exact hP) | (rw [zFul_f (by unfold zFulls; omega)]; exact hP)
              have hP9 : va_P D vwCl (zbat cs q (zFul A xi xv xt)) H := hP8
              have hD9 : va_D A0 (zbat cs q (zFul A xi xv xt)) := zD_addr hD rfl
              subst hAe
              exact W.zret hx hb hr (zbool_n (by decide)) (fun t ht hW => ⟨⟨_, (), rfl, (congrArg zI (show 0 = zB (A 44 < 60 ∧ 60 ≤ zFul A xi xv xt 44) from by first | (have er := er_t (by unfold zFulls; omega); first | exact (zB_t (by omega)).symm | exact (zB_f (by omega)).symm) | (have er := er_f (by unfold zFulls; omega); first | exact (zB_t (by omega)).symm | exact (zB_f (by omega)).symm))), by rw [ht]; exact hP9, hD9⟩, hS.F ht⟩) hS.2.2 dX1_fullIsReached_77
            · refine zr_iconst hx hb dX1_fullIsReached_72 ?_
              refine lv_goto (tgt := 77) hx hb dX1_fullIsReached_73 (by decide) ?_
              have hP8 : va_P D vwCl (zbat cs q (zFul A xi xv xt)) H := by first | (rw [zFul_t (by unfold zFulls; omega)]; exact hP) | (rw [zFul_f (by unfold zFulls; omega)]; exact hP)
              have hP9 : va_P D vwCl (zbat cs q (zFul A xi xv xt)) H := hP8
              have hD9 : va_D A0 (zbat cs q (zFul A xi xv xt)) := zD_addr hD rfl
              subst hAe
              exact W.zret hx hb hr (zbool_n (by decide)) (fun t ht hW => ⟨⟨_, (), rfl, (congrArg zI (show 1 = zB (A 44 < 60 ∧ 60 ≤ zFul A xi xv xt 44) from by first | (have er := er_t (by unfold zFulls; omega); first | exact (zB_t (by omega)).symm | exact (zB_f (by omega)).symm) | (have er := er_f (by unfold zFulls; omega); first | exact (zB_t (by omega)).symm | exact (zB_f (by omega)).symm))), by rw [ht]; exact hP9, hD9⟩, hS.F ht⟩) hS.2.2 dX1_fullIsReached_77
noncomputable def zEmp (A : Int → Int) (i v : Int) : Int → Int := zU A 47 (zI_f (zEmpties A i v) 1 0)
theorem zEmp_t {A : Int → Int} {i v : Int} (h : zEmpties A i v) : zEmp A i v = zU A 47 1 := by unfold zEmp; rw [zI_ft h]
theorem zEmp_f {A : Int → Int} {i v : Int} (h : ¬ zEmpties A i v) : zEmp A i v = zU A 47 0 := by unfold zEmp; rw [zI_ff h]
set_option maxHeartbeats 4000000 in
set_option maxRecDepth 100000 in
theorem met_X1_emptyIsReached (l : Launch) (D : va_G) (cs : Nat → ClassId) (q : Nat → Nat) (sz : Nat) (n : Int) (A : Int → Int) (xi xv : Int) (hI : zOK n A) (hn : 0 ≤ n ∧ n ≤ 3100000) (kxi : -50000 ≤ xi ∧ xi ≤ 50000) (kxv : 0 ≤ xv ∧ xv ≤ 6000) : Met l yX1_emptyIsReached wsX1_emptyIsReached ({ frames := 0, cells := 0, slots := 0, locals := 0 }) (va_Pc [.ref (q 0), .int (zI xi), .int (zI xv)] (zPreZ D (zTy cs) (zbat cs q A) sz)) (zQi D (zbat cs q A) sz (zI (zB (xi < 0 ∧ xv ≤ A 10 ∧ A 47 = 0))) (zbat cs q (zEmp A xi xv))) 0 0 (va_A (zbat cs q A) sz) := by
  refine Met.ofW (cc := cX1_emptyIsReached) (maxL := 4) (ret := (some .boolean)) (by decide) rfl ?_
  intro p e s m args below meth c s₁ B hml hv
  obtain ⟨rfl, hsz, hP, hK, hD0, hN⟩ := hv
  have hx := B.exec
  have hb := B.bytes
  have hr := B.returns
  have hts := atoms_spec (ws := wsX1_emptyIsReached) B.pre
  have hown : s.vm.findClass RX1 = some m.cls := findClass_of_methodNamed B.named
  have hlocks := B.notSynchronized
  subst hsz
  obtain ⟨A0, hAe⟩ : ∃ A0, A0 = va_A (zbat cs q A) s.heap.size := ⟨_, rfl⟩
  have hD := hD0.self (sz := s.heap.size)
  rw [← hAe] at hD
  have hA : ∀ q : Nat, s.heap.size ≤ q → A0 q := fun q h => by rw [hAe]; exact Or.inr h
  have hS : va_S A0 s.heap s.heap [] := va_S.rf
  have hP : va_P D vwCl (zbat cs q A) s.heap := hP
  have hl := lv_entry ([.ref (q 0), .int (zI xi), .int (zI xv)]) (n := 4) (Nat.le_of_ble_eq_true rfl)
  rw [lg_entry_eq]
  generalize (lg_sl ([.ref (q 0), .int (zI xi), .int (zI xv)]) ++ List.replicate (4 - (lg_sl ([.ref (q 0), .int (zI xi), .int (zI xv)])).length) Slot.unset).toArray = ls at hl ⊢
  have hl : lv_has ls 4 [(0, .ref (q 0)), (1, .int (zI xi)), (2, .int (zI xv))] := hl
  have hiX1 : ∀ w ∈ wsX10, w ∈ wsX1_emptyIsReached := by decide +kernel
  obtain ⟨s0, s1, s2, s3, s4, s5, s6, s7, s8, s9, s10, s11⟩ := zOK_s hI
  obtain ⟨qN, qC, qQ, qL, qH, q40, q41, q42, q43, q44, q45, q46, q47, q48, q49, q50, q51, q52, qhad, qlast, qrow⟩ := zOK_q hI
  refine lv_aload_n hx hb dX1_emptyIsReached_0 rfl (lv_at hl 0 rfl) ?_
  refine va_get (D := D) (ci := 1) (v := .int (zI (A 47))) (C := RX1) (T := TX1) (N := 18) hx hb hts hiX1 hown hK hP 0 rfl rfl 17 (by decide) (hts (.fieldLink RX1 90 "ChargeEstimator$Battery" "wasEmpty" "Z") (List.mem_of_getElem? (i := 1) rfl)) (fun _ h9 => h9) rfl dX1_emptyIsReached_1 ?_
  refine lv_istore_n (lv' := [(3, .int (zI (A 47))), (0, .ref (q 0)), (1, .int (zI xi)), (2, .int (zI xv))]) hx hb dX1_emptyIsReached_4 rfl hl (by decide) rfl (fun ls hl => ?_)
  refine lv_aload_n hx hb dX1_emptyIsReached_5 rfl (lv_at hl 1 rfl) ?_
  refine lv_iload_n hx hb dX1_emptyIsReached_6 rfl (lv_at hl 2 rfl) ?_
  refine zr_if_ge (tgt := 25) hx hb dX1_emptyIsReached_7 (by decide) (by omega) (fun c1 => ?_) (fun c1 => ?_)
  · refine zr_iconst hx hb dX1_emptyIsReached_25 ?_
    refine va_put (D := D) (ci := 1) (v := .int (zI 0)) (ty := .boolean) (C := RX1) (T := TX1) (N := 18) hx hb hts hiX1 tyX1 tyX1_ok nmX1 hown hK hP hD hS 0 rfl rfl 17 (by decide) (hts (.fieldLink RX1 90 "ChargeEstimator$Battery" "wasEmpty" "Z") (List.mem_of_getElem? (i := 1) rfl)) (fun _ h9 => h9) rfl (by decide +kernel) (zbool_n (by decide)) (zbool_f (by decide)) (Nat.le_of_ble_eq_true rfl) dX1_emptyIsReached_26 (fun H locs hP hD hS => ?_)
    have hP : va_P D vwCl (zbat cs q (zU A 47 0)) H := zbp_47 hP
    have hD : va_D A0 (zbat cs q (zU A 47 0)) := zD_addr hD rfl
    refine lv_aload_n hx hb dX1_emptyIsReached_29 rfl (lv_at hl 1 rfl) ?_
    refine va_get (D := D) (ci := 1) (v := .int (zI 0)) (C := RX1) (T := TX1) (N := 18) hx hb hts hiX1 hown hK hP 0 rfl rfl 17 (by decide) (hts (.fieldLink RX1 90 "ChargeEstimator$Battery" "wasEmpty" "Z") (List.mem_of_getElem? (i := 1) rfl)) (fun _ h9 => h9) rfl dX1_emptyIsReached_30 ?_
    refine zr_if_eq (tgt := 44) hx hb dX1_emptyIsReached_33 (by decide) (by decide) (fun c2 => ?_) (fun c2 => ?_)
    · refine zr_iconst hx hb dX1_emptyIsReached_44 ?_
      have hP8 : va_P D vwCl (zbat cs q (zEmp A xi xv)) H := by first | (rw [zEmp_t (by unfold zEmpties; omega)]; exact hP) | (rw [zEmp_f (by unfold zEmpties; omega)]; exact hP)
      have hP9 : va_P D vwCl (zbat cs q (zEmp A xi xv)) H := hP8
      have hD9 : va_D A0 (zbat cs q (zEmp A xi xv)) := zD_addr hD rfl
      subst hAe
      exact W.zret hx hb hr (zbool_n (by decide)) (fun t ht hW => ⟨⟨_, (), rfl, (congrArg zI (show 0 = zB (xi < 0 ∧ xv ≤ A 10 ∧ A 47 = 0) from by first | exact (zB_t (by omega)).symm | exact (zB_f (by omega)).symm)), by rw [ht]; exact hP9, hD9⟩, hS.F ht⟩) hS.2.2 dX1_emptyIsReached_45
    · exact absurd c2 (by decide)
  · refine lv_iload_n hx hb dX1_emptyIsReached_10 rfl (lv_at hl 3 rfl) ?_
    refine lv_aload_n hx hb dX1_emptyIsReached_11 rfl (lv_at hl 1 rfl) ?_
    refine va_get (D := D) (ci := 1) (v := .ref (q 1)) (C := RX1) (T := TX1) (N := 18) hx hb hts hiX1 hown hK hP 0 rfl rfl 0 (by decide) (hts (.fieldLink RX1 9 "ChargeEstimator$Battery" "settings" "[I") (List.mem_of_getElem? (i := 2) rfl)) (fun _ h9 => h9) rfl dX1_emptyIsReached_12 ?_
    refine zr_bipush hx hb dX1_emptyIsReached_15 (by decide) ?_
    refine zr_iald (D := D) (g := A) hx hb hK hP 1 0 rfl rfl (by decide) (by decide) dX1_emptyIsReached_17 ?_
    refine zr_icmp_gt (tgt := 25) hx hb dX1_emptyIsReached_18 (by decide) (by omega) (by omega) (fun c3 => ?_) (fun c3 => ?_)
    · refine zr_iconst hx hb dX1_emptyIsReached_25 ?_
      refine va_put (D := D) (ci := 1) (v := .int (zI 0)) (ty := .boolean) (C := RX1) (T := TX1) (N := 18) hx hb hts hiX1 tyX1 tyX1_ok nmX1 hown hK hP hD hS 0 rfl rfl 17 (by decide) (hts (.fieldLink RX1 90 "ChargeEstimator$Battery" "wasEmpty" "Z") (List.mem_of_getElem? (i := 1) rfl)) (fun _ h9 => h9) rfl (by decide +kernel) (zbool_n (by decide)) (zbool_f (by decide)) (Nat.le_of_ble_eq_true rfl) dX1_emptyIsReached_26 (fun H locs hP hD hS => ?_)
      have hP : va_P D vwCl (zbat cs q (zU A 47 0)) H := zbp_47 hP
      have hD : va_D A0 (zbat cs q (zU A 47 0)) := zD_addr hD rfl
      refine lv_aload_n hx hb dX1_emptyIsReached_29 rfl (lv_at hl 1 rfl) ?_
      refine va_get (D := D) (ci := 1) (v := .int (zI 0)) (C := RX1) (T := TX1) (N := 18) hx hb hts hiX1 hown hK hP 0 rfl rfl 17 (by decide) (hts (.fieldLink RX1 90 "ChargeEstimator$Battery" "wasEmpty" "Z") (List.mem_of_getElem? (i := 1) rfl)) (fun _ h9 => h9) rfl dX1_emptyIsReached_30 ?_
      refine zr_if_eq (tgt := 44) hx hb dX1_emptyIsReached_33 (by decide) (by decide) (fun c4 => ?_) (fun c4 => ?_)
      · refine zr_iconst hx hb dX1_emptyIsReached_44 ?_
        have hP8 : va_P D vwCl (zbat cs q (zEmp A xi xv)) H := by first | (rw [zEmp_t (by unfold zEmpties; omega)]; exact hP) | (rw [zEmp_f (by unfold zEmpties; omega)]; exact hP)
        have hP9 : va_P D vwCl (zbat cs q (zEmp A xi xv)) H := hP8
        have hD9 : va_D A0 (zbat cs q (zEmp A xi xv)) := zD_addr hD rfl
        subst hAe
        exact W.zret hx hb hr (zbool_n (by decide)) (fun t ht hW => ⟨⟨_, (), rfl, (congrArg zI (show 0 = zB (xi < 0 ∧ xv ≤ A 10 ∧ A 47 = 0) from by first | exact (zB_t (by omega)).symm | exact (zB_f (by omega)).symm)), by rw [ht]; exact hP9, hD9⟩, hS.F ht⟩) hS.2.2 dX1_emptyIsReached_45
      · exact absurd c4 (by decide)
    · refine zr_iconst hx hb dX1_emptyIsReached_21 ?_
      refine lv_goto (tgt := 26) hx hb dX1_emptyIsReached_22 (by decide) ?_
      refine va_put (D := D) (ci := 1) (v := .int (zI 1)) (ty := .boolean) (C := RX1) (T := TX1) (N := 18) hx hb hts hiX1 tyX1 tyX1_ok nmX1 hown hK hP hD hS 0 rfl rfl 17 (by decide) (hts (.fieldLink RX1 90 "ChargeEstimator$Battery" "wasEmpty" "Z") (List.mem_of_getElem? (i := 1) rfl)) (fun _ h9 => h9) rfl (by decide +kernel) (zbool_n (by decide)) (zbool_f (by decide)) (Nat.le_of_ble_eq_true rfl) dX1_emptyIsReached_26 (fun H locs hP hD hS => ?_)
      have hP : va_P D vwCl (zbat cs q (zU A 47 1)) H := zbp_47 hP
      have hD : va_D A0 (zbat cs q (zU A 47 1)) := zD_addr hD rfl
      refine lv_aload_n hx hb dX1_emptyIsReached_29 rfl (lv_at hl 1 rfl) ?_
      refine va_get (D := D) (ci := 1) (v := .int (zI 1)) (C := RX1) (T := TX1) (N := 18) hx hb hts hiX1 hown hK hP 0 rfl rfl 17 (by decide) (hts (.fieldLink RX1 90 "ChargeEstimator$Battery" "wasEmpty" "Z") (List.mem_of_getElem? (i := 1) rfl)) (fun _ h9 => h9) rfl dX1_emptyIsReached_30 ?_
      refine zr_if_eq (tgt := 44) hx hb dX1_emptyIsReached_33 (by decide) (by decide) (fun c5 => ?_) (fun c5 => ?_)
      · exact absurd c5 (by decide)
      · refine lv_iload_n hx hb dX1_emptyIsReached_36 rfl (lv_at hl 0 rfl) ?_
        refine zr_if_ne (tgt := 44) hx hb dX1_emptyIsReached_37 (by decide) (by omega) (fun c6 => ?_) (fun c6 => ?_)
        · refine zr_iconst hx hb dX1_emptyIsReached_44 ?_
          have hP8 : va_P D vwCl (zbat cs q (zEmp A xi xv)) H := by first | (rw [zEmp_t (by unfold zEmpties; omega)]; exact hP) | (rw [zEmp_f (by unfold zEmpties; omega)]; exact hP)
          have hP9 : va_P D vwCl (zbat cs q (zEmp A xi xv)) H := hP8
          have hD9 : va_D A0 (zbat cs q (zEmp A xi xv)) := zD_addr hD rfl
          subst hAe
          exact W.zret hx hb hr (zbool_n (by decide)) (fun t ht hW => ⟨⟨_, (), rfl, (congrArg zI (show 0 = zB (xi < 0 ∧ xv ≤ A 10 ∧ A 47 = 0) from by first | exact (zB_t (by omega)).symm | exact (zB_f (by omega)).symm)), by rw [ht]; exact hP9, hD9⟩, hS.F ht⟩) hS.2.2 dX1_emptyIsReached_45
        · refine zr_iconst hx hb dX1_emptyIsReached_40 ?_
          refine lv_goto (tgt := 45) hx hb dX1_emptyIsReached_41 (by decide) ?_
          have hP8 : va_P D vwCl (zbat cs q (zEmp A xi xv)) H := by first | (rw [zEmp_t (by unfold zEmpties; omega)]; exact hP) | (rw [zEmp_f (by unfold zEmpties; omega)]; exact hP)
          have hP9 : va_P D vwCl (zbat cs q (zEmp A xi xv)) H := hP8
          have hD9 : va_D A0 (zbat cs q (zEmp A xi xv)) := zD_addr hD rfl
          subst hAe
          exact W.zret hx hb hr (zbool_n (by decide)) (fun t ht hW => ⟨⟨_, (), rfl, (congrArg zI (show 1 = zB (xi < 0 ∧ xv ≤ A 10 ∧ A 47 = 0) from by first | exact (zB_t (by omega)).symm | exact (zB_f (by omega)).symm)), by rw [ht]; exact hP9, hD9⟩, hS.F ht⟩) hS.2.2 dX1_emptyIsReached_45
set_option maxHeartbeats 4000000 in
set_option maxRecDepth 100000 in
theorem met_X1_learnCapacity (l : Launch) (D : va_G) (cs : Nat → ClassId) (q : Nat → Nat) (sz : Nat) (n : Int) (A : Int → Int) (xs : Int) (hI : zOK n A) (hn : 0 ≤ n ∧ n ≤ 3100000) (kxs : 0 ≤ xs ∧ xs ≤ 10000) : Met l yX1_learnCapacity wsX1_learnCapacity ({ frames := 2, cells := 0, slots := 0, locals := 43 }) (va_Pc [.ref (q 0), .int (zI xs)] (zPreZ D (zTy cs) (zbat cs q A) sz)) (zQv D (zbat cs q A) sz (zbat cs q (zLrn A xs))) 0 0 (va_A (zbat cs q A) sz) := by
  refine Met.ofW (cc := cX1_learnCapacity) (maxL := 7) (ret := none) (by decide) rfl ?_
  intro p e s m args below meth c s₁ B hml hv
  obtain ⟨rfl, hsz, hP, hK, hD0, hN⟩ := hv
  have hx := B.exec
  have hb := B.bytes
  have hr := B.returns
  have hts := atoms_spec (ws := wsX1_learnCapacity) B.pre
  have hown : s.vm.findClass RX1 = some m.cls := findClass_of_methodNamed B.named
  have hlocks := B.notSynchronized
  subst hsz
  obtain ⟨A0, hAe⟩ : ∃ A0, A0 = va_A (zbat cs q A) s.heap.size := ⟨_, rfl⟩
  have hD := hD0.self (sz := s.heap.size)
  rw [← hAe] at hD
  have hA : ∀ q : Nat, s.heap.size ≤ q → A0 q := fun q h => by rw [hAe]; exact Or.inr h
  have hS : va_S A0 s.heap s.heap [] := va_S.rf
  have hP : va_P D vwCl (zbat cs q A) s.heap := hP
  have hl := lv_entry ([.ref (q 0), .int (zI xs)]) (n := 7) (Nat.le_of_ble_eq_true rfl)
  rw [lg_entry_eq]
  generalize (lg_sl ([.ref (q 0), .int (zI xs)]) ++ List.replicate (7 - (lg_sl ([.ref (q 0), .int (zI xs)])).length) Slot.unset).toArray = ls at hl ⊢
  have hl : lv_has ls 7 [(0, .ref (q 0)), (1, .int (zI xs))] := hl
  have hiX1 : ∀ w ∈ wsX10, w ∈ wsX1_learnCapacity := by decide +kernel
  have hR := zRng_r hI
  have hA := zOK_w hI
  obtain ⟨hst, hC, q35, q36⟩ := id hA
  obtain ⟨s0, s1, s2, s3, s4, s5, s6, s7, s8, s9, s10, s11⟩ := zOK_s hI
  obtain ⟨qN, qC, qQ, qL, qH, q40, q41, q42, q43, q44, q45, q46, q47, q48, q49, q50, q51, q52, qhad, qlast, qrow⟩ := zOK_q hI
  have hsp : zSpan A xs = max (xs - A 49) (-(xs - A 49)) := rfl
  refine lv_aload_n hx hb dX1_learnCapacity_0 rfl (lv_at hl 0 rfl) ?_
  refine va_get (D := D) (ci := 1) (v := .ref (q 5)) (C := RX1) (T := TX1) (N := 18) hx hb hts hiX1 hown hK hP 0 rfl rfl 2 (by decide) (hts (.fieldLink RX1 25 "ChargeEstimator$Battery" "log" "LChargeEstimator$AnchorLog;") (List.mem_of_getElem? (i := 1) rfl)) (fun _ h9 => h9) rfl dX1_learnCapacity_1 ?_
  refine zc_ri (va_runV (As := []) (rest := []) ⟨hx, hb, hml, hown, hts⟩ (met_X0_size l D cs q n A ) (cwV 0 hts gX1_learnCapacity_X0_size rfl rfl rfl (by decide +kernel) ⟨Nat.le_of_ble_eq_true rfl, Nat.le_of_ble_eq_true rfl⟩) ⟨zPre.blind, va_recv hK hP (ci := 0) (q0 := 5) rfl rfl, fun U hU hW => zp_R hP hK hD hN hU hW⟩ rfl rfl hl.1 rfl (lv_room (Nat.le_of_ble_eq_true rfl)) dX1_learnCapacity_4 ⟨Nat.le_of_ble_eq_true rfl, Nat.le_of_ble_eq_true rfl⟩) ?_
  refine zr_if_ne (tgt := 11) hx hb dX1_learnCapacity_7 (by decide) (by omega) (fun c1 => ?_) (fun c1 => ?_)
  · refine lv_aload_n hx hb dX1_learnCapacity_11 rfl (lv_at hl 0 rfl) ?_
    refine va_get (D := D) (ci := 1) (v := .ref (q 5)) (C := RX1) (T := TX1) (N := 18) hx hb hts hiX1 hown hK hP 0 rfl rfl 2 (by decide) (hts (.fieldLink RX1 25 "ChargeEstimator$Battery" "log" "LChargeEstimator$AnchorLog;") (List.mem_of_getElem? (i := 1) rfl)) (fun _ h9 => h9) rfl dX1_learnCapacity_12 ?_
    refine zc_ri (va_runV (As := []) (rest := []) ⟨hx, hb, hml, hown, hts⟩ (met_X0_latestSoc l D cs q _ A (by assumption) (by assumption) (by first | assumption | omega)) (cwV 0 hts gX1_learnCapacity_X0_latestSoc rfl rfl rfl (by decide +kernel) ⟨Nat.le_of_ble_eq_true rfl, Nat.le_of_ble_eq_true rfl⟩) ⟨zPre.blind, va_recv hK hP (ci := 0) (q0 := 5) rfl rfl, fun U hU hW => zp_R hP hK hD hN hU hW⟩ rfl rfl hl.1 rfl (lv_room (Nat.le_of_ble_eq_true rfl)) dX1_learnCapacity_15 ⟨Nat.le_of_ble_eq_true rfl, Nat.le_of_ble_eq_true rfl⟩) ?_
    refine lv_istore_n (lv' := [(2, .int (zI (A 49))), (0, .ref (q 0)), (1, .int (zI xs))]) hx hb dX1_learnCapacity_18 rfl hl (by decide) rfl (fun ls hl => ?_)
    refine lv_iload_n hx hb dX1_learnCapacity_19 rfl (lv_at hl 2 rfl) ?_
    refine lv_iload_n hx hb dX1_learnCapacity_20 rfl (lv_at hl 0 rfl) ?_
    refine zr_isub hx hb dX1_learnCapacity_21 ?_
    refine zm_absI hx hb (hml.trans hl.1.symm) hown (hts (.methodLink RX1 196 Lib.Math.abs.name) (List.mem_of_getElem? (i := 2) rfl)) (hts (.static Lib.Math.abs.name) (List.mem_of_getElem? (i := 3) rfl)) (hts (.initialized "java/lang/Math") (List.mem_of_getElem? (i := 4) rfl)) (hts (.code Lib.Math.abs.name Lib.Math.abs.code 1 (some .int)) (List.mem_of_getElem? (i := 5) rfl)) (Nat.le_of_ble_eq_true rfl) (Nat.le_of_ble_eq_true rfl) (Nat.le_of_ble_eq_true rfl) (Nat.le_of_ble_eq_true rfl) dX1_learnCapacity_22 (by omega) ?_
    refine zr_topi (b := zSpan A xs) (by rfl) ?_
    refine lv_istore_n (lv' := [(3, .int (zI (zSpan A xs))), (2, .int (zI (A 49))), (0, .ref (q 0)), (1, .int (zI xs))]) hx hb dX1_learnCapacity_25 rfl hl (by decide) rfl (fun ls hl => ?_)
    refine lv_aload_n hx hb dX1_learnCapacity_26 rfl (lv_at hl 2 rfl) ?_
    refine va_get (D := D) (ci := 1) (v := .long (zL (A 40))) (C := RX1) (T := TX1) (N := 18) hx hb hts hiX1 hown hK hP 0 rfl rfl 10 (by decide) (hts (.fieldLink RX1 68 "ChargeEstimator$Battery" "counted" "J") (List.mem_of_getElem? (i := 6) rfl)) (fun _ h9 => h9) rfl dX1_learnCapacity_27 ?_
    refine zr_lconst0 hx hb dX1_learnCapacity_30 ?_
    refine zr_lcmp_eq (tgt := 66) hx hb dX1_learnCapacity_31 dX1_learnCapacity_32 (by decide) (by omega) (by decide) (fun c2 => ?_) (fun c2 => ?_)
    · refine zr_iconst hx hb dX1_learnCapacity_66 ?_
      refine lv_istore (lv' := [(4, .int (zI 0)), (3, .int (zI (zSpan A xs))), (2, .int (zI (A 49))), (0, .ref (q 0)), (1, .int (zI xs))]) hx hb dX1_learnCapacity_67 hl (by decide) rfl (fun ls hl => ?_)
      refine lv_iload hx hb dX1_learnCapacity_69 (lv_at hl 0 rfl) ?_
      refine zr_if_eq (tgt := 89) hx hb dX1_learnCapacity_71 (by decide) (by decide) (fun c3 => ?_) (fun c3 => ?_)
      · have hP8 : va_P D vwCl (zbat cs q (zLrn A xs)) s.heap := by rw [zLrn_f (by rintro ⟨l1, l2, l3, l4, l5, l6⟩; omega)]; exact hP
        have hP9 : va_P D vwCl (zbat cs q (zLrn A xs)) s.heap := hP8
        have hD9 : va_D A0 (zbat cs q (zLrn A xs)) := zD_addr hD rfl
        subst hAe
        exact W.vret hx hb hr (fun t ht hW => ⟨⟨(), rfl, trivial, by rw [ht]; exact hP9, hD9⟩, hS.F ht⟩) hS.2.2 dX1_learnCapacity_89
      · exact absurd c3 (by decide)
    · refine lv_aload_n hx hb dX1_learnCapacity_35 rfl (lv_at hl 2 rfl) ?_
      refine va_get (D := D) (ci := 1) (v := .long (zL (A 40))) (C := RX1) (T := TX1) (N := 18) hx hb hts hiX1 hown hK hP 0 rfl rfl 10 (by decide) (hts (.fieldLink RX1 68 "ChargeEstimator$Battery" "counted" "J") (List.mem_of_getElem? (i := 6) rfl)) (fun _ h9 => h9) rfl dX1_learnCapacity_36 ?_
      refine zr_lconst0 hx hb dX1_learnCapacity_39 ?_
      refine zr_lcmp_le (tgt := 48) hx hb dX1_learnCapacity_40 dX1_learnCapacity_41 (by decide) (by omega) (by decide) (fun c4 => ?_) (fun c4 => ?_)
      · refine zr_iconst hx hb dX1_learnCapacity_48 ?_
        refine lv_iload_n hx hb dX1_learnCapacity_49 rfl (lv_at hl 3 rfl) ?_
        refine lv_iload_n hx hb dX1_learnCapacity_50 rfl (lv_at hl 1 rfl) ?_
        refine zr_icmp_le (tgt := 58) hx hb dX1_learnCapacity_51 (by decide) (by omega) (by omega) (fun c5 => ?_) (fun c5 => ?_)
        · refine zr_iconst hx hb dX1_learnCapacity_58 ?_
          refine zr_icmp_ne (tgt := 66) hx hb dX1_learnCapacity_59 (by decide) (by decide) (by decide) (fun c6 => ?_) (fun c6 => ?_)
          · exact absurd c6 (by decide)
          · refine zr_iconst hx hb dX1_learnCapacity_62 ?_
            refine lv_goto (tgt := 67) hx hb dX1_learnCapacity_63 (by decide) ?_
            refine lv_istore (lv' := [(4, .int (zI 1)), (3, .int (zI (zSpan A xs))), (2, .int (zI (A 49))), (0, .ref (q 0)), (1, .int (zI xs))]) hx hb dX1_learnCapacity_67 hl (by decide) rfl (fun ls hl => ?_)
            refine lv_iload hx hb dX1_learnCapacity_69 (lv_at hl 0 rfl) ?_
            refine zr_if_eq (tgt := 89) hx hb dX1_learnCapacity_71 (by decide) (by decide) (fun c7 => ?_) (fun c7 => ?_)
            · exact absurd c7 (by decide)
            · refine lv_iload_n hx hb dX1_learnCapacity_74 rfl (lv_at hl 1 rfl) ?_
              refine lv_aload_n hx hb dX1_learnCapacity_75 rfl (lv_at hl 3 rfl) ?_
              refine va_get (D := D) (ci := 1) (v := .ref (q 1)) (C := RX1) (T := TX1) (N := 18) hx hb hts hiX1 hown hK hP 0 rfl rfl 0 (by decide) (hts (.fieldLink RX1 9 "ChargeEstimator$Battery" "settings" "[I") (List.mem_of_getElem? (i := 7) rfl)) (fun _ h9 => h9) rfl dX1_learnCapacity_76 ?_
              refine zr_bipush hx hb dX1_learnCapacity_79 (by decide) ?_
              refine zr_iald (D := D) (g := A) hx hb hK hP 1 0 rfl rfl (by decide) (by decide) dX1_learnCapacity_81 ?_
              refine zr_icmp_lt (tgt := 89) hx hb dX1_learnCapacity_82 (by decide) (by omega) (by omega) (fun c8 => ?_) (fun c8 => ?_)
              · have hP8 : va_P D vwCl (zbat cs q (zLrn A xs)) s.heap := by rw [zLrn_f (by rintro ⟨l1, l2, l3, l4, l5, l6⟩; omega)]; exact hP
                have hP9 : va_P D vwCl (zbat cs q (zLrn A xs)) s.heap := hP8
                have hD9 : va_D A0 (zbat cs q (zLrn A xs)) := zD_addr hD rfl
                subst hAe
                exact W.vret hx hb hr (fun t ht hW => ⟨⟨(), rfl, trivial, by rw [ht]; exact hP9, hD9⟩, hS.F ht⟩) hS.2.2 dX1_learnCapacity_89
              · refine lv_iload_n hx hb dX1_learnCapacity_85 rfl (lv_at hl 1 rfl) ?_
                refine zr_if_gt (tgt := 90) hx hb dX1_learnCapacity_86 (by decide) (by omega) (fun c9 => ?_) (fun c9 => ?_)
                · refine lv_aload_n hx hb dX1_learnCapacity_90 rfl (lv_at hl 3 rfl) ?_
                  refine va_get (D := D) (ci := 1) (v := .long (zL (A 40))) (C := RX1) (T := TX1) (N := 18) hx hb hts hiX1 hown hK hP 0 rfl rfl 10 (by decide) (hts (.fieldLink RX1 68 "ChargeEstimator$Battery" "counted" "J") (List.mem_of_getElem? (i := 6) rfl)) (fun _ h9 => h9) rfl dX1_learnCapacity_91 ?_
                  refine zm_absL hx hb (hml.trans hl.1.symm) hown (hts (.methodLink RX1 181 Lib.MathLoose.abs_long.x) (List.mem_of_getElem? (i := 8) rfl)) (hts (.static Lib.MathLoose.abs_long.x) (List.mem_of_getElem? (i := 9) rfl)) (hts (.initialized "java/lang/Math") (List.mem_of_getElem? (i := 4) rfl)) (hts (.code Lib.MathLoose.abs_long.x Lib.MathLoose.abs_long.code 2 (some .long)) (List.mem_of_getElem? (i := 10) rfl)) (Nat.le_of_ble_eq_true rfl) (Nat.le_of_ble_eq_true rfl) (Nat.le_of_ble_eq_true rfl) (Nat.le_of_ble_eq_true rfl) dX1_learnCapacity_94 (by omega) ?_
                  refine zr_ldc2 (n := 10000) hx hb hown (hts (.constantLong RX1 122 (10000)) (List.mem_of_getElem? (i := 11) rfl)) rfl dX1_learnCapacity_97 ?_
                  refine zr_lmul hx hb dX1_learnCapacity_100 ?_
                  refine lv_iload_n hx hb dX1_learnCapacity_101 rfl (lv_at hl 1 rfl) ?_
                  refine zr_i2l hx hb dX1_learnCapacity_102 (by omega) ?_
                  refine zr_ldiv hx hb dX1_learnCapacity_103 (by omega) (by omega) ?_
                  refine zr_topl (b := zSeen A xs) (by rfl) ?_
                  refine lv_lstore (lv' := [(5, .long (zL (zSeen A xs))), (4, .int (zI 1)), (3, .int (zI (zSpan A xs))), (2, .int (zI (A 49))), (0, .ref (q 0)), (1, .int (zI xs))]) hx hb dX1_learnCapacity_104 hl (by decide) rfl (fun ls hl => ?_)
                  have hse : 0 ≤ zSeen A xs ∧ zSeen A xs ≤ max (A 40) (-A 40) * 10000 := ⟨Int.ediv_nonneg (by omega) (by omega), Int.ediv_le_self _ (by omega)⟩
                  refine lv_lload hx hb dX1_learnCapacity_106 (lv_at hl 0 rfl) ?_
                  refine lv_aload_n hx hb dX1_learnCapacity_108 rfl (lv_at hl 4 rfl) ?_
                  refine va_get (D := D) (ci := 1) (v := .long (zL (A 38))) (C := RX1) (T := TX1) (N := 18) hx hb hts hiX1 hown hK hP 0 rfl rfl 3 (by decide) (hts (.fieldLink RX1 44 "ChargeEstimator$Battery" "nominal" "J") (List.mem_of_getElem? (i := 12) rfl)) (fun _ h9 => h9) rfl dX1_learnCapacity_109 ?_
                  refine zr_ldc2 (n := 2) hx hb hown (hts (.constantLong RX1 51 (2)) (List.mem_of_getElem? (i := 13) rfl)) rfl dX1_learnCapacity_112 ?_
                  refine zr_ldiv hx hb dX1_learnCapacity_115 (by omega) (by decide) ?_
                  refine zr_lcmp_lt (tgt := 138) hx hb dX1_learnCapacity_116 dX1_learnCapacity_117 (by decide) (by omega) (by omega) (fun c10 => ?_) (fun c10 => ?_)
                  · have hP8 : va_P D vwCl (zbat cs q (zLrn A xs)) s.heap := by rw [zLrn_f (by rintro ⟨l1, l2, l3, l4, l5, l6⟩; omega)]; exact hP
                    have hP9 : va_P D vwCl (zbat cs q (zLrn A xs)) s.heap := hP8
                    have hD9 : va_D A0 (zbat cs q (zLrn A xs)) := zD_addr hD rfl
                    subst hAe
                    exact W.vret hx hb hr (fun t ht hW => ⟨⟨(), rfl, trivial, by rw [ht]; exact hP9, hD9⟩, hS.F ht⟩) hS.2.2 dX1_learnCapacity_138
                  · refine lv_lload hx hb dX1_learnCapacity_120 (lv_at hl 0 rfl) ?_
                    refine lv_aload_n hx hb dX1_learnCapacity_122 rfl (lv_at hl 4 rfl) ?_
                    refine va_get (D := D) (ci := 1) (v := .long (zL (A 38))) (C := RX1) (T := TX1) (N := 18) hx hb hts hiX1 hown hK hP 0 rfl rfl 3 (by decide) (hts (.fieldLink RX1 44 "ChargeEstimator$Battery" "nominal" "J") (List.mem_of_getElem? (i := 12) rfl)) (fun _ h9 => h9) rfl dX1_learnCapacity_123 ?_
                    refine zr_ldc2 (n := 3) hx hb hown (hts (.constantLong RX1 214 (3)) (List.mem_of_getElem? (i := 14) rfl)) rfl dX1_learnCapacity_126 ?_
                    refine zr_lmul hx hb dX1_learnCapacity_129 ?_
                    refine zr_ldc2 (n := 2) hx hb hown (hts (.constantLong RX1 51 (2)) (List.mem_of_getElem? (i := 13) rfl)) rfl dX1_learnCapacity_130 ?_
                    refine zr_ldiv hx hb dX1_learnCapacity_133 (by omega) (by decide) ?_
                    refine zr_lcmp_le (tgt := 139) hx hb dX1_learnCapacity_134 dX1_learnCapacity_135 (by decide) (by omega) (by omega) (fun c11 => ?_) (fun c11 => ?_)
                    · have hcp := zCap_r hI (s := xs) (by omega)
                      have hcm := zmul_r (x := zCap A xs) (y := A 3) (a := 108000000) (b := 50) (by omega) (by omega)
                      refine lv_aload_n hx hb dX1_learnCapacity_139 rfl (lv_at hl 4 rfl) ?_
                      refine lv_dup hx hb dX1_learnCapacity_140 rfl ?_
                      refine va_get (D := D) (ci := 1) (v := .long (zL (A 37))) (C := RX1) (T := TX1) (N := 18) hx hb hts hiX1 hown hK hP 0 rfl rfl 4 (by decide) (hts (.fieldLink RX1 48 "ChargeEstimator$Battery" "capacity" "J") (List.mem_of_getElem? (i := 15) rfl)) (fun _ h9 => h9) rfl dX1_learnCapacity_141 ?_
                      refine lv_lload hx hb dX1_learnCapacity_144 (lv_at hl 0 rfl) ?_
                      refine lv_aload_n hx hb dX1_learnCapacity_146 rfl (lv_at hl 4 rfl) ?_
                      refine va_get (D := D) (ci := 1) (v := .long (zL (A 37))) (C := RX1) (T := TX1) (N := 18) hx hb hts hiX1 hown hK hP 0 rfl rfl 4 (by decide) (hts (.fieldLink RX1 48 "ChargeEstimator$Battery" "capacity" "J") (List.mem_of_getElem? (i := 15) rfl)) (fun _ h9 => h9) rfl dX1_learnCapacity_147 ?_
                      refine zr_lsub hx hb dX1_learnCapacity_150 ?_
                      refine zr_ldc2 (n := 4) hx hb hown (hts (.constantLong RX1 216 (4)) (List.mem_of_getElem? (i := 16) rfl)) rfl dX1_learnCapacity_151 ?_
                      refine zc_rl (va_runS (As := [.long (zL ((zSeen A xs) - (A 37))), .long (zL 4)]) (rest := [.long (zL (A 37)), .ref (q 0)]) ⟨hx, hb, hml, hown, hts⟩ (met_J9_floorDiv_f86c9 l ((zSeen A xs) - (A 37)) 4 (by first | assumption | omega) (by first | assumption | omega)) (va_cwS 2 hts gX1_learnCapacity_J9_floorDiv_f86c9 rfl rfl rfl (by decide +kernel) ⟨Nat.le_of_ble_eq_true rfl, Nat.le_of_ble_eq_true rfl⟩) ⟨zTrue.blind, fun U hU hW => ⟨rfl, trivial⟩⟩ rfl rfl hl.1 rfl (lv_room (Nat.le_of_ble_eq_true rfl)) dX1_learnCapacity_154 ⟨Nat.le_of_ble_eq_true rfl, Nat.le_of_ble_eq_true rfl⟩) ?_
                      refine zr_ladd hx hb dX1_learnCapacity_157 ?_
                      refine zr_topl (b := zCap A xs) (by rfl) ?_
                      refine va_put (D := D) (ci := 1) (v := .long (zL (zCap A xs))) (ty := .long) (C := RX1) (T := TX1) (N := 18) hx hb hts hiX1 tyX1 tyX1_ok nmX1 hown hK hP hD hS 0 rfl rfl 4 (by decide) (hts (.fieldLink RX1 48 "ChargeEstimator$Battery" "capacity" "J") (List.mem_of_getElem? (i := 15) rfl)) (fun _ h9 => h9) rfl (by decide +kernel) rfl rfl (Nat.le_of_ble_eq_true rfl) dX1_learnCapacity_158 (fun H locs hP hD hS => ?_)
                      have hP : va_P D vwCl (zbat cs q (zU A 37 (zCap A xs))) H := zbp_37 hP
                      have hD : va_D A0 (zbat cs q (zU A 37 (zCap A xs))) := zD_addr hD rfl
                      refine lv_aload_n hx hb dX1_learnCapacity_161 rfl (lv_at hl 4 rfl) ?_
                      refine lv_dup hx hb dX1_learnCapacity_162 rfl ?_
                      refine va_get (D := D) (ci := 1) (v := .int (zI (A 51))) (C := RX1) (T := TX1) (N := 18) hx hb hts hiX1 hown hK hP 0 rfl rfl 15 (by decide) (hts (.fieldLink RX1 84 "ChargeEstimator$Battery" "learnings" "I") (List.mem_of_getElem? (i := 17) rfl)) (fun _ h9 => h9) rfl dX1_learnCapacity_163 ?_
                      refine zr_iconst hx hb dX1_learnCapacity_166 ?_
                      refine zr_iadd hx hb dX1_learnCapacity_167 ?_
                      refine va_put (D := D) (ci := 1) (v := .int (zI ((A 51) + 1))) (ty := .int) (C := RX1) (T := TX1) (N := 18) hx hb hts hiX1 tyX1 tyX1_ok nmX1 hown hK hP hD hS 0 rfl rfl 15 (by decide) (hts (.fieldLink RX1 84 "ChargeEstimator$Battery" "learnings" "I") (List.mem_of_getElem? (i := 17) rfl)) (fun _ h9 => h9) rfl (by decide +kernel) rfl rfl (Nat.le_of_ble_eq_true rfl) dX1_learnCapacity_168 (fun H locs hP hD hS => ?_)
                      have hP : va_P D vwCl (zbat cs q (zU (zU A 37 (zCap A xs)) 51 ((A 51) + 1))) H := zbp_51 hP
                      have hD : va_D A0 (zbat cs q (zU (zU A 37 (zCap A xs)) 51 ((A 51) + 1))) := zD_addr hD rfl
                      refine lv_aload_n hx hb dX1_learnCapacity_171 rfl (lv_at hl 4 rfl) ?_
                      refine lv_aload_n hx hb dX1_learnCapacity_172 rfl (lv_at hl 4 rfl) ?_
                      refine va_get (D := D) (ci := 1) (v := .long (zL (A 34))) (C := RX1) (T := TX1) (N := 18) hx hb hts hiX1 hown hK hP 0 rfl rfl 5 (by decide) (hts (.fieldLink RX1 53 "ChargeEstimator$Battery" "estimate" "J") (List.mem_of_getElem? (i := 18) rfl)) (fun _ h9 => h9) rfl dX1_learnCapacity_173 ?_
                      refine lv_aload_n hx hb dX1_learnCapacity_176 rfl (lv_at hl 4 rfl) ?_
                      refine va_get (D := D) (ci := 1) (v := .long (zL (zCap A xs))) (C := RX1) (T := TX1) (N := 18) hx hb hts hiX1 hown hK hP 0 rfl rfl 4 (by decide) (hts (.fieldLink RX1 48 "ChargeEstimator$Battery" "capacity" "J") (List.mem_of_getElem? (i := 15) rfl)) (fun _ h9 => h9) rfl dX1_learnCapacity_177 ?_
                      refine zm_minL hx hb (hml.trans hl.1.symm) hown (hts (.methodLink RX1 112 Lib.MathLoose.min_long.x) (List.mem_of_getElem? (i := 19) rfl)) (hts (.static Lib.MathLoose.min_long.x) (List.mem_of_getElem? (i := 20) rfl)) (hts (.initialized "java/lang/Math") (List.mem_of_getElem? (i := 4) rfl)) (hts (.code Lib.MathLoose.min_long.x Lib.MathLoose.min_long.code 4 (some .long)) (List.mem_of_getElem? (i := 21) rfl)) (Nat.le_of_ble_eq_true rfl) (Nat.le_of_ble_eq_true rfl) (Nat.le_of_ble_eq_true rfl) (Nat.le_of_ble_eq_true rfl) dX1_learnCapacity_180 (by omega) (by omega) ?_
                      refine va_put (D := D) (ci := 1) (v := .long (zL (min (A 34) (zCap A xs)))) (ty := .long) (C := RX1) (T := TX1) (N := 18) hx hb hts hiX1 tyX1 tyX1_ok nmX1 hown hK hP hD hS 0 rfl rfl 5 (by decide) (hts (.fieldLink RX1 53 "ChargeEstimator$Battery" "estimate" "J") (List.mem_of_getElem? (i := 18) rfl)) (fun _ h9 => h9) rfl (by decide +kernel) rfl rfl (Nat.le_of_ble_eq_true rfl) dX1_learnCapacity_183 (fun H locs hP hD hS => ?_)
                      have hP : va_P D vwCl (zbat cs q (zU (zU (zU A 37 (zCap A xs)) 51 ((A 51) + 1)) 34 (min (A 34) (zCap A xs)))) H := zbp_34 hP
                      have hD : va_D A0 (zbat cs q (zU (zU (zU A 37 (zCap A xs)) 51 ((A 51) + 1)) 34 (min (A 34) (zCap A xs)))) := zD_addr hD rfl
                      refine lv_aload_n hx hb dX1_learnCapacity_186 rfl (lv_at hl 4 rfl) ?_
                      refine lv_aload_n hx hb dX1_learnCapacity_187 rfl (lv_at hl 4 rfl) ?_
                      refine va_get (D := D) (ci := 1) (v := .long (zL (A 35))) (C := RX1) (T := TX1) (N := 18) hx hb hts hiX1 hown hK hP 0 rfl rfl 6 (by decide) (hts (.fieldLink RX1 56 "ChargeEstimator$Battery" "low" "J") (List.mem_of_getElem? (i := 22) rfl)) (fun _ h9 => h9) rfl dX1_learnCapacity_188 ?_
                      refine lv_aload_n hx hb dX1_learnCapacity_191 rfl (lv_at hl 4 rfl) ?_
                      refine va_get (D := D) (ci := 1) (v := .long (zL (zCap A xs))) (C := RX1) (T := TX1) (N := 18) hx hb hts hiX1 hown hK hP 0 rfl rfl 4 (by decide) (hts (.fieldLink RX1 48 "ChargeEstimator$Battery" "capacity" "J") (List.mem_of_getElem? (i := 15) rfl)) (fun _ h9 => h9) rfl dX1_learnCapacity_192 ?_
                      refine zm_minL hx hb (hml.trans hl.1.symm) hown (hts (.methodLink RX1 112 Lib.MathLoose.min_long.x) (List.mem_of_getElem? (i := 19) rfl)) (hts (.static Lib.MathLoose.min_long.x) (List.mem_of_getElem? (i := 20) rfl)) (hts (.initialized "java/lang/Math") (List.mem_of_getElem? (i := 4) rfl)) (hts (.code Lib.MathLoose.min_long.x Lib.MathLoose.min_long.code 4 (some .long)) (List.mem_of_getElem? (i := 21) rfl)) (Nat.le_of_ble_eq_true rfl) (Nat.le_of_ble_eq_true rfl) (Nat.le_of_ble_eq_true rfl) (Nat.le_of_ble_eq_true rfl) dX1_learnCapacity_195 (by omega) (by omega) ?_
                      refine va_put (D := D) (ci := 1) (v := .long (zL (min (A 35) (zCap A xs)))) (ty := .long) (C := RX1) (T := TX1) (N := 18) hx hb hts hiX1 tyX1 tyX1_ok nmX1 hown hK hP hD hS 0 rfl rfl 6 (by decide) (hts (.fieldLink RX1 56 "ChargeEstimator$Battery" "low" "J") (List.mem_of_getElem? (i := 22) rfl)) (fun _ h9 => h9) rfl (by decide +kernel) rfl rfl (Nat.le_of_ble_eq_true rfl) dX1_learnCapacity_198 (fun H locs hP hD hS => ?_)
                      have hP : va_P D vwCl (zbat cs q (zU (zU (zU (zU A 37 (zCap A xs)) 51 ((A 51) + 1)) 34 (min (A 34) (zCap A xs))) 35 (min (A 35) (zCap A xs)))) H := zbp_35 hP
                      have hD : va_D A0 (zbat cs q (zU (zU (zU (zU A 37 (zCap A xs)) 51 ((A 51) + 1)) 34 (min (A 34) (zCap A xs))) 35 (min (A 35) (zCap A xs)))) := zD_addr hD rfl
                      refine lv_aload_n hx hb dX1_learnCapacity_201 rfl (lv_at hl 4 rfl) ?_
                      refine lv_aload_n hx hb dX1_learnCapacity_202 rfl (lv_at hl 4 rfl) ?_
                      refine va_get (D := D) (ci := 1) (v := .long (zL (A 36))) (C := RX1) (T := TX1) (N := 18) hx hb hts hiX1 hown hK hP 0 rfl rfl 7 (by decide) (hts (.fieldLink RX1 59 "ChargeEstimator$Battery" "high" "J") (List.mem_of_getElem? (i := 23) rfl)) (fun _ h9 => h9) rfl dX1_learnCapacity_203 ?_
                      refine lv_aload_n hx hb dX1_learnCapacity_206 rfl (lv_at hl 4 rfl) ?_
                      refine va_get (D := D) (ci := 1) (v := .long (zL (zCap A xs))) (C := RX1) (T := TX1) (N := 18) hx hb hts hiX1 hown hK hP 0 rfl rfl 4 (by decide) (hts (.fieldLink RX1 48 "ChargeEstimator$Battery" "capacity" "J") (List.mem_of_getElem? (i := 15) rfl)) (fun _ h9 => h9) rfl dX1_learnCapacity_207 ?_
                      refine zm_minL hx hb (hml.trans hl.1.symm) hown (hts (.methodLink RX1 112 Lib.MathLoose.min_long.x) (List.mem_of_getElem? (i := 19) rfl)) (hts (.static Lib.MathLoose.min_long.x) (List.mem_of_getElem? (i := 20) rfl)) (hts (.initialized "java/lang/Math") (List.mem_of_getElem? (i := 4) rfl)) (hts (.code Lib.MathLoose.min_long.x Lib.MathLoose.min_long.code 4 (some .long)) (List.mem_of_getElem? (i := 21) rfl)) (Nat.le_of_ble_eq_true rfl) (Nat.le_of_ble_eq_true rfl) (Nat.le_of_ble_eq_true rfl) (Nat.le_of_ble_eq_true rfl) dX1_learnCapacity_210 (by omega) (by omega) ?_
                      refine va_put (D := D) (ci := 1) (v := .long (zL (min (A 36) (zCap A xs)))) (ty := .long) (C := RX1) (T := TX1) (N := 18) hx hb hts hiX1 tyX1 tyX1_ok nmX1 hown hK hP hD hS 0 rfl rfl 7 (by decide) (hts (.fieldLink RX1 59 "ChargeEstimator$Battery" "high" "J") (List.mem_of_getElem? (i := 23) rfl)) (fun _ h9 => h9) rfl (by decide +kernel) rfl rfl (Nat.le_of_ble_eq_true rfl) dX1_learnCapacity_213 (fun H locs hP hD hS => ?_)
                      have hP : va_P D vwCl (zbat cs q (zU (zU (zU (zU (zU A 37 (zCap A xs)) 51 ((A 51) + 1)) 34 (min (A 34) (zCap A xs))) 35 (min (A 35) (zCap A xs))) 36 (min (A 36) (zCap A xs)))) H := zbp_36 hP
                      have hD : va_D A0 (zbat cs q (zU (zU (zU (zU (zU A 37 (zCap A xs)) 51 ((A 51) + 1)) 34 (min (A 34) (zCap A xs))) 35 (min (A 35) (zCap A xs))) 36 (min (A 36) (zCap A xs)))) := zD_addr hD rfl
                      refine lv_aload_n hx hb dX1_learnCapacity_216 rfl (lv_at hl 4 rfl) ?_
                      refine lv_aload_n hx hb dX1_learnCapacity_217 rfl (lv_at hl 4 rfl) ?_
                      refine va_get (D := D) (ci := 1) (v := .long (zL (A 39))) (C := RX1) (T := TX1) (N := 18) hx hb hts hiX1 hown hK hP 0 rfl rfl 8 (by decide) (hts (.fieldLink RX1 62 "ChargeEstimator$Battery" "hysteresis" "J") (List.mem_of_getElem? (i := 24) rfl)) (fun _ h9 => h9) rfl dX1_learnCapacity_218 ?_
                      refine lv_aload_n hx hb dX1_learnCapacity_221 rfl (lv_at hl 4 rfl) ?_
                      have hwx : zWk (zLrn1 A xs) := ⟨hst, by rw [zLrn1_37]; omega, by rw [zLrn1_35, zLrn1_37]; omega, by rw [zLrn1_36, zLrn1_37]; omega⟩
                      refine zc_rl (va_runV (As := []) (rest := [.long (zL (A 39)), .ref (q 0)]) ⟨hx, hb, hml, hown, hts⟩ (met_X1_hysteresisRange l D cs q (zU (zU (zU (zU (zU A 37 (zCap A xs)) 51 ((A 51) + 1)) 34 (min (A 34) (zCap A xs))) 35 (min (A 35) (zCap A xs))) 36 (min (A 36) (zCap A xs))) (by exact hwx)) (cwV 0 hts gX1_learnCapacity_X1_hysteresisRange rfl rfl rfl (by decide +kernel) ⟨Nat.le_of_ble_eq_true rfl, Nat.le_of_ble_eq_true rfl⟩) ⟨zPre.blind, va_recv hK hP (ci := 1) (q0 := 0) rfl rfl, fun U hU hW => zp_R hP hK hD hN hU hW⟩ rfl rfl hl.1 rfl (lv_room (Nat.le_of_ble_eq_true rfl)) dX1_learnCapacity_222 ⟨Nat.le_of_ble_eq_true rfl, Nat.le_of_ble_eq_true rfl⟩) ?_
                      refine zr_topl (b := zCap A xs * A 3 / 100) (by rfl) ?_
                      refine zm_minL hx hb (hml.trans hl.1.symm) hown (hts (.methodLink RX1 112 Lib.MathLoose.min_long.x) (List.mem_of_getElem? (i := 19) rfl)) (hts (.static Lib.MathLoose.min_long.x) (List.mem_of_getElem? (i := 20) rfl)) (hts (.initialized "java/lang/Math") (List.mem_of_getElem? (i := 4) rfl)) (hts (.code Lib.MathLoose.min_long.x Lib.MathLoose.min_long.code 4 (some .long)) (List.mem_of_getElem? (i := 21) rfl)) (Nat.le_of_ble_eq_true rfl) (Nat.le_of_ble_eq_true rfl) (Nat.le_of_ble_eq_true rfl) (Nat.le_of_ble_eq_true rfl) dX1_learnCapacity_225 (by omega) (by omega) ?_
                      refine va_put (D := D) (ci := 1) (v := .long (zL (min (A 39) (zCap A xs * A 3 / 100)))) (ty := .long) (C := RX1) (T := TX1) (N := 18) hx hb hts hiX1 tyX1 tyX1_ok nmX1 hown hK hP hD hS 0 rfl rfl 8 (by decide) (hts (.fieldLink RX1 62 "ChargeEstimator$Battery" "hysteresis" "J") (List.mem_of_getElem? (i := 24) rfl)) (fun _ h9 => h9) rfl (by decide +kernel) rfl rfl (Nat.le_of_ble_eq_true rfl) dX1_learnCapacity_228 (fun H locs hP hD hS => ?_)
                      have hP : va_P D vwCl (zbat cs q (zU (zU (zU (zU (zU (zU A 37 (zCap A xs)) 51 ((A 51) + 1)) 34 (min (A 34) (zCap A xs))) 35 (min (A 35) (zCap A xs))) 36 (min (A 36) (zCap A xs))) 39 (min (A 39) (zCap A xs * A 3 / 100)))) H := zbp_39 hP
                      have hD : va_D A0 (zbat cs q (zU (zU (zU (zU (zU (zU A 37 (zCap A xs)) 51 ((A 51) + 1)) 34 (min (A 34) (zCap A xs))) 35 (min (A 35) (zCap A xs))) 36 (min (A 36) (zCap A xs))) 39 (min (A 39) (zCap A xs * A 3 / 100)))) := zD_addr hD rfl
                      have hP8 : va_P D vwCl (zbat cs q (zLrn A xs)) H := by rw [zLrn_t (by refine ⟨?_, ?_, ?_, ?_, ?_, ?_⟩ <;> omega)]; exact hP
                      have hP9 : va_P D vwCl (zbat cs q (zLrn A xs)) H := hP8
                      have hD9 : va_D A0 (zbat cs q (zLrn A xs)) := zD_addr hD rfl
                      subst hAe
                      exact W.vret hx hb hr (fun t ht hW => ⟨⟨(), rfl, trivial, by rw [ht]; exact hP9, hD9⟩, hS.F ht⟩) hS.2.2 dX1_learnCapacity_231
                    · have hP8 : va_P D vwCl (zbat cs q (zLrn A xs)) s.heap := by rw [zLrn_f (by rintro ⟨l1, l2, l3, l4, l5, l6⟩; omega)]; exact hP
                      have hP9 : va_P D vwCl (zbat cs q (zLrn A xs)) s.heap := hP8
                      have hD9 : va_D A0 (zbat cs q (zLrn A xs)) := zD_addr hD rfl
                      subst hAe
                      exact W.vret hx hb hr (fun t ht hW => ⟨⟨(), rfl, trivial, by rw [ht]; exact hP9, hD9⟩, hS.F ht⟩) hS.2.2 dX1_learnCapacity_138
                · have hP8 : va_P D vwCl (zbat cs q (zLrn A xs)) s.heap := by rw [zLrn_f (by rintro ⟨l1, l2, l3, l4, l5, l6⟩; omega)]; exact hP
                  have hP9 : va_P D vwCl (zbat cs q (zLrn A xs)) s.heap := hP8
                  have hD9 : va_D A0 (zbat cs q (zLrn A xs)) := zD_addr hD rfl
                  subst hAe
                  exact W.vret hx hb hr (fun t ht hW => ⟨⟨(), rfl, trivial, by rw [ht]; exact hP9, hD9⟩, hS.F ht⟩) hS.2.2 dX1_learnCapacity_89
        · refine zr_iconst hx hb dX1_learnCapacity_54 ?_
          refine lv_goto (tgt := 59) hx hb dX1_learnCapacity_55 (by decide) ?_
          refine zr_icmp_ne (tgt := 66) hx hb dX1_learnCapacity_59 (by decide) (by decide) (by decide) (fun c12 => ?_) (fun c12 => ?_)
          · refine zr_iconst hx hb dX1_learnCapacity_66 ?_
            refine lv_istore (lv' := [(4, .int (zI 0)), (3, .int (zI (zSpan A xs))), (2, .int (zI (A 49))), (0, .ref (q 0)), (1, .int (zI xs))]) hx hb dX1_learnCapacity_67 hl (by decide) rfl (fun ls hl => ?_)
            refine lv_iload hx hb dX1_learnCapacity_69 (lv_at hl 0 rfl) ?_
            refine zr_if_eq (tgt := 89) hx hb dX1_learnCapacity_71 (by decide) (by decide) (fun c13 => ?_) (fun c13 => ?_)
            · have hP8 : va_P D vwCl (zbat cs q (zLrn A xs)) s.heap := by rw [zLrn_f (by rintro ⟨l1, l2, l3, l4, l5, l6⟩; omega)]; exact hP
              have hP9 : va_P D vwCl (zbat cs q (zLrn A xs)) s.heap := hP8
              have hD9 : va_D A0 (zbat cs q (zLrn A xs)) := zD_addr hD rfl
              subst hAe
              exact W.vret hx hb hr (fun t ht hW => ⟨⟨(), rfl, trivial, by rw [ht]; exact hP9, hD9⟩, hS.F ht⟩) hS.2.2 dX1_learnCapacity_89
            · exact absurd c13 (by decide)
          · exact absurd c12 (by decide)
      · refine zr_iconst hx hb dX1_learnCapacity_44 ?_
        refine lv_goto (tgt := 49) hx hb dX1_learnCapacity_45 (by decide) ?_
        refine lv_iload_n hx hb dX1_learnCapacity_49 rfl (lv_at hl 3 rfl) ?_
        refine lv_iload_n hx hb dX1_learnCapacity_50 rfl (lv_at hl 1 rfl) ?_
        refine zr_icmp_le (tgt := 58) hx hb dX1_learnCapacity_51 (by decide) (by omega) (by omega) (fun c14 => ?_) (fun c14 => ?_)
        · refine zr_iconst hx hb dX1_learnCapacity_58 ?_
          refine zr_icmp_ne (tgt := 66) hx hb dX1_learnCapacity_59 (by decide) (by decide) (by decide) (fun c15 => ?_) (fun c15 => ?_)
          · refine zr_iconst hx hb dX1_learnCapacity_66 ?_
            refine lv_istore (lv' := [(4, .int (zI 0)), (3, .int (zI (zSpan A xs))), (2, .int (zI (A 49))), (0, .ref (q 0)), (1, .int (zI xs))]) hx hb dX1_learnCapacity_67 hl (by decide) rfl (fun ls hl => ?_)
            refine lv_iload hx hb dX1_learnCapacity_69 (lv_at hl 0 rfl) ?_
            refine zr_if_eq (tgt := 89) hx hb dX1_learnCapacity_71 (by decide) (by decide) (fun c16 => ?_) (fun c16 => ?_)
            · have hP8 : va_P D vwCl (zbat cs q (zLrn A xs)) s.heap := by rw [zLrn_f (by rintro ⟨l1, l2, l3, l4, l5, l6⟩; omega)]; exact hP
              have hP9 : va_P D vwCl (zbat cs q (zLrn A xs)) s.heap := hP8
              have hD9 : va_D A0 (zbat cs q (zLrn A xs)) := zD_addr hD rfl
              subst hAe
              exact W.vret hx hb hr (fun t ht hW => ⟨⟨(), rfl, trivial, by rw [ht]; exact hP9, hD9⟩, hS.F ht⟩) hS.2.2 dX1_learnCapacity_89
            · exact absurd c16 (by decide)
          · exact absurd c15 (by decide)
        · refine zr_iconst hx hb dX1_learnCapacity_54 ?_
          refine lv_goto (tgt := 59) hx hb dX1_learnCapacity_55 (by decide) ?_
          refine zr_icmp_ne (tgt := 66) hx hb dX1_learnCapacity_59 (by decide) (by decide) (by decide) (fun c17 => ?_) (fun c17 => ?_)
          · exact absurd c17 (by decide)
          · refine zr_iconst hx hb dX1_learnCapacity_62 ?_
            refine lv_goto (tgt := 67) hx hb dX1_learnCapacity_63 (by decide) ?_
            refine lv_istore (lv' := [(4, .int (zI 1)), (3, .int (zI (zSpan A xs))), (2, .int (zI (A 49))), (0, .ref (q 0)), (1, .int (zI xs))]) hx hb dX1_learnCapacity_67 hl (by decide) rfl (fun ls hl => ?_)
            refine lv_iload hx hb dX1_learnCapacity_69 (lv_at hl 0 rfl) ?_
            refine zr_if_eq (tgt := 89) hx hb dX1_learnCapacity_71 (by decide) (by decide) (fun c18 => ?_) (fun c18 => ?_)
            · exact absurd c18 (by decide)
            · refine lv_iload_n hx hb dX1_learnCapacity_74 rfl (lv_at hl 1 rfl) ?_
              refine lv_aload_n hx hb dX1_learnCapacity_75 rfl (lv_at hl 3 rfl) ?_
              refine va_get (D := D) (ci := 1) (v := .ref (q 1)) (C := RX1) (T := TX1) (N := 18) hx hb hts hiX1 hown hK hP 0 rfl rfl 0 (by decide) (hts (.fieldLink RX1 9 "ChargeEstimator$Battery" "settings" "[I") (List.mem_of_getElem? (i := 7) rfl)) (fun _ h9 => h9) rfl dX1_learnCapacity_76 ?_
              refine zr_bipush hx hb dX1_learnCapacity_79 (by decide) ?_
              refine zr_iald (D := D) (g := A) hx hb hK hP 1 0 rfl rfl (by decide) (by decide) dX1_learnCapacity_81 ?_
              refine zr_icmp_lt (tgt := 89) hx hb dX1_learnCapacity_82 (by decide) (by omega) (by omega) (fun c19 => ?_) (fun c19 => ?_)
              · have hP8 : va_P D vwCl (zbat cs q (zLrn A xs)) s.heap := by rw [zLrn_f (by rintro ⟨l1, l2, l3, l4, l5, l6⟩; omega)]; exact hP
                have hP9 : va_P D vwCl (zbat cs q (zLrn A xs)) s.heap := hP8
                have hD9 : va_D A0 (zbat cs q (zLrn A xs)) := zD_addr hD rfl
                subst hAe
                exact W.vret hx hb hr (fun t ht hW => ⟨⟨(), rfl, trivial, by rw [ht]; exact hP9, hD9⟩, hS.F ht⟩) hS.2.2 dX1_learnCapacity_89
              · refine lv_iload_n hx hb dX1_learnCapacity_85 rfl (lv_at hl 1 rfl) ?_
                refine zr_if_gt (tgt := 90) hx hb dX1_learnCapacity_86 (by decide) (by omega) (fun c20 => ?_) (fun c20 => ?_)
                · refine lv_aload_n hx hb dX1_learnCapacity_90 rfl (lv_at hl 3 rfl) ?_
                  refine va_get (D := D) (ci := 1) (v := .long (zL (A 40))) (C := RX1) (T := TX1) (N := 18) hx hb hts hiX1 hown hK hP 0 rfl rfl 10 (by decide) (hts (.fieldLink RX1 68 "ChargeEstimator$Battery" "counted" "J") (List.mem_of_getElem? (i := 6) rfl)) (fun _ h9 => h9) rfl dX1_learnCapacity_91 ?_
                  refine zm_absL hx hb (hml.trans hl.1.symm) hown (hts (.methodLink RX1 181 Lib.MathLoose.abs_long.x) (List.mem_of_getElem? (i := 8) rfl)) (hts (.static Lib.MathLoose.abs_long.x) (List.mem_of_getElem? (i := 9) rfl)) (hts (.initialized "java/lang/Math") (List.mem_of_getElem? (i := 4) rfl)) (hts (.code Lib.MathLoose.abs_long.x Lib.MathLoose.abs_long.code 2 (some .long)) (List.mem_of_getElem? (i := 10) rfl)) (Nat.le_of_ble_eq_true rfl) (Nat.le_of_ble_eq_true rfl) (Nat.le_of_ble_eq_true rfl) (Nat.le_of_ble_eq_true rfl) dX1_learnCapacity_94 (by omega) ?_
                  refine zr_ldc2 (n := 10000) hx hb hown (hts (.constantLong RX1 122 (10000)) (List.mem_of_getElem? (i := 11) rfl)) rfl dX1_learnCapacity_97 ?_
                  refine zr_lmul hx hb dX1_learnCapacity_100 ?_
                  refine lv_iload_n hx hb dX1_learnCapacity_101 rfl (lv_at hl 1 rfl) ?_
                  refine zr_i2l hx hb dX1_learnCapacity_102 (by omega) ?_
                  refine zr_ldiv hx hb dX1_learnCapacity_103 (by omega) (by omega) ?_
                  refine zr_topl (b := zSeen A xs) (by rfl) ?_
                  refine lv_lstore (lv' := [(5, .long (zL (zSeen A xs))), (4, .int (zI 1)), (3, .int (zI (zSpan A xs))), (2, .int (zI (A 49))), (0, .ref (q 0)), (1, .int (zI xs))]) hx hb dX1_learnCapacity_104 hl (by decide) rfl (fun ls hl => ?_)
                  have hse : 0 ≤ zSeen A xs ∧ zSeen A xs ≤ max (A 40) (-A 40) * 10000 := ⟨Int.ediv_nonneg (by omega) (by omega), Int.ediv_le_self _ (by omega)⟩
                  refine lv_lload hx hb dX1_learnCapacity_106 (lv_at hl 0 rfl) ?_
                  refine lv_aload_n hx hb dX1_learnCapacity_108 rfl (lv_at hl 4 rfl) ?_
                  refine va_get (D := D) (ci := 1) (v := .long (zL (A 38))) (C := RX1) (T := TX1) (N := 18) hx hb hts hiX1 hown hK hP 0 rfl rfl 3 (by decide) (hts (.fieldLink RX1 44 "ChargeEstimator$Battery" "nominal" "J") (List.mem_of_getElem? (i := 12) rfl)) (fun _ h9 => h9) rfl dX1_learnCapacity_109 ?_
                  refine zr_ldc2 (n := 2) hx hb hown (hts (.constantLong RX1 51 (2)) (List.mem_of_getElem? (i := 13) rfl)) rfl dX1_learnCapacity_112 ?_
                  refine zr_ldiv hx hb dX1_learnCapacity_115 (by omega) (by decide) ?_
                  refine zr_lcmp_lt (tgt := 138) hx hb dX1_learnCapacity_116 dX1_learnCapacity_117 (by decide) (by omega) (by omega) (fun c21 => ?_) (fun c21 => ?_)
                  · have hP8 : va_P D vwCl (zbat cs q (zLrn A xs)) s.heap := by rw [zLrn_f (by rintro ⟨l1, l2, l3, l4, l5, l6⟩; omega)]; exact hP
                    have hP9 : va_P D vwCl (zbat cs q (zLrn A xs)) s.heap := hP8
                    have hD9 : va_D A0 (zbat cs q (zLrn A xs)) := zD_addr hD rfl
                    subst hAe
                    exact W.vret hx hb hr (fun t ht hW => ⟨⟨(), rfl, trivial, by rw [ht]; exact hP9, hD9⟩, hS.F ht⟩) hS.2.2 dX1_learnCapacity_138
                  · refine lv_lload hx hb dX1_learnCapacity_120 (lv_at hl 0 rfl) ?_
                    refine lv_aload_n hx hb dX1_learnCapacity_122 rfl (lv_at hl 4 rfl) ?_
                    refine va_get (D := D) (ci := 1) (v := .long (zL (A 38))) (C := RX1) (T := TX1) (N := 18) hx hb hts hiX1 hown hK hP 0 rfl rfl 3 (by decide) (hts (.fieldLink RX1 44 "ChargeEstimator$Battery" "nominal" "J") (List.mem_of_getElem? (i := 12) rfl)) (fun _ h9 => h9) rfl dX1_learnCapacity_123 ?_
                    refine zr_ldc2 (n := 3) hx hb hown (hts (.constantLong RX1 214 (3)) (List.mem_of_getElem? (i := 14) rfl)) rfl dX1_learnCapacity_126 ?_
                    refine zr_lmul hx hb dX1_learnCapacity_129 ?_
                    refine zr_ldc2 (n := 2) hx hb hown (hts (.constantLong RX1 51 (2)) (List.mem_of_getElem? (i := 13) rfl)) rfl dX1_learnCapacity_130 ?_
                    refine zr_ldiv hx hb dX1_learnCapacity_133 (by omega) (by decide) ?_
                    refine zr_lcmp_le (tgt := 139) hx hb dX1_learnCapacity_134 dX1_learnCapacity_135 (by decide) (by omega) (by omega) (fun c22 => ?_) (fun c22 => ?_)
                    · have hcp := zCap_r hI (s := xs) (by omega)
                      have hcm := zmul_r (x := zCap A xs) (y := A 3) (a := 108000000) (b := 50) (by omega) (by omega)
                      refine lv_aload_n hx hb dX1_learnCapacity_139 rfl (lv_at hl 4 rfl) ?_
                      refine lv_dup hx hb dX1_learnCapacity_140 rfl ?_
                      refine va_get (D := D) (ci := 1) (v := .long (zL (A 37))) (C := RX1) (T := TX1) (N := 18) hx hb hts hiX1 hown hK hP 0 rfl rfl 4 (by decide) (hts (.fieldLink RX1 48 "ChargeEstimator$Battery" "capacity" "J") (List.mem_of_getElem? (i := 15) rfl)) (fun _ h9 => h9) rfl dX1_learnCapacity_141 ?_
                      refine lv_lload hx hb dX1_learnCapacity_144 (lv_at hl 0 rfl) ?_
                      refine lv_aload_n hx hb dX1_learnCapacity_146 rfl (lv_at hl 4 rfl) ?_
                      refine va_get (D := D) (ci := 1) (v := .long (zL (A 37))) (C := RX1) (T := TX1) (N := 18) hx hb hts hiX1 hown hK hP 0 rfl rfl 4 (by decide) (hts (.fieldLink RX1 48 "ChargeEstimator$Battery" "capacity" "J") (List.mem_of_getElem? (i := 15) rfl)) (fun _ h9 => h9) rfl dX1_learnCapacity_147 ?_
                      refine zr_lsub hx hb dX1_learnCapacity_150 ?_
                      refine zr_ldc2 (n := 4) hx hb hown (hts (.constantLong RX1 216 (4)) (List.mem_of_getElem? (i := 16) rfl)) rfl dX1_learnCapacity_151 ?_
                      refine zc_rl (va_runS (As := [.long (zL ((zSeen A xs) - (A 37))), .long (zL 4)]) (rest := [.long (zL (A 37)), .ref (q 0)]) ⟨hx, hb, hml, hown, hts⟩ (met_J9_floorDiv_f86c9 l ((zSeen A xs) - (A 37)) 4 (by first | assumption | omega) (by first | assumption | omega)) (va_cwS 2 hts gX1_learnCapacity_J9_floorDiv_f86c9 rfl rfl rfl (by decide +kernel) ⟨Nat.le_of_ble_eq_true rfl, Nat.le_of_ble_eq_true rfl⟩) ⟨zTrue.blind, fun U hU hW => ⟨rfl, trivial⟩⟩ rfl rfl hl.1 rfl (lv_room (Nat.le_of_ble_eq_true rfl)) dX1_learnCapacity_154 ⟨Nat.le_of_ble_eq_true rfl, Nat.le_of_ble_eq_true rfl⟩) ?_
                      refine zr_ladd hx hb dX1_learnCapacity_157 ?_
                      refine zr_topl (b := zCap A xs) (by rfl) ?_
                      refine va_put (D := D) (ci := 1) (v := .long (zL (zCap A xs))) (ty := .long) (C := RX1) (T := TX1) (N := 18) hx hb hts hiX1 tyX1 tyX1_ok nmX1 hown hK hP hD hS 0 rfl rfl 4 (by decide) (hts (.fieldLink RX1 48 "ChargeEstimator$Battery" "capacity" "J") (List.mem_of_getElem? (i := 15) rfl)) (fun _ h9 => h9) rfl (by decide +kernel) rfl rfl (Nat.le_of_ble_eq_true rfl) dX1_learnCapacity_158 (fun H locs hP hD hS => ?_)
                      have hP : va_P D vwCl (zbat cs q (zU A 37 (zCap A xs))) H := zbp_37 hP
                      have hD : va_D A0 (zbat cs q (zU A 37 (zCap A xs))) := zD_addr hD rfl
                      refine lv_aload_n hx hb dX1_learnCapacity_161 rfl (lv_at hl 4 rfl) ?_
                      refine lv_dup hx hb dX1_learnCapacity_162 rfl ?_
                      refine va_get (D := D) (ci := 1) (v := .int (zI (A 51))) (C := RX1) (T := TX1) (N := 18) hx hb hts hiX1 hown hK hP 0 rfl rfl 15 (by decide) (hts (.fieldLink RX1 84 "ChargeEstimator$Battery" "learnings" "I") (List.mem_of_getElem? (i := 17) rfl)) (fun _ h9 => h9) rfl dX1_learnCapacity_163 ?_
                      refine zr_iconst hx hb dX1_learnCapacity_166 ?_
                      refine zr_iadd hx hb dX1_learnCapacity_167 ?_
                      refine va_put (D := D) (ci := 1) (v := .int (zI ((A 51) + 1))) (ty := .int) (C := RX1) (T := TX1) (N := 18) hx hb hts hiX1 tyX1 tyX1_ok nmX1 hown hK hP hD hS 0 rfl rfl 15 (by decide) (hts (.fieldLink RX1 84 "ChargeEstimator$Battery" "learnings" "I") (List.mem_of_getElem? (i := 17) rfl)) (fun _ h9 => h9) rfl (by decide +kernel) rfl rfl (Nat.le_of_ble_eq_true rfl) dX1_learnCapacity_168 (fun H locs hP hD hS => ?_)
                      have hP : va_P D vwCl (zbat cs q (zU (zU A 37 (zCap A xs)) 51 ((A 51) + 1))) H := zbp_51 hP
                      have hD : va_D A0 (zbat cs q (zU (zU A 37 (zCap A xs)) 51 ((A 51) + 1))) := zD_addr hD rfl
                      refine lv_aload_n hx hb dX1_learnCapacity_171 rfl (lv_at hl 4 rfl) ?_
                      refine lv_aload_n hx hb dX1_learnCapacity_172 rfl (lv_at hl 4 rfl) ?_
                      refine va_get (D := D) (ci := 1) (v := .long (zL (A 34))) (C := RX1) (T := TX1) (N := 18) hx hb hts hiX1 hown hK hP 0 rfl rfl 5 (by decide) (hts (.fieldLink RX1 53 "ChargeEstimator$Battery" "estimate" "J") (List.mem_of_getElem? (i := 18) rfl)) (fun _ h9 => h9) rfl dX1_learnCapacity_173 ?_
                      refine lv_aload_n hx hb dX1_learnCapacity_176 rfl (lv_at hl 4 rfl) ?_
                      refine va_get (D := D) (ci := 1) (v := .long (zL (zCap A xs))) (C := RX1) (T := TX1) (N := 18) hx hb hts hiX1 hown hK hP 0 rfl rfl 4 (by decide) (hts (.fieldLink RX1 48 "ChargeEstimator$Battery" "capacity" "J") (List.mem_of_getElem? (i := 15) rfl)) (fun _ h9 => h9) rfl dX1_learnCapacity_177 ?_
                      refine zm_minL hx hb (hml.trans hl.1.symm) hown (hts (.methodLink RX1 112 Lib.MathLoose.min_long.x) (List.mem_of_getElem? (i := 19) rfl)) (hts (.static Lib.MathLoose.min_long.x) (List.mem_of_getElem? (i := 20) rfl)) (hts (.initialized "java/lang/Math") (List.mem_of_getElem? (i := 4) rfl)) (hts (.code Lib.MathLoose.min_long.x Lib.MathLoose.min_long.code 4 (some .long)) (List.mem_of_getElem? (i := 21) rfl)) (Nat.le_of_ble_eq_true rfl) (Nat.le_of_ble_eq_true rfl) (Nat.le_of_ble_eq_true rfl) (Nat.le_of_ble_eq_true rfl) dX1_learnCapacity_180 (by omega) (by omega) ?_
                      refine va_put (D := D) (ci := 1) (v := .long (zL (min (A 34) (zCap A xs)))) (ty := .long) (C := RX1) (T := TX1) (N := 18) hx hb hts hiX1 tyX1 tyX1_ok nmX1 hown hK hP hD hS 0 rfl rfl 5 (by decide) (hts (.fieldLink RX1 53 "ChargeEstimator$Battery" "estimate" "J") (List.mem_of_getElem? (i := 18) rfl)) (fun _ h9 => h9) rfl (by decide +kernel) rfl rfl (Nat.le_of_ble_eq_true rfl) dX1_learnCapacity_183 (fun H locs hP hD hS => ?_)
                      have hP : va_P D vwCl (zbat cs q (zU (zU (zU A 37 (zCap A xs)) 51 ((A 51) + 1)) 34 (min (A 34) (zCap A xs)))) H := zbp_34 hP
                      have hD : va_D A0 (zbat cs q (zU (zU (zU A 37 (zCap A xs)) 51 ((A 51) + 1)) 34 (min (A 34) (zCap A xs)))) := zD_addr hD rfl
                      refine lv_aload_n hx hb dX1_learnCapacity_186 rfl (lv_at hl 4 rfl) ?_
                      refine lv_aload_n hx hb dX1_learnCapacity_187 rfl (lv_at hl 4 rfl) ?_
                      refine va_get (D := D) (ci := 1) (v := .long (zL (A 35))) (C := RX1) (T := TX1) (N := 18) hx hb hts hiX1 hown hK hP 0 rfl rfl 6 (by decide) (hts (.fieldLink RX1 56 "ChargeEstimator$Battery" "low" "J") (List.mem_of_getElem? (i := 22) rfl)) (fun _ h9 => h9) rfl dX1_learnCapacity_188 ?_
                      refine lv_aload_n hx hb dX1_learnCapacity_191 rfl (lv_at hl 4 rfl) ?_
                      refine va_get (D := D) (ci := 1) (v := .long (zL (zCap A xs))) (C := RX1) (T := TX1) (N := 18) hx hb hts hiX1 hown hK hP 0 rfl rfl 4 (by decide) (hts (.fieldLink RX1 48 "ChargeEstimator$Battery" "capacity" "J") (List.mem_of_getElem? (i := 15) rfl)) (fun _ h9 => h9) rfl dX1_learnCapacity_192 ?_
                      refine zm_minL hx hb (hml.trans hl.1.symm) hown (hts (.methodLink RX1 112 Lib.MathLoose.min_long.x) (List.mem_of_getElem? (i := 19) rfl)) (hts (.static Lib.MathLoose.min_long.x) (List.mem_of_getElem? (i := 20) rfl)) (hts (.initialized "java/lang/Math") (List.mem_of_getElem? (i := 4) rfl)) (hts (.code Lib.MathLoose.min_long.x Lib.MathLoose.min_long.code 4 (some .long)) (List.mem_of_getElem? (i := 21) rfl)) (Nat.le_of_ble_eq_true rfl) (Nat.le_of_ble_eq_true rfl) (Nat.le_of_ble_eq_true rfl) (Nat.le_of_ble_eq_true rfl) dX1_learnCapacity_195 (by omega) (by omega) ?_
                      refine va_put (D := D) (ci := 1) (v := .long (zL (min (A 35) (zCap A xs)))) (ty := .long) (C := RX1) (T := TX1) (N := 18) hx hb hts hiX1 tyX1 tyX1_ok nmX1 hown hK hP hD hS 0 rfl rfl 6 (by decide) (hts (.fieldLink RX1 56 "ChargeEstimator$Battery" "low" "J") (List.mem_of_getElem? (i := 22) rfl)) (fun _ h9 => h9) rfl (by decide +kernel) rfl rfl (Nat.le_of_ble_eq_true rfl) dX1_learnCapacity_198 (fun H locs hP hD hS => ?_)
                      have hP : va_P D vwCl (zbat cs q (zU (zU (zU (zU A 37 (zCap A xs)) 51 ((A 51) + 1)) 34 (min (A 34) (zCap A xs))) 35 (min (A 35) (zCap A xs)))) H := zbp_35 hP
                      have hD : va_D A0 (zbat cs q (zU (zU (zU (zU A 37 (zCap A xs)) 51 ((A 51) + 1)) 34 (min (A 34) (zCap A xs))) 35 (min (A 35) (zCap A xs)))) := zD_addr hD rfl
                      refine lv_aload_n hx hb dX1_learnCapacity_201 rfl (lv_at hl 4 rfl) ?_
                      refine lv_aload_n hx hb dX1_learnCapacity_202 rfl (lv_at hl 4 rfl) ?_
                      refine va_get (D := D) (ci := 1) (v := .long (zL (A 36))) (C := RX1) (T := TX1) (N := 18) hx hb hts hiX1 hown hK hP 0 rfl rfl 7 (by decide) (hts (.fieldLink RX1 59 "ChargeEstimator$Battery" "high" "J") (List.mem_of_getElem? (i := 23) rfl)) (fun _ h9 => h9) rfl dX1_learnCapacity_203 ?_
                      refine lv_aload_n hx hb dX1_learnCapacity_206 rfl (lv_at hl 4 rfl) ?_
                      refine va_get (D := D) (ci := 1) (v := .long (zL (zCap A xs))) (C := RX1) (T := TX1) (N := 18) hx hb hts hiX1 hown hK hP 0 rfl rfl 4 (by decide) (hts (.fieldLink RX1 48 "ChargeEstimator$Battery" "capacity" "J") (List.mem_of_getElem? (i := 15) rfl)) (fun _ h9 => h9) rfl dX1_learnCapacity_207 ?_
                      refine zm_minL hx hb (hml.trans hl.1.symm) hown (hts (.methodLink RX1 112 Lib.MathLoose.min_long.x) (List.mem_of_getElem? (i := 19) rfl)) (hts (.static Lib.MathLoose.min_long.x) (List.mem_of_getElem? (i := 20) rfl)) (hts (.initialized "java/lang/Math") (List.mem_of_getElem? (i := 4) rfl)) (hts (.code Lib.MathLoose.min_long.x Lib.MathLoose.min_long.code 4 (some .long)) (List.mem_of_getElem? (i := 21) rfl)) (Nat.le_of_ble_eq_true rfl) (Nat.le_of_ble_eq_true rfl) (Nat.le_of_ble_eq_true rfl) (Nat.le_of_ble_eq_true rfl) dX1_learnCapacity_210 (by omega) (by omega) ?_
                      refine va_put (D := D) (ci := 1) (v := .long (zL (min (A 36) (zCap A xs)))) (ty := .long) (C := RX1) (T := TX1) (N := 18) hx hb hts hiX1 tyX1 tyX1_ok nmX1 hown hK hP hD hS 0 rfl rfl 7 (by decide) (hts (.fieldLink RX1 59 "ChargeEstimator$Battery" "high" "J") (List.mem_of_getElem? (i := 23) rfl)) (fun _ h9 => h9) rfl (by decide +kernel) rfl rfl (Nat.le_of_ble_eq_true rfl) dX1_learnCapacity_213 (fun H locs hP hD hS => ?_)
                      have hP : va_P D vwCl (zbat cs q (zU (zU (zU (zU (zU A 37 (zCap A xs)) 51 ((A 51) + 1)) 34 (min (A 34) (zCap A xs))) 35 (min (A 35) (zCap A xs))) 36 (min (A 36) (zCap A xs)))) H := zbp_36 hP
                      have hD : va_D A0 (zbat cs q (zU (zU (zU (zU (zU A 37 (zCap A xs)) 51 ((A 51) + 1)) 34 (min (A 34) (zCap A xs))) 35 (min (A 35) (zCap A xs))) 36 (min (A 36) (zCap A xs)))) := zD_addr hD rfl
                      refine lv_aload_n hx hb dX1_learnCapacity_216 rfl (lv_at hl 4 rfl) ?_
                      refine lv_aload_n hx hb dX1_learnCapacity_217 rfl (lv_at hl 4 rfl) ?_
                      refine va_get (D := D) (ci := 1) (v := .long (zL (A 39))) (C := RX1) (T := TX1) (N := 18) hx hb hts hiX1 hown hK hP 0 rfl rfl 8 (by decide) (hts (.fieldLink RX1 62 "ChargeEstimator$Battery" "hysteresis" "J") (List.mem_of_getElem? (i := 24) rfl)) (fun _ h9 => h9) rfl dX1_learnCapacity_218 ?_
                      refine lv_aload_n hx hb dX1_learnCapacity_221 rfl (lv_at hl 4 rfl) ?_
                      have hwx : zWk (zLrn1 A xs) := ⟨hst, by rw [zLrn1_37]; omega, by rw [zLrn1_35, zLrn1_37]; omega, by rw [zLrn1_36, zLrn1_37]; omega⟩
                      refine zc_rl (va_runV (As := []) (rest := [.long (zL (A 39)), .ref (q 0)]) ⟨hx, hb, hml, hown, hts⟩ (met_X1_hysteresisRange l D cs q (zU (zU (zU (zU (zU A 37 (zCap A xs)) 51 ((A 51) + 1)) 34 (min (A 34) (zCap A xs))) 35 (min (A 35) (zCap A xs))) 36 (min (A 36) (zCap A xs))) (by exact hwx)) (cwV 0 hts gX1_learnCapacity_X1_hysteresisRange rfl rfl rfl (by decide +kernel) ⟨Nat.le_of_ble_eq_true rfl, Nat.le_of_ble_eq_true rfl⟩) ⟨zPre.blind, va_recv hK hP (ci := 1) (q0 := 0) rfl rfl, fun U hU hW => zp_R hP hK hD hN hU hW⟩ rfl rfl hl.1 rfl (lv_room (Nat.le_of_ble_eq_true rfl)) dX1_learnCapacity_222 ⟨Nat.le_of_ble_eq_true rfl, Nat.le_of_ble_eq_true rfl⟩) ?_
                      refine zr_topl (b := zCap A xs * A 3 / 100) (by rfl) ?_
                      refine zm_minL hx hb (hml.trans hl.1.symm) hown (hts (.methodLink RX1 112 Lib.MathLoose.min_long.x) (List.mem_of_getElem? (i := 19) rfl)) (hts (.static Lib.MathLoose.min_long.x) (List.mem_of_getElem? (i := 20) rfl)) (hts (.initialized "java/lang/Math") (List.mem_of_getElem? (i := 4) rfl)) (hts (.code Lib.MathLoose.min_long.x Lib.MathLoose.min_long.code 4 (some .long)) (List.mem_of_getElem? (i := 21) rfl)) (Nat.le_of_ble_eq_true rfl) (Nat.le_of_ble_eq_true rfl) (Nat.le_of_ble_eq_true rfl) (Nat.le_of_ble_eq_true rfl) dX1_learnCapacity_225 (by omega) (by omega) ?_
                      refine va_put (D := D) (ci := 1) (v := .long (zL (min (A 39) (zCap A xs * A 3 / 100)))) (ty := .long) (C := RX1) (T := TX1) (N := 18) hx hb hts hiX1 tyX1 tyX1_ok nmX1 hown hK hP hD hS 0 rfl rfl 8 (by decide) (hts (.fieldLink RX1 62 "ChargeEstimator$Battery" "hysteresis" "J") (List.mem_of_getElem? (i := 24) rfl)) (fun _ h9 => h9) rfl (by decide +kernel) rfl rfl (Nat.le_of_ble_eq_true rfl) dX1_learnCapacity_228 (fun H locs hP hD hS => ?_)
                      have hP : va_P D vwCl (zbat cs q (zU (zU (zU (zU (zU (zU A 37 (zCap A xs)) 51 ((A 51) + 1)) 34 (min (A 34) (zCap A xs))) 35 (min (A 35) (zCap A xs))) 36 (min (A 36) (zCap A xs))) 39 (min (A 39) (zCap A xs * A 3 / 100)))) H := zbp_39 hP
                      have hD : va_D A0 (zbat cs q (zU (zU (zU (zU (zU (zU A 37 (zCap A xs)) 51 ((A 51) + 1)) 34 (min (A 34) (zCap A xs))) 35 (min (A 35) (zCap A xs))) 36 (min (A 36) (zCap A xs))) 39 (min (A 39) (zCap A xs * A 3 / 100)))) := zD_addr hD rfl
                      have hP8 : va_P D vwCl (zbat cs q (zLrn A xs)) H := by rw [zLrn_t (by refine ⟨?_, ?_, ?_, ?_, ?_, ?_⟩ <;> omega)]; exact hP
                      have hP9 : va_P D vwCl (zbat cs q (zLrn A xs)) H := hP8
                      have hD9 : va_D A0 (zbat cs q (zLrn A xs)) := zD_addr hD rfl
                      subst hAe
                      exact W.vret hx hb hr (fun t ht hW => ⟨⟨(), rfl, trivial, by rw [ht]; exact hP9, hD9⟩, hS.F ht⟩) hS.2.2 dX1_learnCapacity_231
                    · have hP8 : va_P D vwCl (zbat cs q (zLrn A xs)) s.heap := by rw [zLrn_f (by rintro ⟨l1, l2, l3, l4, l5, l6⟩; omega)]; exact hP
                      have hP9 : va_P D vwCl (zbat cs q (zLrn A xs)) s.heap := hP8
                      have hD9 : va_D A0 (zbat cs q (zLrn A xs)) := zD_addr hD rfl
                      subst hAe
                      exact W.vret hx hb hr (fun t ht hW => ⟨⟨(), rfl, trivial, by rw [ht]; exact hP9, hD9⟩, hS.F ht⟩) hS.2.2 dX1_learnCapacity_138
                · have hP8 : va_P D vwCl (zbat cs q (zLrn A xs)) s.heap := by rw [zLrn_f (by rintro ⟨l1, l2, l3, l4, l5, l6⟩; omega)]; exact hP
                  have hP9 : va_P D vwCl (zbat cs q (zLrn A xs)) s.heap := hP8
                  have hD9 : va_D A0 (zbat cs q (zLrn A xs)) := zD_addr hD rfl
                  subst hAe
                  exact W.vret hx hb hr (fun t ht hW => ⟨⟨(), rfl, trivial, by rw [ht]; exact hP9, hD9⟩, hS.F ht⟩) hS.2.2 dX1_learnCapacity_89
  · have hP8 : va_P D vwCl (zbat cs q (zLrn A xs)) s.heap := by rw [zLrn_f (by rintro ⟨l1, l2, l3, l4, l5, l6⟩; omega)]; exact hP
    have hP9 : va_P D vwCl (zbat cs q (zLrn A xs)) s.heap := hP8
    have hD9 : va_D A0 (zbat cs q (zLrn A xs)) := zD_addr hD rfl
    subst hAe
    exact W.vret hx hb hr (fun t ht hW => ⟨⟨(), rfl, trivial, by rw [ht]; exact hP9, hD9⟩, hS.F ht⟩) hS.2.2 dX1_learnCapacity_10
