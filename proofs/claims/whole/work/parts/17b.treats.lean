/-! the reference: a measurement -/
set_option maxHeartbeats 20000000 in
set_option maxRecDepth 100000 in
theorem met_X6_treats (l : Launch) (D : va_G) (cs : Nat → ClassId) (o : Nat → Nat) (sz : Nat) (A S T : Int → Int) (xsm xth xam : Int) (f : Int → Int) (xtl xpl : Int) (g : Int → Int) (n : Int) (xi xv xt : Int) (hI : zOK n A) (hn : 0 ≤ n ∧ n ≤ 3100000) (kn9 : n ≤ 3099900) (kxi : -50000 ≤ xi ∧ xi ≤ 50000) (kxv : 0 ≤ xv ∧ xv ≤ 6000) (kxt : 1 ≤ xt ∧ xt ≤ 600) : Met l yX6_treats wsX6_treats ({ frames := 4, cells := 0, slots := 0, locals := 100 }) (va_Pc [.ref (o 0), .long (zL xi), .long (zL xv), .long (zL xt)] (zPreZ D (zTy cs) (zmod cs o A S T xsm xth xam f xtl xpl g) sz)) (zQi D (zmod cs o A S T xsm xth xam f xtl xpl g) sz (zI (zBits A xi xv xt)) (zmod cs o (zTr A xi xv xt) S T xsm xth (xam + zMany A xi xv xt) f xtl xpl g)) 0 0 (va_A (zmod cs o A S T xsm xth xam f xtl xpl g) sz) := by
  refine Met.ofW (cc := cX6_treats) (maxL := 18) (ret := (some .int)) (by decide) rfl ?_
  intro p e s m args below meth c s₁ B hml hv
  obtain ⟨rfl, hsz, hP, hK, hD0, hN⟩ := hv
  have hx := B.exec
  have hb := B.bytes
  have hr := B.returns
  have hts := atoms_spec (ws := wsX6_treats) B.pre
  have hown : s.vm.findClass RX6 = some m.cls := findClass_of_methodNamed B.named
  have hlocks := B.notSynchronized
  subst hsz
  obtain ⟨A0, hAe⟩ : ∃ A0, A0 = va_A (zmod cs o A S T xsm xth xam f xtl xpl g) s.heap.size := ⟨_, rfl⟩
  have hD := hD0.self (sz := s.heap.size)
  rw [← hAe] at hD
  have hA : ∀ q : Nat, s.heap.size ≤ q → A0 q := fun q h => by rw [hAe]; exact Or.inr h
  have hS : va_S A0 s.heap s.heap [] := va_S.rf
  have hP : va_P D vwCl (zmod cs o A S T xsm xth xam f xtl xpl g) s.heap := hP
  have hl := lv_entry ([.ref (o 0), .long (zL xi), .long (zL xv), .long (zL xt)]) (n := 18) (Nat.le_of_ble_eq_true rfl)
  rw [lg_entry_eq]
  generalize (lg_sl ([.ref (o 0), .long (zL xi), .long (zL xv), .long (zL xt)]) ++ List.replicate (18 - (lg_sl ([.ref (o 0), .long (zL xi), .long (zL xv), .long (zL xt)])).length) Slot.unset).toArray = ls at hl ⊢
  have hl : lv_has ls 18 [(0, .ref (o 0)), (1, .long (zL xi)), (3, .long (zL xv)), (5, .long (zL xt))] := hl
  have hiX6 : ∀ w ∈ wsX60, w ∈ wsX6_treats := by decide +kernel
  have hw := zOK_w hI
  have hc1 := zOK_cnt hI kxi kxt
  have h2 := zOK_T2 (v := xv) hI kxi kxt
  have h3 := zOK_T3 (v := xv) hI (by omega) kxi kxt
  have h4 := zOK_T4 (v := xv) hI (by omega) kxi kxt
  have h5 := zOK_T5 (v := xv) hI (by omega) kxi kxt
  have e6 : zT2 A xi xv xt 6 = zCnt A xi xt 6 := rfl
  have J_444 : ∀ (xb : Int) (xm : Int) (jb : xb = zI_f (zP1 A xi xv xt) 1 0 + zI_f (zP2 A xi xv xt) 2 0) (jm : xm = xam + zI_f (zP1 A xi xv xt) 1 0 + zI_f (zP2 A xi xv xt) 1 0) (H : Heap) (locs : List Loc) (hP : va_P D vwCl (zmod cs o (zT5 A xi xv xt) S T xsm xth xm f xtl xpl g) H) (hD : va_D A0 (zmod cs o (zT5 A xi xv xt) S T xsm xth xm f xtl xpl g)) (hS : va_S A0 s.heap H locs) (ls : Array Slot) (hl : lv_has ls 18 [(0, .ref (o 0)), (1, .long (zL xi)), (3, .long (zL xv)), (5, .long (zL xt)), (11, .int (zI xb))]), W p l e (headSpec wsX6_treats ({ frames := 4, cells := 0, slots := 0, locals := 100 })).room s m ([.ref (o 0), .long (zL xi), .long (zL xv), .long (zL xt)] : List Value).toArray below meth c H locs 0 0 (MQ below (zQi D (zmod cs o A S T xsm xth xam f xtl xpl g) s.heap.size (zI (zBits A xi xv xt)) (zmod cs o (zTr A xi xv xt) S T xsm xth (xam + zMany A xi xv xt) f xtl xpl g)) ([.ref (o 0), .long (zL xi), .long (zL xv), .long (zL xt)] : List Value).toArray s 0 0 (va_A (zmod cs o A S T xsm xth xam f xtl xpl g) s.heap.size)) (F0 m 444 ls []) := by
    intro xb xm jb jm H locs hP hD hS ls hl
    have t10 := (zOK_s h5).2.2.2.2.2.2.2.2.2.2.1
    have t47 := (zOK_q h5).2.2.2.2.2.2.2.2.2.2.2.2.1
    refine lv_lload_n hx hb dX6_treats_444 rfl (lv_at hl 1 rfl) ?_
    refine zr_lconst0 hx hb dX6_treats_445 ?_
    refine zr_lcmp_ge (tgt := 466) hx hb dX6_treats_446 dX6_treats_447 (by decide) (by omega) (by decide) (fun c1 => ?_) (fun c1 => ?_)
    · refine zr_iconst hx hb dX6_treats_466 ?_
      refine lv_istore (lv' := [(17, .int (zI 0)), (0, .ref (o 0)), (1, .long (zL xi)), (3, .long (zL xv)), (5, .long (zL xt)), (11, .int (zI xb))]) hx hb dX6_treats_467 hl (by decide) rfl (fun ls hl => ?_)
      refine lv_iload hx hb dX6_treats_469 (lv_at hl 0 rfl) ?_
      refine zr_if_eq (tgt := 497) hx hb dX6_treats_471 (by decide) (by decide) (fun c2 => ?_) (fun c2 => ?_)
      · have hP : va_P D vwCl (zmod cs o (zT6 A xi xv xt) S T xsm xth xm f xtl xpl g) H := by first | (rw [zT6_t (by unfold zP3 zEmpties; omega)]; exact hP) | (rw [zT6_f (by unfold zP3 zEmpties; omega)]; exact hP)
        have hD : va_D A0 (zmod cs o (zT6 A xi xv xt) S T xsm xth xm f xtl xpl g) := zD_addr hD rfl
        refine lv_aload_n hx hb dX6_treats_497 rfl (lv_at hl 1 rfl) ?_
        refine va_get (D := D) (ci := 6) (v := .ref (o 1)) (C := RX6) (T := TX6) (N := 10) hx hb hts hiX6 hown hK hP 0 rfl rfl 0 (by decide) (hts (.fieldLink RX6 7 "ChargeEstimatorModel" "all" "[J") (List.mem_of_getElem? (i := 1) rfl)) (fun _ h9 => h9) rfl dX6_treats_498 ?_
        refine zr_bipush hx hb dX6_treats_501 (by decide) ?_
        refine lv_iload hx hb dX6_treats_503 (lv_at hl 0 rfl) ?_
        refine zr_if_eq (tgt := 512) hx hb dX6_treats_505 (by decide) (by decide) (fun c3 => ?_) (fun c3 => ?_)
        · refine zr_lconst0 hx hb dX6_treats_512 ?_
          refine zr_topl (b := zI_f (zEmpties (zT5 A xi xv xt) xi xv) 1 0) (by first | rw [zI_ft (by unfold zEmpties; omega)] | rw [zI_ff (by unfold zEmpties; omega)]) ?_
          refine zr_last (D := D) (g := zT6 A xi xv xt) hx hb hK hP hD hS 1 2 rfl rfl (by decide) (by decide) dX6_treats_513 (fun H locs hP hD hS => ?_)
          have hP : va_P D vwCl (zmod cs o (zU (zT6 A xi xv xt) 47 (zI_f (zEmpties (zT5 A xi xv xt) xi xv) 1 0)) S T xsm xth xm f xtl xpl g) H := hP
          have hD : va_D A0 (zmod cs o (zU (zT6 A xi xv xt) 47 (zI_f (zEmpties (zT5 A xi xv xt) xi xv) 1 0)) S T xsm xth xm f xtl xpl g) := zD_addr hD rfl
          refine lv_aload_n hx hb dX6_treats_514 rfl (lv_at hl 1 rfl) ?_
          refine va_get (D := D) (ci := 6) (v := .ref (o 1)) (C := RX6) (T := TX6) (N := 10) hx hb hts hiX6 hown hK hP 0 rfl rfl 0 (by decide) (hts (.fieldLink RX6 7 "ChargeEstimatorModel" "all" "[J") (List.mem_of_getElem? (i := 1) rfl)) (fun _ h9 => h9) rfl dX6_treats_515 ?_
          refine zr_bipush hx hb dX6_treats_518 (by decide) ?_
          refine zr_lconst1 hx hb dX6_treats_520 ?_
          refine zr_last (D := D) (g := zU (zT6 A xi xv xt) 47 (zI_f (zEmpties (zT5 A xi xv xt) xi xv) 1 0)) hx hb hK hP hD hS 1 2 rfl rfl (by decide) (by decide) dX6_treats_521 (fun H locs hP hD hS => ?_)
          have hP : va_P D vwCl (zmod cs o (zU (zU (zT6 A xi xv xt) 47 (zI_f (zEmpties (zT5 A xi xv xt) xi xv) 1 0)) 45 1) S T xsm xth xm f xtl xpl g) H := hP
          have hD : va_D A0 (zmod cs o (zU (zU (zT6 A xi xv xt) 47 (zI_f (zEmpties (zT5 A xi xv xt) xi xv) 1 0)) 45 1) S T xsm xth xm f xtl xpl g) := zD_addr hD rfl
          refine lv_aload_n hx hb dX6_treats_522 rfl (lv_at hl 1 rfl) ?_
          refine va_get (D := D) (ci := 6) (v := .ref (o 1)) (C := RX6) (T := TX6) (N := 10) hx hb hts hiX6 hown hK hP 0 rfl rfl 0 (by decide) (hts (.fieldLink RX6 7 "ChargeEstimatorModel" "all" "[J") (List.mem_of_getElem? (i := 1) rfl)) (fun _ h9 => h9) rfl dX6_treats_523 ?_
          refine zr_bipush hx hb dX6_treats_526 (by decide) ?_
          refine lv_lload_n hx hb dX6_treats_528 rfl (lv_at hl 3 rfl) ?_
          refine zr_last (D := D) (g := zU (zU (zT6 A xi xv xt) 47 (zI_f (zEmpties (zT5 A xi xv xt) xi xv) 1 0)) 45 1) hx hb hK hP hD hS 1 2 rfl rfl (by decide) (by decide) dX6_treats_529 (fun H locs hP hD hS => ?_)
          have hP : va_P D vwCl (zmod cs o (zU (zU (zU (zT6 A xi xv xt) 47 (zI_f (zEmpties (zT5 A xi xv xt) xi xv) 1 0)) 45 1) 46 xv) S T xsm xth xm f xtl xpl g) H := hP
          have hD : va_D A0 (zmod cs o (zU (zU (zU (zT6 A xi xv xt) 47 (zI_f (zEmpties (zT5 A xi xv xt) xi xv) 1 0)) 45 1) 46 xv) S T xsm xth xm f xtl xpl g) := zD_addr hD rfl
          refine lv_iload hx hb dX6_treats_530 (lv_at hl 5 rfl) ?_
          have hP8 : va_P D vwCl (zmod cs o (zTr A xi xv xt) S T xsm xth (xam + zMany A xi xv xt) f xtl xpl g) H := by unfold zMany; first | (rw [zI_ft (P := zP3 A xi xv xt) (by unfold zP3 zEmpties; omega), ← Int.add_assoc, ← Int.add_assoc, ← jm]; exact hP) | (rw [zI_ff (P := zP3 A xi xv xt) (by unfold zP3 zEmpties; omega), Int.add_zero, ← Int.add_assoc, ← jm]; exact hP)
          have hP9 : va_P D vwCl (zmod cs o (zTr A xi xv xt) S T xsm xth (xam + zMany A xi xv xt) f xtl xpl g) H := hP8
          have hD9 : va_D A0 (zmod cs o (zTr A xi xv xt) S T xsm xth (xam + zMany A xi xv xt) f xtl xpl g) := zD_addr hD rfl
          subst hAe
          exact W.iret hx hb hr (fun t ht hW => ⟨⟨_, (), rfl, (congrArg zI (show xb = zBits A xi xv xt from by unfold zBits; first | (rw [zI_ft (P := zP3 A xi xv xt) (by unfold zP3 zEmpties; omega)]; omega) | (rw [zI_ff (P := zP3 A xi xv xt) (by unfold zP3 zEmpties; omega)]; omega))), by rw [ht]; exact hP9, hD9⟩, hS.F ht⟩) hS.2.2 dX6_treats_532
        · exact absurd c3 (by decide)
      · exact absurd c2 (by decide)
    · refine lv_lload_n hx hb dX6_treats_450 rfl (lv_at hl 2 rfl) ?_
      refine lv_aload_n hx hb dX6_treats_451 rfl (lv_at hl 0 rfl) ?_
      refine va_get (D := D) (ci := 6) (v := .ref (o 1)) (C := RX6) (T := TX6) (N := 10) hx hb hts hiX6 hown hK hP 0 rfl rfl 0 (by decide) (hts (.fieldLink RX6 7 "ChargeEstimatorModel" "all" "[J") (List.mem_of_getElem? (i := 1) rfl)) (fun _ h9 => h9) rfl dX6_treats_452 ?_
      refine zr_bipush hx hb dX6_treats_455 (by decide) ?_
      refine zr_lald (D := D) (g := zT5 A xi xv xt) hx hb hK hP 1 2 rfl rfl (by decide) (by decide) dX6_treats_457 ?_
      refine zr_lcmp_gt (tgt := 466) hx hb dX6_treats_458 dX6_treats_459 (by decide) (by omega) (by omega) (fun c4 => ?_) (fun c4 => ?_)
      · refine zr_iconst hx hb dX6_treats_466 ?_
        refine lv_istore (lv' := [(17, .int (zI 0)), (0, .ref (o 0)), (1, .long (zL xi)), (3, .long (zL xv)), (5, .long (zL xt)), (11, .int (zI xb))]) hx hb dX6_treats_467 hl (by decide) rfl (fun ls hl => ?_)
        refine lv_iload hx hb dX6_treats_469 (lv_at hl 0 rfl) ?_
        refine zr_if_eq (tgt := 497) hx hb dX6_treats_471 (by decide) (by decide) (fun c5 => ?_) (fun c5 => ?_)
        · have hP : va_P D vwCl (zmod cs o (zT6 A xi xv xt) S T xsm xth xm f xtl xpl g) H := by first | (rw [zT6_t (by unfold zP3 zEmpties; omega)]; exact hP) | (rw [zT6_f (by unfold zP3 zEmpties; omega)]; exact hP)
          have hD : va_D A0 (zmod cs o (zT6 A xi xv xt) S T xsm xth xm f xtl xpl g) := zD_addr hD rfl
          refine lv_aload_n hx hb dX6_treats_497 rfl (lv_at hl 1 rfl) ?_
          refine va_get (D := D) (ci := 6) (v := .ref (o 1)) (C := RX6) (T := TX6) (N := 10) hx hb hts hiX6 hown hK hP 0 rfl rfl 0 (by decide) (hts (.fieldLink RX6 7 "ChargeEstimatorModel" "all" "[J") (List.mem_of_getElem? (i := 1) rfl)) (fun _ h9 => h9) rfl dX6_treats_498 ?_
          refine zr_bipush hx hb dX6_treats_501 (by decide) ?_
          refine lv_iload hx hb dX6_treats_503 (lv_at hl 0 rfl) ?_
          refine zr_if_eq (tgt := 512) hx hb dX6_treats_505 (by decide) (by decide) (fun c6 => ?_) (fun c6 => ?_)
          · refine zr_lconst0 hx hb dX6_treats_512 ?_
            refine zr_topl (b := zI_f (zEmpties (zT5 A xi xv xt) xi xv) 1 0) (by first | rw [zI_ft (by unfold zEmpties; omega)] | rw [zI_ff (by unfold zEmpties; omega)]) ?_
            refine zr_last (D := D) (g := zT6 A xi xv xt) hx hb hK hP hD hS 1 2 rfl rfl (by decide) (by decide) dX6_treats_513 (fun H locs hP hD hS => ?_)
            have hP : va_P D vwCl (zmod cs o (zU (zT6 A xi xv xt) 47 (zI_f (zEmpties (zT5 A xi xv xt) xi xv) 1 0)) S T xsm xth xm f xtl xpl g) H := hP
            have hD : va_D A0 (zmod cs o (zU (zT6 A xi xv xt) 47 (zI_f (zEmpties (zT5 A xi xv xt) xi xv) 1 0)) S T xsm xth xm f xtl xpl g) := zD_addr hD rfl
            refine lv_aload_n hx hb dX6_treats_514 rfl (lv_at hl 1 rfl) ?_
            refine va_get (D := D) (ci := 6) (v := .ref (o 1)) (C := RX6) (T := TX6) (N := 10) hx hb hts hiX6 hown hK hP 0 rfl rfl 0 (by decide) (hts (.fieldLink RX6 7 "ChargeEstimatorModel" "all" "[J") (List.mem_of_getElem? (i := 1) rfl)) (fun _ h9 => h9) rfl dX6_treats_515 ?_
            refine zr_bipush hx hb dX6_treats_518 (by decide) ?_
            refine zr_lconst1 hx hb dX6_treats_520 ?_
            refine zr_last (D := D) (g := zU (zT6 A xi xv xt) 47 (zI_f (zEmpties (zT5 A xi xv xt) xi xv) 1 0)) hx hb hK hP hD hS 1 2 rfl rfl (by decide) (by decide) dX6_treats_521 (fun H locs hP hD hS => ?_)
            have hP : va_P D vwCl (zmod cs o (zU (zU (zT6 A xi xv xt) 47 (zI_f (zEmpties (zT5 A xi xv xt) xi xv) 1 0)) 45 1) S T xsm xth xm f xtl xpl g) H := hP
            have hD : va_D A0 (zmod cs o (zU (zU (zT6 A xi xv xt) 47 (zI_f (zEmpties (zT5 A xi xv xt) xi xv) 1 0)) 45 1) S T xsm xth xm f xtl xpl g) := zD_addr hD rfl
            refine lv_aload_n hx hb dX6_treats_522 rfl (lv_at hl 1 rfl) ?_
            refine va_get (D := D) (ci := 6) (v := .ref (o 1)) (C := RX6) (T := TX6) (N := 10) hx hb hts hiX6 hown hK hP 0 rfl rfl 0 (by decide) (hts (.fieldLink RX6 7 "ChargeEstimatorModel" "all" "[J") (List.mem_of_getElem? (i := 1) rfl)) (fun _ h9 => h9) rfl dX6_treats_523 ?_
            refine zr_bipush hx hb dX6_treats_526 (by decide) ?_
            refine lv_lload_n hx hb dX6_treats_528 rfl (lv_at hl 3 rfl) ?_
            refine zr_last (D := D) (g := zU (zU (zT6 A xi xv xt) 47 (zI_f (zEmpties (zT5 A xi xv xt) xi xv) 1 0)) 45 1) hx hb hK hP hD hS 1 2 rfl rfl (by decide) (by decide) dX6_treats_529 (fun H locs hP hD hS => ?_)
            have hP : va_P D vwCl (zmod cs o (zU (zU (zU (zT6 A xi xv xt) 47 (zI_f (zEmpties (zT5 A xi xv xt) xi xv) 1 0)) 45 1) 46 xv) S T xsm xth xm f xtl xpl g) H := hP
            have hD : va_D A0 (zmod cs o (zU (zU (zU (zT6 A xi xv xt) 47 (zI_f (zEmpties (zT5 A xi xv xt) xi xv) 1 0)) 45 1) 46 xv) S T xsm xth xm f xtl xpl g) := zD_addr hD rfl
            refine lv_iload hx hb dX6_treats_530 (lv_at hl 5 rfl) ?_
            have hP8 : va_P D vwCl (zmod cs o (zTr A xi xv xt) S T xsm xth (xam + zMany A xi xv xt) f xtl xpl g) H := by unfold zMany; first | (rw [zI_ft (P := zP3 A xi xv xt) (by unfold zP3 zEmpties; omega), ← Int.add_assoc, ← Int.add_assoc, ← jm]; exact hP) | (rw [zI_ff (P := zP3 A xi xv xt) (by unfold zP3 zEmpties; omega), Int.add_zero, ← Int.add_assoc, ← jm]; exact hP)
            have hP9 : va_P D vwCl (zmod cs o (zTr A xi xv xt) S T xsm xth (xam + zMany A xi xv xt) f xtl xpl g) H := hP8
            have hD9 : va_D A0 (zmod cs o (zTr A xi xv xt) S T xsm xth (xam + zMany A xi xv xt) f xtl xpl g) := zD_addr hD rfl
            subst hAe
            exact W.iret hx hb hr (fun t ht hW => ⟨⟨_, (), rfl, (congrArg zI (show xb = zBits A xi xv xt from by unfold zBits; first | (rw [zI_ft (P := zP3 A xi xv xt) (by unfold zP3 zEmpties; omega)]; omega) | (rw [zI_ff (P := zP3 A xi xv xt) (by unfold zP3 zEmpties; omega)]; omega))), by rw [ht]; exact hP9, hD9⟩, hS.F ht⟩) hS.2.2 dX6_treats_532
          · exact absurd c6 (by decide)
        · exact absurd c5 (by decide)
      · refine zr_iconst hx hb dX6_treats_462 ?_
        refine lv_goto (tgt := 467) hx hb dX6_treats_463 (by decide) ?_
        refine lv_istore (lv' := [(17, .int (zI 1)), (0, .ref (o 0)), (1, .long (zL xi)), (3, .long (zL xv)), (5, .long (zL xt)), (11, .int (zI xb))]) hx hb dX6_treats_467 hl (by decide) rfl (fun ls hl => ?_)
        refine lv_iload hx hb dX6_treats_469 (lv_at hl 0 rfl) ?_
        refine zr_if_eq (tgt := 497) hx hb dX6_treats_471 (by decide) (by decide) (fun c7 => ?_) (fun c7 => ?_)
        · exact absurd c7 (by decide)
        · refine lv_aload_n hx hb dX6_treats_474 rfl (lv_at hl 1 rfl) ?_
          refine va_get (D := D) (ci := 6) (v := .ref (o 1)) (C := RX6) (T := TX6) (N := 10) hx hb hts hiX6 hown hK hP 0 rfl rfl 0 (by decide) (hts (.fieldLink RX6 7 "ChargeEstimatorModel" "all" "[J") (List.mem_of_getElem? (i := 1) rfl)) (fun _ h9 => h9) rfl dX6_treats_475 ?_
          refine zr_bipush hx hb dX6_treats_478 (by decide) ?_
          refine zr_lald (D := D) (g := zT5 A xi xv xt) hx hb hK hP 1 2 rfl rfl (by decide) (by decide) dX6_treats_480 ?_
          refine zr_lconst0 hx hb dX6_treats_481 ?_
          refine zr_lcmp_ne (tgt := 497) hx hb dX6_treats_482 dX6_treats_483 (by decide) (by omega) (by decide) (fun c8 => ?_) (fun c8 => ?_)
          · have hP : va_P D vwCl (zmod cs o (zT6 A xi xv xt) S T xsm xth xm f xtl xpl g) H := by first | (rw [zT6_t (by unfold zP3 zEmpties; omega)]; exact hP) | (rw [zT6_f (by unfold zP3 zEmpties; omega)]; exact hP)
            have hD : va_D A0 (zmod cs o (zT6 A xi xv xt) S T xsm xth xm f xtl xpl g) := zD_addr hD rfl
            refine lv_aload_n hx hb dX6_treats_497 rfl (lv_at hl 1 rfl) ?_
            refine va_get (D := D) (ci := 6) (v := .ref (o 1)) (C := RX6) (T := TX6) (N := 10) hx hb hts hiX6 hown hK hP 0 rfl rfl 0 (by decide) (hts (.fieldLink RX6 7 "ChargeEstimatorModel" "all" "[J") (List.mem_of_getElem? (i := 1) rfl)) (fun _ h9 => h9) rfl dX6_treats_498 ?_
            refine zr_bipush hx hb dX6_treats_501 (by decide) ?_
            refine lv_iload hx hb dX6_treats_503 (lv_at hl 0 rfl) ?_
            refine zr_if_eq (tgt := 512) hx hb dX6_treats_505 (by decide) (by decide) (fun c9 => ?_) (fun c9 => ?_)
            · exact absurd c9 (by decide)
            · refine zr_lconst1 hx hb dX6_treats_508 ?_
              refine lv_goto (tgt := 513) hx hb dX6_treats_509 (by decide) ?_
              refine zr_topl (b := zI_f (zEmpties (zT5 A xi xv xt) xi xv) 1 0) (by first | rw [zI_ft (by unfold zEmpties; omega)] | rw [zI_ff (by unfold zEmpties; omega)]) ?_
              refine zr_last (D := D) (g := zT6 A xi xv xt) hx hb hK hP hD hS 1 2 rfl rfl (by decide) (by decide) dX6_treats_513 (fun H locs hP hD hS => ?_)
              have hP : va_P D vwCl (zmod cs o (zU (zT6 A xi xv xt) 47 (zI_f (zEmpties (zT5 A xi xv xt) xi xv) 1 0)) S T xsm xth xm f xtl xpl g) H := hP
              have hD : va_D A0 (zmod cs o (zU (zT6 A xi xv xt) 47 (zI_f (zEmpties (zT5 A xi xv xt) xi xv) 1 0)) S T xsm xth xm f xtl xpl g) := zD_addr hD rfl
              refine lv_aload_n hx hb dX6_treats_514 rfl (lv_at hl 1 rfl) ?_
              refine va_get (D := D) (ci := 6) (v := .ref (o 1)) (C := RX6) (T := TX6) (N := 10) hx hb hts hiX6 hown hK hP 0 rfl rfl 0 (by decide) (hts (.fieldLink RX6 7 "ChargeEstimatorModel" "all" "[J") (List.mem_of_getElem? (i := 1) rfl)) (fun _ h9 => h9) rfl dX6_treats_515 ?_
              refine zr_bipush hx hb dX6_treats_518 (by decide) ?_
              refine zr_lconst1 hx hb dX6_treats_520 ?_
              refine zr_last (D := D) (g := zU (zT6 A xi xv xt) 47 (zI_f (zEmpties (zT5 A xi xv xt) xi xv) 1 0)) hx hb hK hP hD hS 1 2 rfl rfl (by decide) (by decide) dX6_treats_521 (fun H locs hP hD hS => ?_)
              have hP : va_P D vwCl (zmod cs o (zU (zU (zT6 A xi xv xt) 47 (zI_f (zEmpties (zT5 A xi xv xt) xi xv) 1 0)) 45 1) S T xsm xth xm f xtl xpl g) H := hP
              have hD : va_D A0 (zmod cs o (zU (zU (zT6 A xi xv xt) 47 (zI_f (zEmpties (zT5 A xi xv xt) xi xv) 1 0)) 45 1) S T xsm xth xm f xtl xpl g) := zD_addr hD rfl
              refine lv_aload_n hx hb dX6_treats_522 rfl (lv_at hl 1 rfl) ?_
              refine va_get (D := D) (ci := 6) (v := .ref (o 1)) (C := RX6) (T := TX6) (N := 10) hx hb hts hiX6 hown hK hP 0 rfl rfl 0 (by decide) (hts (.fieldLink RX6 7 "ChargeEstimatorModel" "all" "[J") (List.mem_of_getElem? (i := 1) rfl)) (fun _ h9 => h9) rfl dX6_treats_523 ?_
              refine zr_bipush hx hb dX6_treats_526 (by decide) ?_
              refine lv_lload_n hx hb dX6_treats_528 rfl (lv_at hl 3 rfl) ?_
              refine zr_last (D := D) (g := zU (zU (zT6 A xi xv xt) 47 (zI_f (zEmpties (zT5 A xi xv xt) xi xv) 1 0)) 45 1) hx hb hK hP hD hS 1 2 rfl rfl (by decide) (by decide) dX6_treats_529 (fun H locs hP hD hS => ?_)
              have hP : va_P D vwCl (zmod cs o (zU (zU (zU (zT6 A xi xv xt) 47 (zI_f (zEmpties (zT5 A xi xv xt) xi xv) 1 0)) 45 1) 46 xv) S T xsm xth xm f xtl xpl g) H := hP
              have hD : va_D A0 (zmod cs o (zU (zU (zU (zT6 A xi xv xt) 47 (zI_f (zEmpties (zT5 A xi xv xt) xi xv) 1 0)) 45 1) 46 xv) S T xsm xth xm f xtl xpl g) := zD_addr hD rfl
              refine lv_iload hx hb dX6_treats_530 (lv_at hl 5 rfl) ?_
              have hP8 : va_P D vwCl (zmod cs o (zTr A xi xv xt) S T xsm xth (xam + zMany A xi xv xt) f xtl xpl g) H := by unfold zMany; first | (rw [zI_ft (P := zP3 A xi xv xt) (by unfold zP3 zEmpties; omega), ← Int.add_assoc, ← Int.add_assoc, ← jm]; exact hP) | (rw [zI_ff (P := zP3 A xi xv xt) (by unfold zP3 zEmpties; omega), Int.add_zero, ← Int.add_assoc, ← jm]; exact hP)
              have hP9 : va_P D vwCl (zmod cs o (zTr A xi xv xt) S T xsm xth (xam + zMany A xi xv xt) f xtl xpl g) H := hP8
              have hD9 : va_D A0 (zmod cs o (zTr A xi xv xt) S T xsm xth (xam + zMany A xi xv xt) f xtl xpl g) := zD_addr hD rfl
              subst hAe
              exact W.iret hx hb hr (fun t ht hW => ⟨⟨_, (), rfl, (congrArg zI (show xb = zBits A xi xv xt from by unfold zBits; first | (rw [zI_ft (P := zP3 A xi xv xt) (by unfold zP3 zEmpties; omega)]; omega) | (rw [zI_ff (P := zP3 A xi xv xt) (by unfold zP3 zEmpties; omega)]; omega))), by rw [ht]; exact hP9, hD9⟩, hS.F ht⟩) hS.2.2 dX6_treats_532
          · refine zr_iinc (kk := 5) (lv' := [(11, .int (zI (xb + 4))), (17, .int (zI 1)), (0, .ref (o 0)), (1, .long (zL xi)), (3, .long (zL xv)), (5, .long (zL xt))]) hx hb dX6_treats_486 hl rfl (by decide) rfl (fun ls hl => ?_)
            refine lv_aload_n hx hb dX6_treats_489 rfl (lv_at hl 2 rfl) ?_
            refine zr_iconst hx hb dX6_treats_490 ?_
            refine zr_lconst0 hx hb dX6_treats_491 ?_
            refine zr_lconst0 hx hb dX6_treats_492 ?_
            refine zr_lconst0 hx hb dX6_treats_493 ?_
            refine zc_v (va_runV (As := [.int (zI 2), .long (zL 0), .long (zL 0), .long (zL 0)]) (rest := []) ⟨hx, hb, hml, hown, hts⟩ (met_X6_anchored l D cs o H.size (zT5 A xi xv xt) S T xsm xth xm f xtl xpl g _ 2 0 0 0 (by exact h5) (by omega) (by first | assumption | omega) (by first | assumption | omega) (by first | assumption | omega) (by first | assumption | omega)) (cwV 4 hts gX6_treats_X6_anchored rfl rfl rfl (by decide +kernel) ⟨Nat.le_of_ble_eq_true rfl, Nat.le_of_ble_eq_true rfl⟩) ⟨zPreZ.blind, va_recv hK hP (ci := 6) (q0 := 0) rfl rfl, fun U hU hW => zp_Z hP hK hD hN hU hW⟩ rfl rfl hl.1 rfl (lv_room (Nat.le_of_ble_eq_true rfl)) dX6_treats_494 ⟨Nat.le_of_ble_eq_true rfl, Nat.le_of_ble_eq_true rfl⟩) hS hD hA (fun H locs hP hD hS => ?_)
            have hP : va_P D vwCl (zmod cs o (zT6 A xi xv xt) S T xsm xth (xm + 1) f xtl xpl g) H := by first | (rw [zT6_t (by unfold zP3 zEmpties; omega)]; exact hP) | (rw [zT6_f (by unfold zP3 zEmpties; omega)]; exact hP)
            have hD : va_D A0 (zmod cs o (zT6 A xi xv xt) S T xsm xth (xm + 1) f xtl xpl g) := zD_addr hD rfl
            refine lv_aload_n hx hb dX6_treats_497 rfl (lv_at hl 2 rfl) ?_
            refine va_get (D := D) (ci := 6) (v := .ref (o 1)) (C := RX6) (T := TX6) (N := 10) hx hb hts hiX6 hown hK hP 0 rfl rfl 0 (by decide) (hts (.fieldLink RX6 7 "ChargeEstimatorModel" "all" "[J") (List.mem_of_getElem? (i := 1) rfl)) (fun _ h9 => h9) rfl dX6_treats_498 ?_
            refine zr_bipush hx hb dX6_treats_501 (by decide) ?_
            refine lv_iload hx hb dX6_treats_503 (lv_at hl 1 rfl) ?_
            refine zr_if_eq (tgt := 512) hx hb dX6_treats_505 (by decide) (by decide) (fun c10 => ?_) (fun c10 => ?_)
            · exact absurd c10 (by decide)
            · refine zr_lconst1 hx hb dX6_treats_508 ?_
              refine lv_goto (tgt := 513) hx hb dX6_treats_509 (by decide) ?_
              refine zr_topl (b := zI_f (zEmpties (zT5 A xi xv xt) xi xv) 1 0) (by first | rw [zI_ft (by unfold zEmpties; omega)] | rw [zI_ff (by unfold zEmpties; omega)]) ?_
              refine zr_last (D := D) (g := zT6 A xi xv xt) hx hb hK hP hD hS 1 2 rfl rfl (by decide) (by decide) dX6_treats_513 (fun H locs hP hD hS => ?_)
              have hP : va_P D vwCl (zmod cs o (zU (zT6 A xi xv xt) 47 (zI_f (zEmpties (zT5 A xi xv xt) xi xv) 1 0)) S T xsm xth (xm + 1) f xtl xpl g) H := hP
              have hD : va_D A0 (zmod cs o (zU (zT6 A xi xv xt) 47 (zI_f (zEmpties (zT5 A xi xv xt) xi xv) 1 0)) S T xsm xth (xm + 1) f xtl xpl g) := zD_addr hD rfl
              refine lv_aload_n hx hb dX6_treats_514 rfl (lv_at hl 2 rfl) ?_
              refine va_get (D := D) (ci := 6) (v := .ref (o 1)) (C := RX6) (T := TX6) (N := 10) hx hb hts hiX6 hown hK hP 0 rfl rfl 0 (by decide) (hts (.fieldLink RX6 7 "ChargeEstimatorModel" "all" "[J") (List.mem_of_getElem? (i := 1) rfl)) (fun _ h9 => h9) rfl dX6_treats_515 ?_
              refine zr_bipush hx hb dX6_treats_518 (by decide) ?_
              refine zr_lconst1 hx hb dX6_treats_520 ?_
              refine zr_last (D := D) (g := zU (zT6 A xi xv xt) 47 (zI_f (zEmpties (zT5 A xi xv xt) xi xv) 1 0)) hx hb hK hP hD hS 1 2 rfl rfl (by decide) (by decide) dX6_treats_521 (fun H locs hP hD hS => ?_)
              have hP : va_P D vwCl (zmod cs o (zU (zU (zT6 A xi xv xt) 47 (zI_f (zEmpties (zT5 A xi xv xt) xi xv) 1 0)) 45 1) S T xsm xth (xm + 1) f xtl xpl g) H := hP
              have hD : va_D A0 (zmod cs o (zU (zU (zT6 A xi xv xt) 47 (zI_f (zEmpties (zT5 A xi xv xt) xi xv) 1 0)) 45 1) S T xsm xth (xm + 1) f xtl xpl g) := zD_addr hD rfl
              refine lv_aload_n hx hb dX6_treats_522 rfl (lv_at hl 2 rfl) ?_
              refine va_get (D := D) (ci := 6) (v := .ref (o 1)) (C := RX6) (T := TX6) (N := 10) hx hb hts hiX6 hown hK hP 0 rfl rfl 0 (by decide) (hts (.fieldLink RX6 7 "ChargeEstimatorModel" "all" "[J") (List.mem_of_getElem? (i := 1) rfl)) (fun _ h9 => h9) rfl dX6_treats_523 ?_
              refine zr_bipush hx hb dX6_treats_526 (by decide) ?_
              refine lv_lload_n hx hb dX6_treats_528 rfl (lv_at hl 4 rfl) ?_
              refine zr_last (D := D) (g := zU (zU (zT6 A xi xv xt) 47 (zI_f (zEmpties (zT5 A xi xv xt) xi xv) 1 0)) 45 1) hx hb hK hP hD hS 1 2 rfl rfl (by decide) (by decide) dX6_treats_529 (fun H locs hP hD hS => ?_)
              have hP : va_P D vwCl (zmod cs o (zU (zU (zU (zT6 A xi xv xt) 47 (zI_f (zEmpties (zT5 A xi xv xt) xi xv) 1 0)) 45 1) 46 xv) S T xsm xth (xm + 1) f xtl xpl g) H := hP
              have hD : va_D A0 (zmod cs o (zU (zU (zU (zT6 A xi xv xt) 47 (zI_f (zEmpties (zT5 A xi xv xt) xi xv) 1 0)) 45 1) 46 xv) S T xsm xth (xm + 1) f xtl xpl g) := zD_addr hD rfl
              refine lv_iload hx hb dX6_treats_530 (lv_at hl 0 rfl) ?_
              have hP8 : va_P D vwCl (zmod cs o (zTr A xi xv xt) S T xsm xth (xam + zMany A xi xv xt) f xtl xpl g) H := by unfold zMany; first | (rw [zI_ft (P := zP3 A xi xv xt) (by unfold zP3 zEmpties; omega), ← Int.add_assoc, ← Int.add_assoc, ← jm]; exact hP) | (rw [zI_ff (P := zP3 A xi xv xt) (by unfold zP3 zEmpties; omega), Int.add_zero, ← Int.add_assoc, ← jm]; exact hP)
              have hP9 : va_P D vwCl (zmod cs o (zTr A xi xv xt) S T xsm xth (xam + zMany A xi xv xt) f xtl xpl g) H := hP8
              have hD9 : va_D A0 (zmod cs o (zTr A xi xv xt) S T xsm xth (xam + zMany A xi xv xt) f xtl xpl g) := zD_addr hD rfl
              subst hAe
              exact W.iret hx hb hr (fun t ht hW => ⟨⟨_, (), rfl, (congrArg zI (show xb + 4 = zBits A xi xv xt from by unfold zBits; first | (rw [zI_ft (P := zP3 A xi xv xt) (by unfold zP3 zEmpties; omega)]; omega) | (rw [zI_ff (P := zP3 A xi xv xt) (by unfold zP3 zEmpties; omega)]; omega))), by rw [ht]; exact hP9, hD9⟩, hS.F ht⟩) hS.2.2 dX6_treats_532
  have J_404 : ∀ (xb : Int) (xm : Int) (jb : xb = zI_f (zP1 A xi xv xt) 1 0) (jm : xm = xam + zI_f (zP1 A xi xv xt) 1 0) (H : Heap) (locs : List Loc) (hP : va_P D vwCl (zmod cs o (zT4 A xi xv xt) S T xsm xth xm f xtl xpl g) H) (hD : va_D A0 (zmod cs o (zT4 A xi xv xt) S T xsm xth xm f xtl xpl g)) (hS : va_S A0 s.heap H locs) (ls : Array Slot) (hl : lv_has ls 18 [(0, .ref (o 0)), (1, .long (zL xi)), (3, .long (zL xv)), (5, .long (zL xt)), (11, .int (zI xb)), (15, .long (zL ((zT3 A xi xv xt) 44)))]), W p l e (headSpec wsX6_treats ({ frames := 4, cells := 0, slots := 0, locals := 100 })).room s m ([.ref (o 0), .long (zL xi), .long (zL xv), .long (zL xt)] : List Value).toArray below meth c H locs 0 0 (MQ below (zQi D (zmod cs o A S T xsm xth xam f xtl xpl g) s.heap.size (zI (zBits A xi xv xt)) (zmod cs o (zTr A xi xv xt) S T xsm xth (xam + zMany A xi xv xt) f xtl xpl g)) ([.ref (o 0), .long (zL xi), .long (zL xv), .long (zL xt)] : List Value).toArray s 0 0 (va_A (zmod cs o A S T xsm xth xam f xtl xpl g) s.heap.size)) (F0 m 404 ls []) := by
    intro xb xm jb jm H locs hP hD hS ls hl
    have t44 := (zOK_q h3).2.2.2.2.2.2.2.2.2.1
    have u44 := (zOK_q h4).2.2.2.2.2.2.2.2.2.1
    refine lv_lload hx hb dX6_treats_404 (lv_at hl 5 rfl) ?_
    refine zr_ldc2 (n := 60) hx hb hown (hts (.constantLong RX6 187 (60)) (List.mem_of_getElem? (i := 2) rfl)) rfl dX6_treats_406 ?_
    refine zr_lcmp_ge (tgt := 444) hx hb dX6_treats_409 dX6_treats_410 (by decide) (by omega) (by decide) (fun c11 => ?_) (fun c11 => ?_)
    · exact J_444 xb xm (by first | (rw [zI_ft (P := zP2 A xi xv xt) (by unfold zP2; omega)]; omega) | (rw [zI_ff (P := zP2 A xi xv xt) (by unfold zP2; omega)]; omega)) (by first | (rw [zI_ft (P := zP2 A xi xv xt) (by unfold zP2; omega)]; omega) | (rw [zI_ff (P := zP2 A xi xv xt) (by unfold zP2; omega)]; omega)) _ _ (by first | (rw [zT5_t (by unfold zP2; omega)]; exact hP) | (rw [zT5_f (by unfold zP2; omega)]; exact hP)) (zD_addr hD rfl) hS _ (lv_sub hl [0, 1, 2, 3, 4] rfl)
    · refine lv_aload_n hx hb dX6_treats_413 rfl (lv_at hl 0 rfl) ?_
      refine va_get (D := D) (ci := 6) (v := .ref (o 1)) (C := RX6) (T := TX6) (N := 10) hx hb hts hiX6 hown hK hP 0 rfl rfl 0 (by decide) (hts (.fieldLink RX6 7 "ChargeEstimatorModel" "all" "[J") (List.mem_of_getElem? (i := 1) rfl)) (fun _ h9 => h9) rfl dX6_treats_414 ?_
      refine zr_bipush hx hb dX6_treats_417 (by decide) ?_
      refine zr_lald (D := D) (g := zT4 A xi xv xt) hx hb hK hP 1 2 rfl rfl (by decide) (by decide) dX6_treats_419 ?_
      refine zr_ldc2 (n := 60) hx hb hown (hts (.constantLong RX6 187 (60)) (List.mem_of_getElem? (i := 2) rfl)) rfl dX6_treats_420 ?_
      refine zr_lcmp_lt (tgt := 444) hx hb dX6_treats_423 dX6_treats_424 (by decide) (by omega) (by decide) (fun c12 => ?_) (fun c12 => ?_)
      · exact J_444 xb xm (by first | (rw [zI_ft (P := zP2 A xi xv xt) (by unfold zP2; omega)]; omega) | (rw [zI_ff (P := zP2 A xi xv xt) (by unfold zP2; omega)]; omega)) (by first | (rw [zI_ft (P := zP2 A xi xv xt) (by unfold zP2; omega)]; omega) | (rw [zI_ff (P := zP2 A xi xv xt) (by unfold zP2; omega)]; omega)) _ _ (by first | (rw [zT5_t (by unfold zP2; omega)]; exact hP) | (rw [zT5_f (by unfold zP2; omega)]; exact hP)) (zD_addr hD rfl) hS _ (lv_sub hl [0, 1, 2, 3, 4] rfl)
      · refine zr_iinc (kk := 4) (lv' := [(11, .int (zI (xb + 2))), (0, .ref (o 0)), (1, .long (zL xi)), (3, .long (zL xv)), (5, .long (zL xt)), (15, .long (zL ((zT3 A xi xv xt) 44)))]) hx hb dX6_treats_427 hl rfl (by decide) rfl (fun ls hl => ?_)
        refine lv_aload_n hx hb dX6_treats_430 rfl (lv_at hl 1 rfl) ?_
        refine zr_iconst hx hb dX6_treats_431 ?_
        refine zr_ldc2 (n := 10000) hx hb hown (hts (.constantLong RX6 93 (10000)) (List.mem_of_getElem? (i := 3) rfl)) rfl dX6_treats_432 ?_
        refine zr_ldc2 (n := 10000) hx hb hown (hts (.constantLong RX6 93 (10000)) (List.mem_of_getElem? (i := 3) rfl)) rfl dX6_treats_435 ?_
        refine zr_ldc2 (n := 10000) hx hb hown (hts (.constantLong RX6 93 (10000)) (List.mem_of_getElem? (i := 3) rfl)) rfl dX6_treats_438 ?_
        refine zc_v (va_runV (As := [.int (zI 1), .long (zL 10000), .long (zL 10000), .long (zL 10000)]) (rest := []) ⟨hx, hb, hml, hown, hts⟩ (met_X6_anchored l D cs o H.size (zT4 A xi xv xt) S T xsm xth xm f xtl xpl g _ 1 10000 10000 10000 (by exact h4) (by omega) (by first | assumption | omega) (by first | assumption | omega) (by first | assumption | omega) (by first | assumption | omega)) (cwV 4 hts gX6_treats_X6_anchored rfl rfl rfl (by decide +kernel) ⟨Nat.le_of_ble_eq_true rfl, Nat.le_of_ble_eq_true rfl⟩) ⟨zPreZ.blind, va_recv hK hP (ci := 6) (q0 := 0) rfl rfl, fun U hU hW => zp_Z hP hK hD hN hU hW⟩ rfl rfl hl.1 rfl (lv_room (Nat.le_of_ble_eq_true rfl)) dX6_treats_441 ⟨Nat.le_of_ble_eq_true rfl, Nat.le_of_ble_eq_true rfl⟩) hS hD hA (fun H locs hP hD hS => ?_)
        exact J_444 (xb + 2) (xm + 1) (by first | (rw [zI_ft (P := zP2 A xi xv xt) (by unfold zP2; omega)]; omega) | (rw [zI_ff (P := zP2 A xi xv xt) (by unfold zP2; omega)]; omega)) (by first | (rw [zI_ft (P := zP2 A xi xv xt) (by unfold zP2; omega)]; omega) | (rw [zI_ff (P := zP2 A xi xv xt) (by unfold zP2; omega)]; omega)) _ _ (by first | (rw [zT5_t (by unfold zP2; omega)]; exact hP) | (rw [zT5_f (by unfold zP2; omega)]; exact hP)) (zD_addr hD rfl) hS _ (lv_sub hl [1, 2, 3, 4, 0] rfl)
  have J_352 : ∀ (xb : Int) (xm : Int) (jb : xb = zI_f (zP1 A xi xv xt) 1 0) (jm : xm = xam + zI_f (zP1 A xi xv xt) 1 0) (H : Heap) (locs : List Loc) (hP : va_P D vwCl (zmod cs o (zT3 A xi xv xt) S T xsm xth xm f xtl xpl g) H) (hD : va_D A0 (zmod cs o (zT3 A xi xv xt) S T xsm xth xm f xtl xpl g)) (hS : va_S A0 s.heap H locs) (ls : Array Slot) (hl : lv_has ls 18 [(0, .ref (o 0)), (1, .long (zL xi)), (3, .long (zL xv)), (5, .long (zL xt)), (11, .int (zI xb))]), W p l e (headSpec wsX6_treats ({ frames := 4, cells := 0, slots := 0, locals := 100 })).room s m ([.ref (o 0), .long (zL xi), .long (zL xv), .long (zL xt)] : List Value).toArray below meth c H locs 0 0 (MQ below (zQi D (zmod cs o A S T xsm xth xam f xtl xpl g) s.heap.size (zI (zBits A xi xv xt)) (zmod cs o (zTr A xi xv xt) S T xsm xth (xam + zMany A xi xv xt) f xtl xpl g)) ([.ref (o 0), .long (zL xi), .long (zL xv), .long (zL xt)] : List Value).toArray s 0 0 (va_A (zmod cs o A S T xsm xth xam f xtl xpl g) s.heap.size)) (F0 m 352 ls []) := by
    intro xb xm jb jm H locs hP hD hS ls hl
    have t44 := (zOK_q h3).2.2.2.2.2.2.2.2.2.1
    have t9 := (zOK_s h3).2.2.2.2.2.2.2.2.2.1
    have t8 := (zOK_s h3).2.2.2.2.2.2.2.2.1
    refine lv_aload_n hx hb dX6_treats_352 rfl (lv_at hl 0 rfl) ?_
    refine va_get (D := D) (ci := 6) (v := .ref (o 1)) (C := RX6) (T := TX6) (N := 10) hx hb hts hiX6 hown hK hP 0 rfl rfl 0 (by decide) (hts (.fieldLink RX6 7 "ChargeEstimatorModel" "all" "[J") (List.mem_of_getElem? (i := 1) rfl)) (fun _ h9 => h9) rfl dX6_treats_353 ?_
    refine zr_bipush hx hb dX6_treats_356 (by decide) ?_
    refine zr_lald (D := D) (g := zT3 A xi xv xt) hx hb hK hP 1 2 rfl rfl (by decide) (by decide) dX6_treats_358 ?_
    refine lv_lstore (lv' := [(15, .long (zL ((zT3 A xi xv xt) 44))), (0, .ref (o 0)), (1, .long (zL xi)), (3, .long (zL xv)), (5, .long (zL xt)), (11, .int (zI xb))]) hx hb dX6_treats_359 hl (by decide) rfl (fun ls hl => ?_)
    refine lv_aload_n hx hb dX6_treats_361 rfl (lv_at hl 1 rfl) ?_
    refine va_get (D := D) (ci := 6) (v := .ref (o 1)) (C := RX6) (T := TX6) (N := 10) hx hb hts hiX6 hown hK hP 0 rfl rfl 0 (by decide) (hts (.fieldLink RX6 7 "ChargeEstimatorModel" "all" "[J") (List.mem_of_getElem? (i := 1) rfl)) (fun _ h9 => h9) rfl dX6_treats_362 ?_
    refine zr_bipush hx hb dX6_treats_365 (by decide) ?_
    refine lv_lload_n hx hb dX6_treats_367 rfl (lv_at hl 2 rfl) ?_
    refine zr_lconst0 hx hb dX6_treats_368 ?_
    refine lv_aload_n hx hb dX6_treats_369 rfl (lv_at hl 1 rfl) ?_
    refine va_get (D := D) (ci := 6) (v := .ref (o 1)) (C := RX6) (T := TX6) (N := 10) hx hb hts hiX6 hown hK hP 0 rfl rfl 0 (by decide) (hts (.fieldLink RX6 7 "ChargeEstimatorModel" "all" "[J") (List.mem_of_getElem? (i := 1) rfl)) (fun _ h9 => h9) rfl dX6_treats_370 ?_
    refine zr_bipush hx hb dX6_treats_373 (by decide) ?_
    refine zr_lald (D := D) (g := zT3 A xi xv xt) hx hb hK hP 1 2 rfl rfl (by decide) (by decide) dX6_treats_375 ?_
    refine zc_ri (va_runS (As := [.long (zL xi), .long (zL 0), .long (zL ((zT3 A xi xv xt) 9))]) (rest := [.int (zI 44), .ref (o 1)]) ⟨hx, hb, hml, hown, hts⟩ (met_X6_in l xi 0 ((zT3 A xi xv xt) 9) (by first | assumption | omega) (by first | assumption | omega) (by first | assumption | omega)) (va_cwS 3 hts gX6_treats_X6_in rfl rfl rfl (by decide +kernel) ⟨Nat.le_of_ble_eq_true rfl, Nat.le_of_ble_eq_true rfl⟩) ⟨zTrue.blind, fun U hU hW => ⟨rfl, trivial⟩⟩ rfl rfl hl.1 rfl (lv_room (Nat.le_of_ble_eq_true rfl)) dX6_treats_376 ⟨Nat.le_of_ble_eq_true rfl, Nat.le_of_ble_eq_true rfl⟩) ?_
    refine zr_ifb_eq (tgt := 402) hx hb dX6_treats_379 (by decide) (fun c13 => ?_) (fun c13 => ?_)
    · refine zr_lconst0 hx hb dX6_treats_402 ?_
      refine zr_last (D := D) (g := zT3 A xi xv xt) hx hb hK hP hD hS 1 2 rfl rfl (by decide) (by decide) dX6_treats_403 (fun H locs hP hD hS => ?_)
      have hP : va_P D vwCl (zmod cs o (zU (zT3 A xi xv xt) 44 0) S T xsm xth xm f xtl xpl g) H := hP
      have hD : va_D A0 (zmod cs o (zU (zT3 A xi xv xt) 44 0) S T xsm xth xm f xtl xpl g) := zD_addr hD rfl
      exact J_404 xb xm (by assumption) (by assumption) _ _ (by first | (rw [show zT4 A xi xv xt = zU (zT3 A xi xv xt) 44 (zT3 A xi xv xt 44 + xt) from zFul_t (by unfold zFulls; omega)]; exact hP) | (rw [show zT4 A xi xv xt = zU (zT3 A xi xv xt) 44 0 from zFul_f (by unfold zFulls; omega)]; exact hP)) (zD_addr hD rfl) hS _ (lv_sub hl [1, 2, 3, 4, 5, 0] rfl)
    · refine lv_lload_n hx hb dX6_treats_382 rfl (lv_at hl 3 rfl) ?_
      refine lv_aload_n hx hb dX6_treats_383 rfl (lv_at hl 1 rfl) ?_
      refine va_get (D := D) (ci := 6) (v := .ref (o 1)) (C := RX6) (T := TX6) (N := 10) hx hb hts hiX6 hown hK hP 0 rfl rfl 0 (by decide) (hts (.fieldLink RX6 7 "ChargeEstimatorModel" "all" "[J") (List.mem_of_getElem? (i := 1) rfl)) (fun _ h9 => h9) rfl dX6_treats_384 ?_
      refine zr_bipush hx hb dX6_treats_387 (by decide) ?_
      refine zr_lald (D := D) (g := zT3 A xi xv xt) hx hb hK hP 1 2 rfl rfl (by decide) (by decide) dX6_treats_389 ?_
      refine zr_lcmp_lt (tgt := 402) hx hb dX6_treats_390 dX6_treats_391 (by decide) (by omega) (by omega) (fun c14 => ?_) (fun c14 => ?_)
      · refine zr_lconst0 hx hb dX6_treats_402 ?_
        refine zr_last (D := D) (g := zT3 A xi xv xt) hx hb hK hP hD hS 1 2 rfl rfl (by decide) (by decide) dX6_treats_403 (fun H locs hP hD hS => ?_)
        have hP : va_P D vwCl (zmod cs o (zU (zT3 A xi xv xt) 44 0) S T xsm xth xm f xtl xpl g) H := hP
        have hD : va_D A0 (zmod cs o (zU (zT3 A xi xv xt) 44 0) S T xsm xth xm f xtl xpl g) := zD_addr hD rfl
        exact J_404 xb xm (by assumption) (by assumption) _ _ (by first | (rw [show zT4 A xi xv xt = zU (zT3 A xi xv xt) 44 (zT3 A xi xv xt 44 + xt) from zFul_t (by unfold zFulls; omega)]; exact hP) | (rw [show zT4 A xi xv xt = zU (zT3 A xi xv xt) 44 0 from zFul_f (by unfold zFulls; omega)]; exact hP)) (zD_addr hD rfl) hS _ (lv_sub hl [1, 2, 3, 4, 5, 0] rfl)
      · refine lv_lload hx hb dX6_treats_394 (lv_at hl 0 rfl) ?_
        refine lv_lload hx hb dX6_treats_396 (lv_at hl 4 rfl) ?_
        refine zr_ladd hx hb dX6_treats_398 ?_
        refine lv_goto (tgt := 403) hx hb dX6_treats_399 (by decide) ?_
        refine zr_last (D := D) (g := zT3 A xi xv xt) hx hb hK hP hD hS 1 2 rfl rfl (by decide) (by decide) dX6_treats_403 (fun H locs hP hD hS => ?_)
        have hP : va_P D vwCl (zmod cs o (zU (zT3 A xi xv xt) 44 (((zT3 A xi xv xt) 44) + xt)) S T xsm xth xm f xtl xpl g) H := hP
        have hD : va_D A0 (zmod cs o (zU (zT3 A xi xv xt) 44 (((zT3 A xi xv xt) 44) + xt)) S T xsm xth xm f xtl xpl g) := zD_addr hD rfl
        exact J_404 xb xm (by assumption) (by assumption) _ _ (by first | (rw [show zT4 A xi xv xt = zU (zT3 A xi xv xt) 44 (zT3 A xi xv xt 44 + xt) from zFul_t (by unfold zFulls; omega)]; exact hP) | (rw [show zT4 A xi xv xt = zU (zT3 A xi xv xt) 44 0 from zFul_f (by unfold zFulls; omega)]; exact hP)) (zD_addr hD rfl) hS _ (lv_sub hl [1, 2, 3, 4, 5, 0] rfl)
  have J_267 : ∀   (H : Heap) (locs : List Loc) (hP : va_P D vwCl (zmod cs o (zT2 A xi xv xt) S T xsm xth xam f xtl xpl g) H) (hD : va_D A0 (zmod cs o (zT2 A xi xv xt) S T xsm xth xam f xtl xpl g)) (hS : va_S A0 s.heap H locs) (ls : Array Slot) (hl : lv_has ls 18 [(0, .ref (o 0)), (1, .long (zL xi)), (3, .long (zL xv)), (5, .long (zL xt)), (11, .int (zI 0)), (13, .long (zL ((zCnt A xi xt) 43)))]), W p l e (headSpec wsX6_treats ({ frames := 4, cells := 0, slots := 0, locals := 100 })).room s m ([.ref (o 0), .long (zL xi), .long (zL xv), .long (zL xt)] : List Value).toArray below meth c H locs 0 0 (MQ below (zQi D (zmod cs o A S T xsm xth xam f xtl xpl g) s.heap.size (zI (zBits A xi xv xt)) (zmod cs o (zTr A xi xv xt) S T xsm xth (xam + zMany A xi xv xt) f xtl xpl g)) ([.ref (o 0), .long (zL xi), .long (zL xv), .long (zL xt)] : List Value).toArray s 0 0 (va_A (zmod cs o A S T xsm xth xam f xtl xpl g) s.heap.size)) (F0 m 267 ls []) := by
    intro   H locs hP hD hS ls hl
    have r43 := (zOK_q hc1).2.2.2.2.2.2.2.2.1
    have r6 := (zOK_s hc1).2.2.2.2.2.2.1
    have t43 := (zOK_q h2).2.2.2.2.2.2.2.2.1
    have t7 := (zOK_s h2).2.2.2.2.2.2.2.1
    have hH := zHys_r h2
    have ia := zInv_s (zT2 A xi xv xt) xv (zHys (zT2 A xi xv xt))
    have ib := zInv_s (zT2 A xi xv xt) (xv - zT2 A xi xv xt 7) (zHys (zT2 A xi xv xt))
    have ic := zInv_s (zT2 A xi xv xt) (xv + zT2 A xi xv xt 7) (zHys (zT2 A xi xv xt))
    have id9 := zInv_mono (zT2 A xi xv xt) (h := zHys (zT2 A xi xv xt)) (show xv - zT2 A xi xv xt 7 ≤ xv + zT2 A xi xv xt 7 by omega)
    have ia1 := ia.1
    have ib1 := ib.1
    have ic1 := ic.1
    refine lv_lload hx hb dX6_treats_267 (lv_at hl 5 rfl) ?_
    refine lv_aload_n hx hb dX6_treats_269 rfl (lv_at hl 0 rfl) ?_
    refine va_get (D := D) (ci := 6) (v := .ref (o 1)) (C := RX6) (T := TX6) (N := 10) hx hb hts hiX6 hown hK hP 0 rfl rfl 0 (by decide) (hts (.fieldLink RX6 7 "ChargeEstimatorModel" "all" "[J") (List.mem_of_getElem? (i := 1) rfl)) (fun _ h9 => h9) rfl dX6_treats_270 ?_
    refine zr_bipush hx hb dX6_treats_273 (by decide) ?_
    refine zr_lald (D := D) (g := zT2 A xi xv xt) hx hb hK hP 1 2 rfl rfl (by decide) (by decide) dX6_treats_275 ?_
    refine zr_lcmp_ge (tgt := 352) hx hb dX6_treats_276 dX6_treats_277 (by decide) (by omega) (by omega) (fun c15 => ?_) (fun c15 => ?_)
    · exact J_352 0 xam (by first | (rw [zI_ft (P := zP1 A xi xv xt) (by unfold zP1; omega)]; first | done | omega) | (rw [zI_ff (P := zP1 A xi xv xt) (by unfold zP1; omega)]; first | done | omega)) (by first | (rw [zI_ft (P := zP1 A xi xv xt) (by unfold zP1; omega)]; first | done | omega) | (rw [zI_ff (P := zP1 A xi xv xt) (by unfold zP1; omega)]; first | done | omega)) _ _ (by first | (rw [zT3_t (by unfold zP1; omega)]; exact hP) | (rw [zT3_f (by unfold zP1; omega)]; exact hP)) (zD_addr hD rfl) hS _ (lv_sub hl [0, 1, 2, 3, 4] rfl)
    · refine lv_aload_n hx hb dX6_treats_280 rfl (lv_at hl 0 rfl) ?_
      refine va_get (D := D) (ci := 6) (v := .ref (o 1)) (C := RX6) (T := TX6) (N := 10) hx hb hts hiX6 hown hK hP 0 rfl rfl 0 (by decide) (hts (.fieldLink RX6 7 "ChargeEstimatorModel" "all" "[J") (List.mem_of_getElem? (i := 1) rfl)) (fun _ h9 => h9) rfl dX6_treats_281 ?_
      refine zr_bipush hx hb dX6_treats_284 (by decide) ?_
      refine zr_lald (D := D) (g := zT2 A xi xv xt) hx hb hK hP 1 2 rfl rfl (by decide) (by decide) dX6_treats_286 ?_
      refine lv_aload_n hx hb dX6_treats_287 rfl (lv_at hl 0 rfl) ?_
      refine va_get (D := D) (ci := 6) (v := .ref (o 1)) (C := RX6) (T := TX6) (N := 10) hx hb hts hiX6 hown hK hP 0 rfl rfl 0 (by decide) (hts (.fieldLink RX6 7 "ChargeEstimatorModel" "all" "[J") (List.mem_of_getElem? (i := 1) rfl)) (fun _ h9 => h9) rfl dX6_treats_288 ?_
      refine zr_bipush hx hb dX6_treats_291 (by decide) ?_
      refine zr_lald (D := D) (g := zT2 A xi xv xt) hx hb hK hP 1 2 rfl rfl (by decide) (by decide) dX6_treats_293 ?_
      refine zr_lcmp_lt (tgt := 352) hx hb dX6_treats_294 dX6_treats_295 (by decide) (by omega) (by omega) (fun c16 => ?_) (fun c16 => ?_)
      · exact J_352 0 xam (by first | (rw [zI_ft (P := zP1 A xi xv xt) (by unfold zP1; omega)]; first | done | omega) | (rw [zI_ff (P := zP1 A xi xv xt) (by unfold zP1; omega)]; first | done | omega)) (by first | (rw [zI_ft (P := zP1 A xi xv xt) (by unfold zP1; omega)]; first | done | omega) | (rw [zI_ff (P := zP1 A xi xv xt) (by unfold zP1; omega)]; first | done | omega)) _ _ (by first | (rw [zT3_t (by unfold zP1; omega)]; exact hP) | (rw [zT3_f (by unfold zP1; omega)]; exact hP)) (zD_addr hD rfl) hS _ (lv_sub hl [0, 1, 2, 3, 4] rfl)
      · refine zr_iconst hx hb dX6_treats_298 ?_
        refine lv_istore (lv' := [(11, .int (zI 1)), (0, .ref (o 0)), (1, .long (zL xi)), (3, .long (zL xv)), (5, .long (zL xt)), (13, .long (zL ((zCnt A xi xt) 43)))]) hx hb dX6_treats_299 hl (by decide) rfl (fun ls hl => ?_)
        refine lv_aload_n hx hb dX6_treats_301 rfl (lv_at hl 1 rfl) ?_
        refine zc_rl (va_runV (As := []) (rest := []) ⟨hx, hb, hml, hown, hts⟩ (met_X6_hysteresis l D cs o (zT2 A xi xv xt) S T xsm xth xam f xtl xpl g _ (by exact h2) (by omega)) (cwV 0 hts gX6_treats_X6_hysteresis rfl rfl rfl (by decide +kernel) ⟨Nat.le_of_ble_eq_true rfl, Nat.le_of_ble_eq_true rfl⟩) ⟨zPre.blind, va_recv hK hP (ci := 6) (q0 := 0) rfl rfl, fun U hU hW => zp_R hP hK hD hN hU hW⟩ rfl rfl hl.1 rfl (lv_room (Nat.le_of_ble_eq_true rfl)) dX6_treats_302 ⟨Nat.le_of_ble_eq_true rfl, Nat.le_of_ble_eq_true rfl⟩) ?_
        refine lv_lstore (lv' := [(15, .long (zL (zHys (zT2 A xi xv xt)))), (11, .int (zI 1)), (0, .ref (o 0)), (1, .long (zL xi)), (3, .long (zL xv)), (5, .long (zL xt)), (13, .long (zL ((zCnt A xi xt) 43)))]) hx hb dX6_treats_305 hl (by decide) rfl (fun ls hl => ?_)
        refine lv_aload_n hx hb dX6_treats_307 rfl (lv_at hl 2 rfl) ?_
        refine zr_iconst hx hb dX6_treats_308 ?_
        refine lv_aload_n hx hb dX6_treats_309 rfl (lv_at hl 2 rfl) ?_
        refine lv_lload_n hx hb dX6_treats_310 rfl (lv_at hl 4 rfl) ?_
        refine lv_lload hx hb dX6_treats_311 (lv_at hl 0 rfl) ?_
        refine zc_ri (va_runV (As := [.long (zL xv), .long (zL (zHys (zT2 A xi xv xt)))]) (rest := [.int (zI 0), .ref (o 0)]) ⟨hx, hb, hml, hown, hts⟩ (met_X6_inverted l D cs o (zT2 A xi xv xt) S T xsm xth xam f xtl xpl g _ xv (zHys (zT2 A xi xv xt)) (by exact h2) (by omega) (by first | assumption | omega) (by first | assumption | omega)) (cwV 2 hts gX6_treats_X6_inverted rfl rfl rfl (by decide +kernel) ⟨Nat.le_of_ble_eq_true rfl, Nat.le_of_ble_eq_true rfl⟩) ⟨zPre.blind, va_recv hK hP (ci := 6) (q0 := 0) rfl rfl, fun U hU hW => zp_R hP hK hD hN hU hW⟩ rfl rfl hl.1 rfl (lv_room (Nat.le_of_ble_eq_true rfl)) dX6_treats_313 ⟨Nat.le_of_ble_eq_true rfl, Nat.le_of_ble_eq_true rfl⟩) ?_
        refine zr_i2l hx hb dX6_treats_316 (by omega) ?_
        refine lv_aload_n hx hb dX6_treats_317 rfl (lv_at hl 2 rfl) ?_
        refine lv_lload_n hx hb dX6_treats_318 rfl (lv_at hl 4 rfl) ?_
        refine lv_aload_n hx hb dX6_treats_319 rfl (lv_at hl 2 rfl) ?_
        refine va_get (D := D) (ci := 6) (v := .ref (o 1)) (C := RX6) (T := TX6) (N := 10) hx hb hts hiX6 hown hK hP 0 rfl rfl 0 (by decide) (hts (.fieldLink RX6 7 "ChargeEstimatorModel" "all" "[J") (List.mem_of_getElem? (i := 1) rfl)) (fun _ h9 => h9) rfl dX6_treats_320 ?_
        refine zr_bipush hx hb dX6_treats_323 (by decide) ?_
        refine zr_lald (D := D) (g := zT2 A xi xv xt) hx hb hK hP 1 2 rfl rfl (by decide) (by decide) dX6_treats_325 ?_
        refine zr_lsub hx hb dX6_treats_326 ?_
        refine lv_lload hx hb dX6_treats_327 (lv_at hl 0 rfl) ?_
        refine zc_ri (va_runV (As := [.long (zL (xv - ((zT2 A xi xv xt) 7))), .long (zL (zHys (zT2 A xi xv xt)))]) (rest := [.long (zL (zInv (zT2 A xi xv xt) xv (zHys (zT2 A xi xv xt)))), .int (zI 0), .ref (o 0)]) ⟨hx, hb, hml, hown, hts⟩ (met_X6_inverted l D cs o (zT2 A xi xv xt) S T xsm xth xam f xtl xpl g _ (xv - ((zT2 A xi xv xt) 7)) (zHys (zT2 A xi xv xt)) (by exact h2) (by omega) (by first | assumption | omega) (by first | assumption | omega)) (cwV 2 hts gX6_treats_X6_inverted rfl rfl rfl (by decide +kernel) ⟨Nat.le_of_ble_eq_true rfl, Nat.le_of_ble_eq_true rfl⟩) ⟨zPre.blind, va_recv hK hP (ci := 6) (q0 := 0) rfl rfl, fun U hU hW => zp_R hP hK hD hN hU hW⟩ rfl rfl hl.1 rfl (lv_room (Nat.le_of_ble_eq_true rfl)) dX6_treats_329 ⟨Nat.le_of_ble_eq_true rfl, Nat.le_of_ble_eq_true rfl⟩) ?_
        refine zr_i2l hx hb dX6_treats_332 (by omega) ?_
        refine lv_aload_n hx hb dX6_treats_333 rfl (lv_at hl 2 rfl) ?_
        refine lv_lload_n hx hb dX6_treats_334 rfl (lv_at hl 4 rfl) ?_
        refine lv_aload_n hx hb dX6_treats_335 rfl (lv_at hl 2 rfl) ?_
        refine va_get (D := D) (ci := 6) (v := .ref (o 1)) (C := RX6) (T := TX6) (N := 10) hx hb hts hiX6 hown hK hP 0 rfl rfl 0 (by decide) (hts (.fieldLink RX6 7 "ChargeEstimatorModel" "all" "[J") (List.mem_of_getElem? (i := 1) rfl)) (fun _ h9 => h9) rfl dX6_treats_336 ?_
        refine zr_bipush hx hb dX6_treats_339 (by decide) ?_
        refine zr_lald (D := D) (g := zT2 A xi xv xt) hx hb hK hP 1 2 rfl rfl (by decide) (by decide) dX6_treats_341 ?_
        refine zr_ladd hx hb dX6_treats_342 ?_
        refine lv_lload hx hb dX6_treats_343 (lv_at hl 0 rfl) ?_
        refine zc_ri (va_runV (As := [.long (zL (xv + ((zT2 A xi xv xt) 7))), .long (zL (zHys (zT2 A xi xv xt)))]) (rest := [.long (zL (zInv (zT2 A xi xv xt) (xv - ((zT2 A xi xv xt) 7)) (zHys (zT2 A xi xv xt)))), .long (zL (zInv (zT2 A xi xv xt) xv (zHys (zT2 A xi xv xt)))), .int (zI 0), .ref (o 0)]) ⟨hx, hb, hml, hown, hts⟩ (met_X6_inverted l D cs o (zT2 A xi xv xt) S T xsm xth xam f xtl xpl g _ (xv + ((zT2 A xi xv xt) 7)) (zHys (zT2 A xi xv xt)) (by exact h2) (by omega) (by first | assumption | omega) (by first | assumption | omega)) (cwV 2 hts gX6_treats_X6_inverted rfl rfl rfl (by decide +kernel) ⟨Nat.le_of_ble_eq_true rfl, Nat.le_of_ble_eq_true rfl⟩) ⟨zPre.blind, va_recv hK hP (ci := 6) (q0 := 0) rfl rfl, fun U hU hW => zp_R hP hK hD hN hU hW⟩ rfl rfl hl.1 rfl (lv_room (Nat.le_of_ble_eq_true rfl)) dX6_treats_345 ⟨Nat.le_of_ble_eq_true rfl, Nat.le_of_ble_eq_true rfl⟩) ?_
        refine zr_i2l hx hb dX6_treats_348 (by omega) ?_
        refine zc_v (va_runV (As := [.int (zI 0), .long (zL (zInv (zT2 A xi xv xt) xv (zHys (zT2 A xi xv xt)))), .long (zL (zInv (zT2 A xi xv xt) (xv - ((zT2 A xi xv xt) 7)) (zHys (zT2 A xi xv xt)))), .long (zL (zInv (zT2 A xi xv xt) (xv + ((zT2 A xi xv xt) 7)) (zHys (zT2 A xi xv xt))))]) (rest := []) ⟨hx, hb, hml, hown, hts⟩ (met_X6_anchored l D cs o H.size (zT2 A xi xv xt) S T xsm xth xam f xtl xpl g _ 0 (zInv (zT2 A xi xv xt) xv (zHys (zT2 A xi xv xt))) (zInv (zT2 A xi xv xt) (xv - ((zT2 A xi xv xt) 7)) (zHys (zT2 A xi xv xt))) (zInv (zT2 A xi xv xt) (xv + ((zT2 A xi xv xt) 7)) (zHys (zT2 A xi xv xt))) (by exact h2) (by omega) (by first | assumption | omega) (by first | assumption | omega) (by exact ia.1) (by exact ⟨ib.1.1, id9, ic.1.2⟩)) (cwV 4 hts gX6_treats_X6_anchored rfl rfl rfl (by decide +kernel) ⟨Nat.le_of_ble_eq_true rfl, Nat.le_of_ble_eq_true rfl⟩) ⟨zPreZ.blind, va_recv hK hP (ci := 6) (q0 := 0) rfl rfl, fun U hU hW => zp_Z hP hK hD hN hU hW⟩ rfl rfl hl.1 rfl (lv_room (Nat.le_of_ble_eq_true rfl)) dX6_treats_349 ⟨Nat.le_of_ble_eq_true rfl, Nat.le_of_ble_eq_true rfl⟩) hS hD hA (fun H locs hP hD hS => ?_)
        exact J_352 1 (xam + 1) (by first | (rw [zI_ft (P := zP1 A xi xv xt) (by unfold zP1; omega)]; first | done | omega) | (rw [zI_ff (P := zP1 A xi xv xt) (by unfold zP1; omega)]; first | done | omega)) (by first | (rw [zI_ft (P := zP1 A xi xv xt) (by unfold zP1; omega)]; first | done | omega) | (rw [zI_ff (P := zP1 A xi xv xt) (by unfold zP1; omega)]; first | done | omega)) _ _ (by first | (rw [zT3_t (by unfold zP1; omega)]; exact hP) | (rw [zT3_f (by unfold zP1; omega)]; exact hP)) (zD_addr hD rfl) hS _ (lv_sub hl [2, 3, 4, 5, 1] rfl)
  have hMv := zMov_600 hI kxi kxt
  have hDr := zDrf_r hI (c := zMov A xi xt) (t := xt) (by omega) (by omega)
  have hR := zRng_r hI
  have hC := zOK_C hI
  have m34 := (zOK_q hI).2.2.1
  have m35 := (zOK_q hI).2.2.2.1
  have m39 := (zOK_q hI).2.2.2.2.1
  have m40 := (zOK_q hI).2.2.2.2.2.1
  have m41 := (zOK_q hI).2.2.2.2.2.2.1
  have m42 := (zOK_q hI).2.2.2.2.2.2.2.1
  refine lv_aload_n hx hb dX6_treats_0 rfl (lv_at hl 0 rfl) ?_
  refine lv_lload_n hx hb dX6_treats_1 rfl (lv_at hl 1 rfl) ?_
  refine lv_lload hx hb dX6_treats_2 (lv_at hl 3 rfl) ?_
  refine zc_rl (va_runV (As := [.long (zL xi), .long (zL xt)]) (rest := []) ⟨hx, hb, hml, hown, hts⟩ (met_X6_counts l D cs o A S T xsm xth xam f xtl xpl g xi xt (by first | assumption | exact zOK_w (by assumption)) (by first | assumption | omega) (by first | assumption | omega)) (cwV 2 hts gX6_treats_X6_counts rfl rfl rfl (by decide +kernel) ⟨Nat.le_of_ble_eq_true rfl, Nat.le_of_ble_eq_true rfl⟩) ⟨zPre.blind, va_recv hK hP (ci := 6) (q0 := 0) rfl rfl, fun U hU hW => zp_R hP hK hD hN hU hW⟩ rfl rfl hl.1 rfl (lv_room (Nat.le_of_ble_eq_true rfl)) dX6_treats_4 ⟨Nat.le_of_ble_eq_true rfl, Nat.le_of_ble_eq_true rfl⟩) ?_
  refine lv_lstore (lv' := [(7, .long (zL (zMov A xi xt))), (0, .ref (o 0)), (1, .long (zL xi)), (3, .long (zL xv)), (5, .long (zL xt))]) hx hb dX6_treats_7 hl (by decide) rfl (fun ls hl => ?_)
  refine lv_aload_n hx hb dX6_treats_9 rfl (lv_at hl 1 rfl) ?_
  refine lv_lload hx hb dX6_treats_10 (lv_at hl 0 rfl) ?_
  refine lv_lload hx hb dX6_treats_12 (lv_at hl 4 rfl) ?_
  refine zc_rl (va_runV (As := [.long (zL (zMov A xi xt)), .long (zL xt)]) (rest := []) ⟨hx, hb, hml, hown, hts⟩ (met_X6_drift l D cs o A S T xsm xth xam f xtl xpl g (zMov A xi xt) xt (by first | assumption | exact zOK_w (by assumption)) (by first | assumption | omega) (by first | assumption | omega)) (cwV 2 hts gX6_treats_X6_drift rfl rfl rfl (by decide +kernel) ⟨Nat.le_of_ble_eq_true rfl, Nat.le_of_ble_eq_true rfl⟩) ⟨zPre.blind, va_recv hK hP (ci := 6) (q0 := 0) rfl rfl, fun U hU hW => zp_R hP hK hD hN hU hW⟩ rfl rfl hl.1 rfl (lv_room (Nat.le_of_ble_eq_true rfl)) dX6_treats_14 ⟨Nat.le_of_ble_eq_true rfl, Nat.le_of_ble_eq_true rfl⟩) ?_
  refine lv_lstore (lv' := [(9, .long (zL (zDrf A (zMov A xi xt) xt))), (7, .long (zL (zMov A xi xt))), (0, .ref (o 0)), (1, .long (zL xi)), (3, .long (zL xv)), (5, .long (zL xt))]) hx hb dX6_treats_17 hl (by decide) rfl (fun ls hl => ?_)
  refine lv_aload_n hx hb dX6_treats_19 rfl (lv_at hl 2 rfl) ?_
  refine va_get (D := D) (ci := 6) (v := .ref (o 1)) (C := RX6) (T := TX6) (N := 10) hx hb hts hiX6 hown hK hP 0 rfl rfl 0 (by decide) (hts (.fieldLink RX6 7 "ChargeEstimatorModel" "all" "[J") (List.mem_of_getElem? (i := 1) rfl)) (fun _ h9 => h9) rfl dX6_treats_20 ?_
  refine zr_bipush hx hb dX6_treats_23 (by decide) ?_
  refine lv_aload_n hx hb dX6_treats_25 rfl (lv_at hl 2 rfl) ?_
  refine va_get (D := D) (ci := 6) (v := .ref (o 1)) (C := RX6) (T := TX6) (N := 10) hx hb hts hiX6 hown hK hP 0 rfl rfl 0 (by decide) (hts (.fieldLink RX6 7 "ChargeEstimatorModel" "all" "[J") (List.mem_of_getElem? (i := 1) rfl)) (fun _ h9 => h9) rfl dX6_treats_26 ?_
  refine zr_bipush hx hb dX6_treats_29 (by decide) ?_
  refine zr_lald (D := D) (g := A) hx hb hK hP 1 2 rfl rfl (by decide) (by decide) dX6_treats_31 ?_
  refine lv_lload hx hb dX6_treats_32 (lv_at hl 1 rfl) ?_
  refine zr_ladd hx hb dX6_treats_34 ?_
  refine zr_lconst0 hx hb dX6_treats_35 ?_
  refine lv_aload_n hx hb dX6_treats_36 rfl (lv_at hl 2 rfl) ?_
  refine va_get (D := D) (ci := 6) (v := .ref (o 1)) (C := RX6) (T := TX6) (N := 10) hx hb hts hiX6 hown hK hP 0 rfl rfl 0 (by decide) (hts (.fieldLink RX6 7 "ChargeEstimatorModel" "all" "[J") (List.mem_of_getElem? (i := 1) rfl)) (fun _ h9 => h9) rfl dX6_treats_37 ?_
  refine zr_bipush hx hb dX6_treats_40 (by decide) ?_
  refine zr_lald (D := D) (g := A) hx hb hK hP 1 2 rfl rfl (by decide) (by decide) dX6_treats_42 ?_
  refine zc_rl (va_runS (As := [.long (zL ((A 34) + (zMov A xi xt))), .long (zL 0), .long (zL (A 37))]) (rest := [.int (zI 34), .ref (o 1)]) ⟨hx, hb, hml, hown, hts⟩ (met_X6_clamp l ((A 34) + (zMov A xi xt)) 0 (A 37) (by first | assumption | omega) (by first | assumption | omega) (by first | assumption | omega)) (va_cwS 3 hts gX6_treats_X6_clamp rfl rfl rfl (by decide +kernel) ⟨Nat.le_of_ble_eq_true rfl, Nat.le_of_ble_eq_true rfl⟩) ⟨zTrue.blind, fun U hU hW => ⟨rfl, trivial⟩⟩ rfl rfl hl.1 rfl (lv_room (Nat.le_of_ble_eq_true rfl)) dX6_treats_43 ⟨Nat.le_of_ble_eq_true rfl, Nat.le_of_ble_eq_true rfl⟩) ?_
  refine zr_last (D := D) (g := A) hx hb hK hP hD hS 1 2 rfl rfl (by decide) (by decide) dX6_treats_46 (fun H locs hP hD hS => ?_)
  have hP : va_P D vwCl (zmod cs o (zU A 34 (zclamp ((A 34) + (zMov A xi xt)) 0 (A 37))) S T xsm xth xam f xtl xpl g) H := hP
  have hD : va_D A0 (zmod cs o (zU A 34 (zclamp ((A 34) + (zMov A xi xt)) 0 (A 37))) S T xsm xth xam f xtl xpl g) := zD_addr hD rfl
  refine lv_aload_n hx hb dX6_treats_47 rfl (lv_at hl 2 rfl) ?_
  refine va_get (D := D) (ci := 6) (v := .ref (o 1)) (C := RX6) (T := TX6) (N := 10) hx hb hts hiX6 hown hK hP 0 rfl rfl 0 (by decide) (hts (.fieldLink RX6 7 "ChargeEstimatorModel" "all" "[J") (List.mem_of_getElem? (i := 1) rfl)) (fun _ h9 => h9) rfl dX6_treats_48 ?_
  refine zr_bipush hx hb dX6_treats_51 (by decide) ?_
  refine lv_aload_n hx hb dX6_treats_53 rfl (lv_at hl 2 rfl) ?_
  refine va_get (D := D) (ci := 6) (v := .ref (o 1)) (C := RX6) (T := TX6) (N := 10) hx hb hts hiX6 hown hK hP 0 rfl rfl 0 (by decide) (hts (.fieldLink RX6 7 "ChargeEstimatorModel" "all" "[J") (List.mem_of_getElem? (i := 1) rfl)) (fun _ h9 => h9) rfl dX6_treats_54 ?_
  refine zr_bipush hx hb dX6_treats_57 (by decide) ?_
  refine zr_lald (D := D) (g := zU A 34 (zclamp ((A 34) + (zMov A xi xt)) 0 (A 37))) hx hb hK hP 1 2 rfl rfl (by decide) (by decide) dX6_treats_59 ?_
  rw [show zU A 34 (zclamp ((A 34) + (zMov A xi xt)) 0 (A 37)) 35 = A 35 from by first | rfl | simp [zO, zU]]
  refine lv_lload hx hb dX6_treats_60 (lv_at hl 1 rfl) ?_
  refine zr_ladd hx hb dX6_treats_62 ?_
  refine lv_lload hx hb dX6_treats_63 (lv_at hl 0 rfl) ?_
  refine zr_lsub hx hb dX6_treats_65 ?_
  refine zr_lconst0 hx hb dX6_treats_66 ?_
  refine lv_aload_n hx hb dX6_treats_67 rfl (lv_at hl 2 rfl) ?_
  refine va_get (D := D) (ci := 6) (v := .ref (o 1)) (C := RX6) (T := TX6) (N := 10) hx hb hts hiX6 hown hK hP 0 rfl rfl 0 (by decide) (hts (.fieldLink RX6 7 "ChargeEstimatorModel" "all" "[J") (List.mem_of_getElem? (i := 1) rfl)) (fun _ h9 => h9) rfl dX6_treats_68 ?_
  refine zr_bipush hx hb dX6_treats_71 (by decide) ?_
  refine zr_lald (D := D) (g := zU A 34 (zclamp ((A 34) + (zMov A xi xt)) 0 (A 37))) hx hb hK hP 1 2 rfl rfl (by decide) (by decide) dX6_treats_73 ?_
  rw [show zU A 34 (zclamp ((A 34) + (zMov A xi xt)) 0 (A 37)) 37 = A 37 from by first | rfl | simp [zO, zU]]
  refine zc_rl (va_runS (As := [.long (zL (((A 35) + (zMov A xi xt)) - (zDrf A (zMov A xi xt) xt))), .long (zL 0), .long (zL (A 37))]) (rest := [.int (zI 35), .ref (o 1)]) ⟨hx, hb, hml, hown, hts⟩ (met_X6_clamp l (((A 35) + (zMov A xi xt)) - (zDrf A (zMov A xi xt) xt)) 0 (A 37) (by first | assumption | omega) (by first | assumption | omega) (by first | assumption | omega)) (va_cwS 3 hts gX6_treats_X6_clamp rfl rfl rfl (by decide +kernel) ⟨Nat.le_of_ble_eq_true rfl, Nat.le_of_ble_eq_true rfl⟩) ⟨zTrue.blind, fun U hU hW => ⟨rfl, trivial⟩⟩ rfl rfl hl.1 rfl (lv_room (Nat.le_of_ble_eq_true rfl)) dX6_treats_74 ⟨Nat.le_of_ble_eq_true rfl, Nat.le_of_ble_eq_true rfl⟩) ?_
  refine zr_topl (b := zLow A xi xt) (by rfl) ?_
  refine zr_last (D := D) (g := zU A 34 (zclamp ((A 34) + (zMov A xi xt)) 0 (A 37))) hx hb hK hP hD hS 1 2 rfl rfl (by decide) (by decide) dX6_treats_77 (fun H locs hP hD hS => ?_)
  have hP : va_P D vwCl (zmod cs o (zU (zU A 34 (zclamp ((A 34) + (zMov A xi xt)) 0 (A 37))) 35 (zLow A xi xt)) S T xsm xth xam f xtl xpl g) H := hP
  have hD : va_D A0 (zmod cs o (zU (zU A 34 (zclamp ((A 34) + (zMov A xi xt)) 0 (A 37))) 35 (zLow A xi xt)) S T xsm xth xam f xtl xpl g) := zD_addr hD rfl
  refine lv_aload_n hx hb dX6_treats_78 rfl (lv_at hl 2 rfl) ?_
  refine va_get (D := D) (ci := 6) (v := .ref (o 1)) (C := RX6) (T := TX6) (N := 10) hx hb hts hiX6 hown hK hP 0 rfl rfl 0 (by decide) (hts (.fieldLink RX6 7 "ChargeEstimatorModel" "all" "[J") (List.mem_of_getElem? (i := 1) rfl)) (fun _ h9 => h9) rfl dX6_treats_79 ?_
  refine zr_bipush hx hb dX6_treats_82 (by decide) ?_
  refine lv_aload_n hx hb dX6_treats_84 rfl (lv_at hl 2 rfl) ?_
  refine va_get (D := D) (ci := 6) (v := .ref (o 1)) (C := RX6) (T := TX6) (N := 10) hx hb hts hiX6 hown hK hP 0 rfl rfl 0 (by decide) (hts (.fieldLink RX6 7 "ChargeEstimatorModel" "all" "[J") (List.mem_of_getElem? (i := 1) rfl)) (fun _ h9 => h9) rfl dX6_treats_85 ?_
  refine zr_bipush hx hb dX6_treats_88 (by decide) ?_
  refine zr_lald (D := D) (g := zU (zU A 34 (zclamp ((A 34) + (zMov A xi xt)) 0 (A 37))) 35 (zLow A xi xt)) hx hb hK hP 1 2 rfl rfl (by decide) (by decide) dX6_treats_90 ?_
  rw [show zU (zU A 34 (zclamp ((A 34) + (zMov A xi xt)) 0 (A 37))) 35 (zLow A xi xt) 36 = A 36 from by first | rfl | simp [zO, zU]]
  refine lv_lload hx hb dX6_treats_91 (lv_at hl 1 rfl) ?_
  refine zr_ladd hx hb dX6_treats_93 ?_
  refine lv_lload hx hb dX6_treats_94 (lv_at hl 0 rfl) ?_
  refine zr_ladd hx hb dX6_treats_96 ?_
  refine zr_lconst0 hx hb dX6_treats_97 ?_
  refine lv_aload_n hx hb dX6_treats_98 rfl (lv_at hl 2 rfl) ?_
  refine va_get (D := D) (ci := 6) (v := .ref (o 1)) (C := RX6) (T := TX6) (N := 10) hx hb hts hiX6 hown hK hP 0 rfl rfl 0 (by decide) (hts (.fieldLink RX6 7 "ChargeEstimatorModel" "all" "[J") (List.mem_of_getElem? (i := 1) rfl)) (fun _ h9 => h9) rfl dX6_treats_99 ?_
  refine zr_bipush hx hb dX6_treats_102 (by decide) ?_
  refine zr_lald (D := D) (g := zU (zU A 34 (zclamp ((A 34) + (zMov A xi xt)) 0 (A 37))) 35 (zLow A xi xt)) hx hb hK hP 1 2 rfl rfl (by decide) (by decide) dX6_treats_104 ?_
  rw [show zU (zU A 34 (zclamp ((A 34) + (zMov A xi xt)) 0 (A 37))) 35 (zLow A xi xt) 37 = A 37 from by first | rfl | simp [zO, zU]]
  refine zc_rl (va_runS (As := [.long (zL (((A 36) + (zMov A xi xt)) + (zDrf A (zMov A xi xt) xt))), .long (zL 0), .long (zL (A 37))]) (rest := [.int (zI 36), .ref (o 1)]) ⟨hx, hb, hml, hown, hts⟩ (met_X6_clamp l (((A 36) + (zMov A xi xt)) + (zDrf A (zMov A xi xt) xt)) 0 (A 37) (by first | assumption | omega) (by first | assumption | omega) (by first | assumption | omega)) (va_cwS 3 hts gX6_treats_X6_clamp rfl rfl rfl (by decide +kernel) ⟨Nat.le_of_ble_eq_true rfl, Nat.le_of_ble_eq_true rfl⟩) ⟨zTrue.blind, fun U hU hW => ⟨rfl, trivial⟩⟩ rfl rfl hl.1 rfl (lv_room (Nat.le_of_ble_eq_true rfl)) dX6_treats_105 ⟨Nat.le_of_ble_eq_true rfl, Nat.le_of_ble_eq_true rfl⟩) ?_
  refine zr_topl (b := zHigh A xi xt) (by rfl) ?_
  refine zr_last (D := D) (g := zU (zU A 34 (zclamp ((A 34) + (zMov A xi xt)) 0 (A 37))) 35 (zLow A xi xt)) hx hb hK hP hD hS 1 2 rfl rfl (by decide) (by decide) dX6_treats_108 (fun H locs hP hD hS => ?_)
  have hP : va_P D vwCl (zmod cs o (zU (zU (zU A 34 (zclamp ((A 34) + (zMov A xi xt)) 0 (A 37))) 35 (zLow A xi xt)) 36 (zHigh A xi xt)) S T xsm xth xam f xtl xpl g) H := hP
  have hD : va_D A0 (zmod cs o (zU (zU (zU A 34 (zclamp ((A 34) + (zMov A xi xt)) 0 (A 37))) 35 (zLow A xi xt)) 36 (zHigh A xi xt)) S T xsm xth xam f xtl xpl g) := zD_addr hD rfl
  refine lv_aload_n hx hb dX6_treats_109 rfl (lv_at hl 2 rfl) ?_
  refine va_get (D := D) (ci := 6) (v := .ref (o 1)) (C := RX6) (T := TX6) (N := 10) hx hb hts hiX6 hown hK hP 0 rfl rfl 0 (by decide) (hts (.fieldLink RX6 7 "ChargeEstimatorModel" "all" "[J") (List.mem_of_getElem? (i := 1) rfl)) (fun _ h9 => h9) rfl dX6_treats_110 ?_
  refine zr_bipush hx hb dX6_treats_113 (by decide) ?_
  refine lv_aload_n hx hb dX6_treats_115 rfl (lv_at hl 2 rfl) ?_
  refine va_get (D := D) (ci := 6) (v := .ref (o 1)) (C := RX6) (T := TX6) (N := 10) hx hb hts hiX6 hown hK hP 0 rfl rfl 0 (by decide) (hts (.fieldLink RX6 7 "ChargeEstimatorModel" "all" "[J") (List.mem_of_getElem? (i := 1) rfl)) (fun _ h9 => h9) rfl dX6_treats_116 ?_
  refine zr_bipush hx hb dX6_treats_119 (by decide) ?_
  refine zr_lald (D := D) (g := zU (zU (zU A 34 (zclamp ((A 34) + (zMov A xi xt)) 0 (A 37))) 35 (zLow A xi xt)) 36 (zHigh A xi xt)) hx hb hK hP 1 2 rfl rfl (by decide) (by decide) dX6_treats_121 ?_
  rw [show zU (zU (zU A 34 (zclamp ((A 34) + (zMov A xi xt)) 0 (A 37))) 35 (zLow A xi xt)) 36 (zHigh A xi xt) 39 = A 39 from by first | rfl | simp [zO, zU]]
  refine lv_lload hx hb dX6_treats_122 (lv_at hl 1 rfl) ?_
  refine zr_ladd hx hb dX6_treats_124 ?_
  refine zr_lconst0 hx hb dX6_treats_125 ?_
  refine lv_aload_n hx hb dX6_treats_126 rfl (lv_at hl 2 rfl) ?_
  refine zc_rl (va_runV (As := []) (rest := [.long (zL 0), .long (zL ((A 39) + (zMov A xi xt))), .int (zI 39), .ref (o 1)]) ⟨hx, hb, hml, hown, hts⟩ (met_X6_range l D cs o (zU (zU (zU A 34 (zclamp ((A 34) + (zMov A xi xt)) 0 (A 37))) 35 (zLow A xi xt)) 36 (zHigh A xi xt)) S T xsm xth xam f xtl xpl g (by exact ⟨hw.1, hw.2.1, zLow_e hI xi xt, zHigh_e hI xi xt⟩)) (cwV 0 hts gX6_treats_X6_range rfl rfl rfl (by decide +kernel) ⟨Nat.le_of_ble_eq_true rfl, Nat.le_of_ble_eq_true rfl⟩) ⟨zPre.blind, va_recv hK hP (ci := 6) (q0 := 0) rfl rfl, fun U hU hW => zp_R hP hK hD hN hU hW⟩ rfl rfl hl.1 rfl (lv_room (Nat.le_of_ble_eq_true rfl)) dX6_treats_127 ⟨Nat.le_of_ble_eq_true rfl, Nat.le_of_ble_eq_true rfl⟩) ?_
  refine zr_topl (b := zRng A) (by rfl) ?_
  refine zc_rl (va_runS (As := [.long (zL ((A 39) + (zMov A xi xt))), .long (zL 0), .long (zL (zRng A))]) (rest := [.int (zI 39), .ref (o 1)]) ⟨hx, hb, hml, hown, hts⟩ (met_X6_clamp l ((A 39) + (zMov A xi xt)) 0 (zRng A) (by first | assumption | omega) (by first | assumption | omega) (by first | assumption | omega)) (va_cwS 3 hts gX6_treats_X6_clamp rfl rfl rfl (by decide +kernel) ⟨Nat.le_of_ble_eq_true rfl, Nat.le_of_ble_eq_true rfl⟩) ⟨zTrue.blind, fun U hU hW => ⟨rfl, trivial⟩⟩ rfl rfl hl.1 rfl (lv_room (Nat.le_of_ble_eq_true rfl)) dX6_treats_130 ⟨Nat.le_of_ble_eq_true rfl, Nat.le_of_ble_eq_true rfl⟩) ?_
  refine zr_last (D := D) (g := zU (zU (zU A 34 (zclamp ((A 34) + (zMov A xi xt)) 0 (A 37))) 35 (zLow A xi xt)) 36 (zHigh A xi xt)) hx hb hK hP hD hS 1 2 rfl rfl (by decide) (by decide) dX6_treats_133 (fun H locs hP hD hS => ?_)
  have hP : va_P D vwCl (zmod cs o (zU (zU (zU (zU A 34 (zclamp ((A 34) + (zMov A xi xt)) 0 (A 37))) 35 (zLow A xi xt)) 36 (zHigh A xi xt)) 39 (zclamp ((A 39) + (zMov A xi xt)) 0 (zRng A))) S T xsm xth xam f xtl xpl g) H := hP
  have hD : va_D A0 (zmod cs o (zU (zU (zU (zU A 34 (zclamp ((A 34) + (zMov A xi xt)) 0 (A 37))) 35 (zLow A xi xt)) 36 (zHigh A xi xt)) 39 (zclamp ((A 39) + (zMov A xi xt)) 0 (zRng A))) S T xsm xth xam f xtl xpl g) := zD_addr hD rfl
  refine lv_aload_n hx hb dX6_treats_134 rfl (lv_at hl 2 rfl) ?_
  refine va_get (D := D) (ci := 6) (v := .ref (o 1)) (C := RX6) (T := TX6) (N := 10) hx hb hts hiX6 hown hK hP 0 rfl rfl 0 (by decide) (hts (.fieldLink RX6 7 "ChargeEstimatorModel" "all" "[J") (List.mem_of_getElem? (i := 1) rfl)) (fun _ h9 => h9) rfl dX6_treats_135 ?_
  refine zr_bipush hx hb dX6_treats_138 (by decide) ?_
  refine lv_dup2_11 hx hb dX6_treats_140 rfl rfl ?_
  refine zr_lald (D := D) (g := zU (zU (zU (zU A 34 (zclamp ((A 34) + (zMov A xi xt)) 0 (A 37))) 35 (zLow A xi xt)) 36 (zHigh A xi xt)) 39 (zclamp ((A 39) + (zMov A xi xt)) 0 (zRng A))) hx hb hK hP 1 2 rfl rfl (by decide) (by decide) dX6_treats_141 ?_
  rw [show zU (zU (zU (zU A 34 (zclamp ((A 34) + (zMov A xi xt)) 0 (A 37))) 35 (zLow A xi xt)) 36 (zHigh A xi xt)) 39 (zclamp ((A 39) + (zMov A xi xt)) 0 (zRng A)) 41 = A 41 from by first | rfl | simp [zO, zU]]
  refine lv_lload hx hb dX6_treats_142 (lv_at hl 1 rfl) ?_
  refine zc_rl (va_runS (As := [.long (zL (zMov A xi xt))]) (rest := [.long (zL (A 41)), .int (zI 41), .ref (o 1)]) ⟨hx, hb, hml, hown, hts⟩ (met_X6_size l (zMov A xi xt) (by first | assumption | omega)) (va_cwS 1 hts gX6_treats_X6_size rfl rfl rfl (by decide +kernel) ⟨Nat.le_of_ble_eq_true rfl, Nat.le_of_ble_eq_true rfl⟩) ⟨zTrue.blind, fun U hU hW => ⟨rfl, trivial⟩⟩ rfl rfl hl.1 rfl (lv_room (Nat.le_of_ble_eq_true rfl)) dX6_treats_144 ⟨Nat.le_of_ble_eq_true rfl, Nat.le_of_ble_eq_true rfl⟩) ?_
  refine zr_ladd hx hb dX6_treats_147 ?_
  refine zr_last (D := D) (g := zU (zU (zU (zU A 34 (zclamp ((A 34) + (zMov A xi xt)) 0 (A 37))) 35 (zLow A xi xt)) 36 (zHigh A xi xt)) 39 (zclamp ((A 39) + (zMov A xi xt)) 0 (zRng A))) hx hb hK hP hD hS 1 2 rfl rfl (by decide) (by decide) dX6_treats_148 (fun H locs hP hD hS => ?_)
  have hP : va_P D vwCl (zmod cs o (zU (zU (zU (zU (zU A 34 (zclamp ((A 34) + (zMov A xi xt)) 0 (A 37))) 35 (zLow A xi xt)) 36 (zHigh A xi xt)) 39 (zclamp ((A 39) + (zMov A xi xt)) 0 (zRng A))) 41 ((A 41) + (max (zMov A xi xt) (-(zMov A xi xt))))) S T xsm xth xam f xtl xpl g) H := hP
  have hD : va_D A0 (zmod cs o (zU (zU (zU (zU (zU A 34 (zclamp ((A 34) + (zMov A xi xt)) 0 (A 37))) 35 (zLow A xi xt)) 36 (zHigh A xi xt)) 39 (zclamp ((A 39) + (zMov A xi xt)) 0 (zRng A))) 41 ((A 41) + (max (zMov A xi xt) (-(zMov A xi xt))))) S T xsm xth xam f xtl xpl g) := zD_addr hD rfl
  refine lv_aload_n hx hb dX6_treats_149 rfl (lv_at hl 2 rfl) ?_
  refine va_get (D := D) (ci := 6) (v := .ref (o 1)) (C := RX6) (T := TX6) (N := 10) hx hb hts hiX6 hown hK hP 0 rfl rfl 0 (by decide) (hts (.fieldLink RX6 7 "ChargeEstimatorModel" "all" "[J") (List.mem_of_getElem? (i := 1) rfl)) (fun _ h9 => h9) rfl dX6_treats_150 ?_
  refine zr_bipush hx hb dX6_treats_153 (by decide) ?_
  refine lv_dup2_11 hx hb dX6_treats_155 rfl rfl ?_
  refine zr_lald (D := D) (g := zU (zU (zU (zU (zU A 34 (zclamp ((A 34) + (zMov A xi xt)) 0 (A 37))) 35 (zLow A xi xt)) 36 (zHigh A xi xt)) 39 (zclamp ((A 39) + (zMov A xi xt)) 0 (zRng A))) 41 ((A 41) + (max (zMov A xi xt) (-(zMov A xi xt))))) hx hb hK hP 1 2 rfl rfl (by decide) (by decide) dX6_treats_156 ?_
  rw [show zU (zU (zU (zU (zU A 34 (zclamp ((A 34) + (zMov A xi xt)) 0 (A 37))) 35 (zLow A xi xt)) 36 (zHigh A xi xt)) 39 (zclamp ((A 39) + (zMov A xi xt)) 0 (zRng A))) 41 ((A 41) + (max (zMov A xi xt) (-(zMov A xi xt)))) 40 = A 40 from by first | rfl | simp [zO, zU]]
  refine lv_lload hx hb dX6_treats_157 (lv_at hl 1 rfl) ?_
  refine zr_ladd hx hb dX6_treats_159 ?_
  refine zr_last (D := D) (g := zU (zU (zU (zU (zU A 34 (zclamp ((A 34) + (zMov A xi xt)) 0 (A 37))) 35 (zLow A xi xt)) 36 (zHigh A xi xt)) 39 (zclamp ((A 39) + (zMov A xi xt)) 0 (zRng A))) 41 ((A 41) + (max (zMov A xi xt) (-(zMov A xi xt))))) hx hb hK hP hD hS 1 2 rfl rfl (by decide) (by decide) dX6_treats_160 (fun H locs hP hD hS => ?_)
  have hP : va_P D vwCl (zmod cs o (zU (zU (zU (zU (zU (zU A 34 (zclamp ((A 34) + (zMov A xi xt)) 0 (A 37))) 35 (zLow A xi xt)) 36 (zHigh A xi xt)) 39 (zclamp ((A 39) + (zMov A xi xt)) 0 (zRng A))) 41 ((A 41) + (max (zMov A xi xt) (-(zMov A xi xt))))) 40 ((A 40) + (zMov A xi xt))) S T xsm xth xam f xtl xpl g) H := hP
  have hD : va_D A0 (zmod cs o (zU (zU (zU (zU (zU (zU A 34 (zclamp ((A 34) + (zMov A xi xt)) 0 (A 37))) 35 (zLow A xi xt)) 36 (zHigh A xi xt)) 39 (zclamp ((A 39) + (zMov A xi xt)) 0 (zRng A))) 41 ((A 41) + (max (zMov A xi xt) (-(zMov A xi xt))))) 40 ((A 40) + (zMov A xi xt))) S T xsm xth xam f xtl xpl g) := zD_addr hD rfl
  refine lv_aload_n hx hb dX6_treats_161 rfl (lv_at hl 2 rfl) ?_
  refine va_get (D := D) (ci := 6) (v := .ref (o 1)) (C := RX6) (T := TX6) (N := 10) hx hb hts hiX6 hown hK hP 0 rfl rfl 0 (by decide) (hts (.fieldLink RX6 7 "ChargeEstimatorModel" "all" "[J") (List.mem_of_getElem? (i := 1) rfl)) (fun _ h9 => h9) rfl dX6_treats_162 ?_
  refine zr_bipush hx hb dX6_treats_165 (by decide) ?_
  refine lv_dup2_11 hx hb dX6_treats_167 rfl rfl ?_
  refine zr_lald (D := D) (g := zU (zU (zU (zU (zU (zU A 34 (zclamp ((A 34) + (zMov A xi xt)) 0 (A 37))) 35 (zLow A xi xt)) 36 (zHigh A xi xt)) 39 (zclamp ((A 39) + (zMov A xi xt)) 0 (zRng A))) 41 ((A 41) + (max (zMov A xi xt) (-(zMov A xi xt))))) 40 ((A 40) + (zMov A xi xt))) hx hb hK hP 1 2 rfl rfl (by decide) (by decide) dX6_treats_168 ?_
  rw [show zU (zU (zU (zU (zU (zU A 34 (zclamp ((A 34) + (zMov A xi xt)) 0 (A 37))) 35 (zLow A xi xt)) 36 (zHigh A xi xt)) 39 (zclamp ((A 39) + (zMov A xi xt)) 0 (zRng A))) 41 ((A 41) + (max (zMov A xi xt) (-(zMov A xi xt))))) 40 ((A 40) + (zMov A xi xt)) 42 = A 42 from by first | rfl | simp [zO, zU]]
  refine lv_lload hx hb dX6_treats_169 (lv_at hl 5 rfl) ?_
  refine zr_ladd hx hb dX6_treats_171 ?_
  refine zr_last (D := D) (g := zU (zU (zU (zU (zU (zU A 34 (zclamp ((A 34) + (zMov A xi xt)) 0 (A 37))) 35 (zLow A xi xt)) 36 (zHigh A xi xt)) 39 (zclamp ((A 39) + (zMov A xi xt)) 0 (zRng A))) 41 ((A 41) + (max (zMov A xi xt) (-(zMov A xi xt))))) 40 ((A 40) + (zMov A xi xt))) hx hb hK hP hD hS 1 2 rfl rfl (by decide) (by decide) dX6_treats_172 (fun H locs hP hD hS => ?_)
  have hP : va_P D vwCl (zmod cs o (zU (zU (zU (zU (zU (zU (zU A 34 (zclamp ((A 34) + (zMov A xi xt)) 0 (A 37))) 35 (zLow A xi xt)) 36 (zHigh A xi xt)) 39 (zclamp ((A 39) + (zMov A xi xt)) 0 (zRng A))) 41 ((A 41) + (max (zMov A xi xt) (-(zMov A xi xt))))) 40 ((A 40) + (zMov A xi xt))) 42 ((A 42) + xt)) S T xsm xth xam f xtl xpl g) H := hP
  have hD : va_D A0 (zmod cs o (zU (zU (zU (zU (zU (zU (zU A 34 (zclamp ((A 34) + (zMov A xi xt)) 0 (A 37))) 35 (zLow A xi xt)) 36 (zHigh A xi xt)) 39 (zclamp ((A 39) + (zMov A xi xt)) 0 (zRng A))) 41 ((A 41) + (max (zMov A xi xt) (-(zMov A xi xt))))) 40 ((A 40) + (zMov A xi xt))) 42 ((A 42) + xt)) S T xsm xth xam f xtl xpl g) := zD_addr hD rfl
  have hP : va_P D vwCl (zmod cs o (zCnt A xi xt) S T xsm xth xam f xtl xpl g) H := hP
  have hD : va_D A0 (zmod cs o (zCnt A xi xt) S T xsm xth xam f xtl xpl g) := zD_addr hD rfl
  refine zr_iconst hx hb dX6_treats_173 ?_
  refine lv_istore (lv' := [(11, .int (zI 0)), (9, .long (zL (zDrf A (zMov A xi xt) xt))), (7, .long (zL (zMov A xi xt))), (0, .ref (o 0)), (1, .long (zL xi)), (3, .long (zL xv)), (5, .long (zL xt))]) hx hb dX6_treats_174 hl (by decide) rfl (fun ls hl => ?_)
  have r43 := (zOK_q hc1).2.2.2.2.2.2.2.2.1
  have r45 := (zOK_q hc1).2.2.2.2.2.2.2.2.2.2.1
  have r46 := (zOK_q hc1).2.2.2.2.2.2.2.2.2.2.2.1
  have r4 := (zOK_s hc1).2.2.2.2.1
  have r5 := (zOK_s hc1).2.2.2.2.2.1
  refine lv_lload_n hx hb dX6_treats_176 rfl (lv_at hl 4 rfl) ?_
  refine lv_aload_n hx hb dX6_treats_177 rfl (lv_at hl 3 rfl) ?_
  refine va_get (D := D) (ci := 6) (v := .ref (o 1)) (C := RX6) (T := TX6) (N := 10) hx hb hts hiX6 hown hK hP 0 rfl rfl 0 (by decide) (hts (.fieldLink RX6 7 "ChargeEstimatorModel" "all" "[J") (List.mem_of_getElem? (i := 1) rfl)) (fun _ h9 => h9) rfl dX6_treats_178 ?_
  refine zr_iconst hx hb dX6_treats_181 ?_
  refine zr_lald (D := D) (g := zCnt A xi xt) hx hb hK hP 1 2 rfl rfl (by decide) (by decide) dX6_treats_182 ?_
  refine zr_lneg hx hb dX6_treats_183 ?_
  refine lv_aload_n hx hb dX6_treats_184 rfl (lv_at hl 3 rfl) ?_
  refine va_get (D := D) (ci := 6) (v := .ref (o 1)) (C := RX6) (T := TX6) (N := 10) hx hb hts hiX6 hown hK hP 0 rfl rfl 0 (by decide) (hts (.fieldLink RX6 7 "ChargeEstimatorModel" "all" "[J") (List.mem_of_getElem? (i := 1) rfl)) (fun _ h9 => h9) rfl dX6_treats_185 ?_
  refine zr_iconst hx hb dX6_treats_188 ?_
  refine zr_lald (D := D) (g := zCnt A xi xt) hx hb hK hP 1 2 rfl rfl (by decide) (by decide) dX6_treats_189 ?_
  refine zc_ri (va_runS (As := [.long (zL xi), .long (zL (-((zCnt A xi xt) 4))), .long (zL ((zCnt A xi xt) 4))]) (rest := []) ⟨hx, hb, hml, hown, hts⟩ (met_X6_in l xi (-((zCnt A xi xt) 4)) ((zCnt A xi xt) 4) (by first | assumption | omega) (by first | assumption | omega) (by first | assumption | omega)) (va_cwS 3 hts gX6_treats_X6_in rfl rfl rfl (by decide +kernel) ⟨Nat.le_of_ble_eq_true rfl, Nat.le_of_ble_eq_true rfl⟩) ⟨zTrue.blind, fun U hU hW => ⟨rfl, trivial⟩⟩ rfl rfl hl.1 rfl (lv_room (Nat.le_of_ble_eq_true rfl)) dX6_treats_190 ⟨Nat.le_of_ble_eq_true rfl, Nat.le_of_ble_eq_true rfl⟩) ?_
  refine zr_ifb_eq (tgt := 234) hx hb dX6_treats_193 (by decide) (fun c17 => ?_) (fun c17 => ?_)
  · refine zr_iconst hx hb dX6_treats_234 ?_
    refine lv_istore (lv' := [(12, .int (zI 0)), (11, .int (zI 0)), (9, .long (zL (zDrf A (zMov A xi xt) xt))), (7, .long (zL (zMov A xi xt))), (0, .ref (o 0)), (1, .long (zL xi)), (3, .long (zL xv)), (5, .long (zL xt))]) hx hb dX6_treats_235 hl (by decide) rfl (fun ls hl => ?_)
    refine lv_aload_n hx hb dX6_treats_237 rfl (lv_at hl 4 rfl) ?_
    refine va_get (D := D) (ci := 6) (v := .ref (o 1)) (C := RX6) (T := TX6) (N := 10) hx hb hts hiX6 hown hK hP 0 rfl rfl 0 (by decide) (hts (.fieldLink RX6 7 "ChargeEstimatorModel" "all" "[J") (List.mem_of_getElem? (i := 1) rfl)) (fun _ h9 => h9) rfl dX6_treats_238 ?_
    refine zr_bipush hx hb dX6_treats_241 (by decide) ?_
    refine zr_lald (D := D) (g := zCnt A xi xt) hx hb hK hP 1 2 rfl rfl (by decide) (by decide) dX6_treats_243 ?_
    refine lv_lstore (lv' := [(13, .long (zL ((zCnt A xi xt) 43))), (12, .int (zI 0)), (11, .int (zI 0)), (9, .long (zL (zDrf A (zMov A xi xt) xt))), (7, .long (zL (zMov A xi xt))), (0, .ref (o 0)), (1, .long (zL xi)), (3, .long (zL xv)), (5, .long (zL xt))]) hx hb dX6_treats_244 hl (by decide) rfl (fun ls hl => ?_)
    refine lv_aload_n hx hb dX6_treats_246 rfl (lv_at hl 5 rfl) ?_
    refine va_get (D := D) (ci := 6) (v := .ref (o 1)) (C := RX6) (T := TX6) (N := 10) hx hb hts hiX6 hown hK hP 0 rfl rfl 0 (by decide) (hts (.fieldLink RX6 7 "ChargeEstimatorModel" "all" "[J") (List.mem_of_getElem? (i := 1) rfl)) (fun _ h9 => h9) rfl dX6_treats_247 ?_
    refine zr_bipush hx hb dX6_treats_250 (by decide) ?_
    refine lv_iload hx hb dX6_treats_252 (lv_at hl 1 rfl) ?_
    refine zr_if_eq (tgt := 265) hx hb dX6_treats_254 (by decide) (by decide) (fun c18 => ?_) (fun c18 => ?_)
    · refine zr_lconst0 hx hb dX6_treats_265 ?_
      refine zr_last (D := D) (g := zCnt A xi xt) hx hb hK hP hD hS 1 2 rfl rfl (by decide) (by decide) dX6_treats_266 (fun H locs hP hD hS => ?_)
      have hP : va_P D vwCl (zmod cs o (zU (zCnt A xi xt) 43 0) S T xsm xth xam f xtl xpl g) H := hP
      have hD : va_D A0 (zmod cs o (zU (zCnt A xi xt) 43 0) S T xsm xth xam f xtl xpl g) := zD_addr hD rfl
      exact J_267   _ _ (by first | (rw [show zT2 A xi xv xt = zU (zCnt A xi xt) 43 (zCnt A xi xt 43 + xt) from zRst_t (by unfold zRests; omega)]; exact hP) | (rw [show zT2 A xi xv xt = zU (zCnt A xi xt) 43 0 from zRst_f (by unfold zRests; omega)]; exact hP)) (zD_addr hD rfl) hS _ (lv_sub hl [5, 6, 7, 8, 2, 0] rfl)
    · exact absurd c18 (by decide)
  · refine lv_aload_n hx hb dX6_treats_196 rfl (lv_at hl 3 rfl) ?_
    refine va_get (D := D) (ci := 6) (v := .ref (o 1)) (C := RX6) (T := TX6) (N := 10) hx hb hts hiX6 hown hK hP 0 rfl rfl 0 (by decide) (hts (.fieldLink RX6 7 "ChargeEstimatorModel" "all" "[J") (List.mem_of_getElem? (i := 1) rfl)) (fun _ h9 => h9) rfl dX6_treats_197 ?_
    refine zr_bipush hx hb dX6_treats_200 (by decide) ?_
    refine zr_lald (D := D) (g := zCnt A xi xt) hx hb hK hP 1 2 rfl rfl (by decide) (by decide) dX6_treats_202 ?_
    refine zr_lconst1 hx hb dX6_treats_203 ?_
    refine zr_lcmp_ne (tgt := 234) hx hb dX6_treats_204 dX6_treats_205 (by decide) (by omega) (by decide) (fun c19 => ?_) (fun c19 => ?_)
    · refine zr_iconst hx hb dX6_treats_234 ?_
      refine lv_istore (lv' := [(12, .int (zI 0)), (11, .int (zI 0)), (9, .long (zL (zDrf A (zMov A xi xt) xt))), (7, .long (zL (zMov A xi xt))), (0, .ref (o 0)), (1, .long (zL xi)), (3, .long (zL xv)), (5, .long (zL xt))]) hx hb dX6_treats_235 hl (by decide) rfl (fun ls hl => ?_)
      refine lv_aload_n hx hb dX6_treats_237 rfl (lv_at hl 4 rfl) ?_
      refine va_get (D := D) (ci := 6) (v := .ref (o 1)) (C := RX6) (T := TX6) (N := 10) hx hb hts hiX6 hown hK hP 0 rfl rfl 0 (by decide) (hts (.fieldLink RX6 7 "ChargeEstimatorModel" "all" "[J") (List.mem_of_getElem? (i := 1) rfl)) (fun _ h9 => h9) rfl dX6_treats_238 ?_
      refine zr_bipush hx hb dX6_treats_241 (by decide) ?_
      refine zr_lald (D := D) (g := zCnt A xi xt) hx hb hK hP 1 2 rfl rfl (by decide) (by decide) dX6_treats_243 ?_
      refine lv_lstore (lv' := [(13, .long (zL ((zCnt A xi xt) 43))), (12, .int (zI 0)), (11, .int (zI 0)), (9, .long (zL (zDrf A (zMov A xi xt) xt))), (7, .long (zL (zMov A xi xt))), (0, .ref (o 0)), (1, .long (zL xi)), (3, .long (zL xv)), (5, .long (zL xt))]) hx hb dX6_treats_244 hl (by decide) rfl (fun ls hl => ?_)
      refine lv_aload_n hx hb dX6_treats_246 rfl (lv_at hl 5 rfl) ?_
      refine va_get (D := D) (ci := 6) (v := .ref (o 1)) (C := RX6) (T := TX6) (N := 10) hx hb hts hiX6 hown hK hP 0 rfl rfl 0 (by decide) (hts (.fieldLink RX6 7 "ChargeEstimatorModel" "all" "[J") (List.mem_of_getElem? (i := 1) rfl)) (fun _ h9 => h9) rfl dX6_treats_247 ?_
      refine zr_bipush hx hb dX6_treats_250 (by decide) ?_
      refine lv_iload hx hb dX6_treats_252 (lv_at hl 1 rfl) ?_
      refine zr_if_eq (tgt := 265) hx hb dX6_treats_254 (by decide) (by decide) (fun c20 => ?_) (fun c20 => ?_)
      · refine zr_lconst0 hx hb dX6_treats_265 ?_
        refine zr_last (D := D) (g := zCnt A xi xt) hx hb hK hP hD hS 1 2 rfl rfl (by decide) (by decide) dX6_treats_266 (fun H locs hP hD hS => ?_)
        have hP : va_P D vwCl (zmod cs o (zU (zCnt A xi xt) 43 0) S T xsm xth xam f xtl xpl g) H := hP
        have hD : va_D A0 (zmod cs o (zU (zCnt A xi xt) 43 0) S T xsm xth xam f xtl xpl g) := zD_addr hD rfl
        exact J_267   _ _ (by first | (rw [show zT2 A xi xv xt = zU (zCnt A xi xt) 43 (zCnt A xi xt 43 + xt) from zRst_t (by unfold zRests; omega)]; exact hP) | (rw [show zT2 A xi xv xt = zU (zCnt A xi xt) 43 0 from zRst_f (by unfold zRests; omega)]; exact hP)) (zD_addr hD rfl) hS _ (lv_sub hl [5, 6, 7, 8, 2, 0] rfl)
      · exact absurd c20 (by decide)
    · refine lv_lload_n hx hb dX6_treats_208 rfl (lv_at hl 5 rfl) ?_
      refine lv_aload_n hx hb dX6_treats_209 rfl (lv_at hl 3 rfl) ?_
      refine va_get (D := D) (ci := 6) (v := .ref (o 1)) (C := RX6) (T := TX6) (N := 10) hx hb hts hiX6 hown hK hP 0 rfl rfl 0 (by decide) (hts (.fieldLink RX6 7 "ChargeEstimatorModel" "all" "[J") (List.mem_of_getElem? (i := 1) rfl)) (fun _ h9 => h9) rfl dX6_treats_210 ?_
      refine zr_bipush hx hb dX6_treats_213 (by decide) ?_
      refine zr_lald (D := D) (g := zCnt A xi xt) hx hb hK hP 1 2 rfl rfl (by decide) (by decide) dX6_treats_215 ?_
      refine zr_lsub hx hb dX6_treats_216 ?_
      refine zc_rl (va_runS (As := [.long (zL (xv - ((zCnt A xi xt) 46)))]) (rest := []) ⟨hx, hb, hml, hown, hts⟩ (met_X6_size l (xv - ((zCnt A xi xt) 46)) (by first | assumption | omega)) (va_cwS 1 hts gX6_treats_X6_size rfl rfl rfl (by decide +kernel) ⟨Nat.le_of_ble_eq_true rfl, Nat.le_of_ble_eq_true rfl⟩) ⟨zTrue.blind, fun U hU hW => ⟨rfl, trivial⟩⟩ rfl rfl hl.1 rfl (lv_room (Nat.le_of_ble_eq_true rfl)) dX6_treats_217 ⟨Nat.le_of_ble_eq_true rfl, Nat.le_of_ble_eq_true rfl⟩) ?_
      refine lv_aload_n hx hb dX6_treats_220 rfl (lv_at hl 3 rfl) ?_
      refine va_get (D := D) (ci := 6) (v := .ref (o 1)) (C := RX6) (T := TX6) (N := 10) hx hb hts hiX6 hown hK hP 0 rfl rfl 0 (by decide) (hts (.fieldLink RX6 7 "ChargeEstimatorModel" "all" "[J") (List.mem_of_getElem? (i := 1) rfl)) (fun _ h9 => h9) rfl dX6_treats_221 ?_
      refine zr_iconst hx hb dX6_treats_224 ?_
      refine zr_lald (D := D) (g := zCnt A xi xt) hx hb hK hP 1 2 rfl rfl (by decide) (by decide) dX6_treats_225 ?_
      refine zr_lcmp_gt (tgt := 234) hx hb dX6_treats_226 dX6_treats_227 (by decide) (by omega) (by omega) (fun c21 => ?_) (fun c21 => ?_)
      · refine zr_iconst hx hb dX6_treats_234 ?_
        refine lv_istore (lv' := [(12, .int (zI 0)), (11, .int (zI 0)), (9, .long (zL (zDrf A (zMov A xi xt) xt))), (7, .long (zL (zMov A xi xt))), (0, .ref (o 0)), (1, .long (zL xi)), (3, .long (zL xv)), (5, .long (zL xt))]) hx hb dX6_treats_235 hl (by decide) rfl (fun ls hl => ?_)
        refine lv_aload_n hx hb dX6_treats_237 rfl (lv_at hl 4 rfl) ?_
        refine va_get (D := D) (ci := 6) (v := .ref (o 1)) (C := RX6) (T := TX6) (N := 10) hx hb hts hiX6 hown hK hP 0 rfl rfl 0 (by decide) (hts (.fieldLink RX6 7 "ChargeEstimatorModel" "all" "[J") (List.mem_of_getElem? (i := 1) rfl)) (fun _ h9 => h9) rfl dX6_treats_238 ?_
        refine zr_bipush hx hb dX6_treats_241 (by decide) ?_
        refine zr_lald (D := D) (g := zCnt A xi xt) hx hb hK hP 1 2 rfl rfl (by decide) (by decide) dX6_treats_243 ?_
        refine lv_lstore (lv' := [(13, .long (zL ((zCnt A xi xt) 43))), (12, .int (zI 0)), (11, .int (zI 0)), (9, .long (zL (zDrf A (zMov A xi xt) xt))), (7, .long (zL (zMov A xi xt))), (0, .ref (o 0)), (1, .long (zL xi)), (3, .long (zL xv)), (5, .long (zL xt))]) hx hb dX6_treats_244 hl (by decide) rfl (fun ls hl => ?_)
        refine lv_aload_n hx hb dX6_treats_246 rfl (lv_at hl 5 rfl) ?_
        refine va_get (D := D) (ci := 6) (v := .ref (o 1)) (C := RX6) (T := TX6) (N := 10) hx hb hts hiX6 hown hK hP 0 rfl rfl 0 (by decide) (hts (.fieldLink RX6 7 "ChargeEstimatorModel" "all" "[J") (List.mem_of_getElem? (i := 1) rfl)) (fun _ h9 => h9) rfl dX6_treats_247 ?_
        refine zr_bipush hx hb dX6_treats_250 (by decide) ?_
        refine lv_iload hx hb dX6_treats_252 (lv_at hl 1 rfl) ?_
        refine zr_if_eq (tgt := 265) hx hb dX6_treats_254 (by decide) (by decide) (fun c22 => ?_) (fun c22 => ?_)
        · refine zr_lconst0 hx hb dX6_treats_265 ?_
          refine zr_last (D := D) (g := zCnt A xi xt) hx hb hK hP hD hS 1 2 rfl rfl (by decide) (by decide) dX6_treats_266 (fun H locs hP hD hS => ?_)
          have hP : va_P D vwCl (zmod cs o (zU (zCnt A xi xt) 43 0) S T xsm xth xam f xtl xpl g) H := hP
          have hD : va_D A0 (zmod cs o (zU (zCnt A xi xt) 43 0) S T xsm xth xam f xtl xpl g) := zD_addr hD rfl
          exact J_267   _ _ (by first | (rw [show zT2 A xi xv xt = zU (zCnt A xi xt) 43 (zCnt A xi xt 43 + xt) from zRst_t (by unfold zRests; omega)]; exact hP) | (rw [show zT2 A xi xv xt = zU (zCnt A xi xt) 43 0 from zRst_f (by unfold zRests; omega)]; exact hP)) (zD_addr hD rfl) hS _ (lv_sub hl [5, 6, 7, 8, 2, 0] rfl)
        · exact absurd c22 (by decide)
      · refine zr_iconst hx hb dX6_treats_230 ?_
        refine lv_goto (tgt := 235) hx hb dX6_treats_231 (by decide) ?_
        refine lv_istore (lv' := [(12, .int (zI 1)), (11, .int (zI 0)), (9, .long (zL (zDrf A (zMov A xi xt) xt))), (7, .long (zL (zMov A xi xt))), (0, .ref (o 0)), (1, .long (zL xi)), (3, .long (zL xv)), (5, .long (zL xt))]) hx hb dX6_treats_235 hl (by decide) rfl (fun ls hl => ?_)
        refine lv_aload_n hx hb dX6_treats_237 rfl (lv_at hl 4 rfl) ?_
        refine va_get (D := D) (ci := 6) (v := .ref (o 1)) (C := RX6) (T := TX6) (N := 10) hx hb hts hiX6 hown hK hP 0 rfl rfl 0 (by decide) (hts (.fieldLink RX6 7 "ChargeEstimatorModel" "all" "[J") (List.mem_of_getElem? (i := 1) rfl)) (fun _ h9 => h9) rfl dX6_treats_238 ?_
        refine zr_bipush hx hb dX6_treats_241 (by decide) ?_
        refine zr_lald (D := D) (g := zCnt A xi xt) hx hb hK hP 1 2 rfl rfl (by decide) (by decide) dX6_treats_243 ?_
        refine lv_lstore (lv' := [(13, .long (zL ((zCnt A xi xt) 43))), (12, .int (zI 1)), (11, .int (zI 0)), (9, .long (zL (zDrf A (zMov A xi xt) xt))), (7, .long (zL (zMov A xi xt))), (0, .ref (o 0)), (1, .long (zL xi)), (3, .long (zL xv)), (5, .long (zL xt))]) hx hb dX6_treats_244 hl (by decide) rfl (fun ls hl => ?_)
        refine lv_aload_n hx hb dX6_treats_246 rfl (lv_at hl 5 rfl) ?_
        refine va_get (D := D) (ci := 6) (v := .ref (o 1)) (C := RX6) (T := TX6) (N := 10) hx hb hts hiX6 hown hK hP 0 rfl rfl 0 (by decide) (hts (.fieldLink RX6 7 "ChargeEstimatorModel" "all" "[J") (List.mem_of_getElem? (i := 1) rfl)) (fun _ h9 => h9) rfl dX6_treats_247 ?_
        refine zr_bipush hx hb dX6_treats_250 (by decide) ?_
        refine lv_iload hx hb dX6_treats_252 (lv_at hl 1 rfl) ?_
        refine zr_if_eq (tgt := 265) hx hb dX6_treats_254 (by decide) (by decide) (fun c23 => ?_) (fun c23 => ?_)
        · exact absurd c23 (by decide)
        · refine lv_lload hx hb dX6_treats_257 (lv_at hl 0 rfl) ?_
          refine lv_lload hx hb dX6_treats_259 (lv_at hl 8 rfl) ?_
          refine zr_ladd hx hb dX6_treats_261 ?_
          refine lv_goto (tgt := 266) hx hb dX6_treats_262 (by decide) ?_
          refine zr_last (D := D) (g := zCnt A xi xt) hx hb hK hP hD hS 1 2 rfl rfl (by decide) (by decide) dX6_treats_266 (fun H locs hP hD hS => ?_)
          have hP : va_P D vwCl (zmod cs o (zU (zCnt A xi xt) 43 (((zCnt A xi xt) 43) + xt)) S T xsm xth xam f xtl xpl g) H := hP
          have hD : va_D A0 (zmod cs o (zU (zCnt A xi xt) 43 (((zCnt A xi xt) 43) + xt)) S T xsm xth xam f xtl xpl g) := zD_addr hD rfl
          exact J_267   _ _ (by first | (rw [show zT2 A xi xv xt = zU (zCnt A xi xt) 43 (zCnt A xi xt 43 + xt) from zRst_t (by unfold zRests; omega)]; exact hP) | (rw [show zT2 A xi xv xt = zU (zCnt A xi xt) 43 0 from zRst_f (by unfold zRests; omega)]; exact hP)) (zD_addr hD rfl) hS _ (lv_sub hl [5, 6, 7, 8, 2, 0] rfl)
