/-! the reference: a number of the text -/
abbrev zFig (f : Int → Int) (L t : Int) : Prop := t < L ∧ 48 ≤ f t ∧ f t ≤ 57
def zMin (f : Int → Int) (L t : Int) : Int := zB (t < L ∧ f t = 45)
def zFE (f : Int → Int) (L q : Int) : Int := zFst (fun t => decide (¬ zFig f L t)) 5 q
def zNm (f : Int → Int) (q : Int) : Nat → Int
  | 0 => 0
  | k + 1 => 10 * zNm f q k + f (q + (k : Int)) - 48
theorem zNm_s (f : Int → Int) (q : Int) {j : Int} (h : 0 ≤ j) : zNm f q (j + 1).toNat = 10 * zNm f q j.toNat + f (q + j) - 48 := by
  rw [ztn j h]
  show 10 * zNm f q j.toNat + f (q + ((j.toNat : Nat) : Int)) - 48 = _
  rw [Int.toNat_of_nonneg h]
theorem zFE_r (f : Int → Int) (L q : Int) : ∃ j : Int, (0 ≤ j ∧ j ≤ 5) ∧ zFE f L q = q + j ∧ (∀ k, q ≤ k → k < q + j → zFig f L k) ∧ (j < 5 → ¬ zFig f L (q + j)) := by
  have key : ∀ (n : Nat) (s : Int), ∃ j : Int, (0 ≤ j ∧ j ≤ n) ∧ zFst (fun t => decide (¬ zFig f L t)) n s = s + j ∧ (∀ k, s ≤ k → k < s + j → zFig f L k) ∧ (j < n → ¬ zFig f L (s + j)) := by
    intro n
    induction n with
    | zero => exact fun s => ⟨0, ⟨Int.le_refl _, Int.le_refl _⟩, (Int.add_zero s).symm, fun k a b => by omega, fun h => absurd h (by omega)⟩
    | succ n ih =>
      intro s
      by_cases h : zFig f L s
      · obtain ⟨j, h1, h2, h3, h4⟩ := ih (s + 1)
        refine ⟨j + 1, by omega, ?_, ?_, ?_⟩
        · show (if decide (¬ zFig f L s) = true then s else zFst (fun t => decide (¬ zFig f L t)) n (s + 1)) = _
          rw [if_neg (fun q => absurd h (of_decide_eq_true q)), h2]
          omega
        · intro k a b
          rcases Int.lt_or_le s k with q | q
          · exact h3 k (by omega) (by omega)
          · rw [show k = s by omega]; exact h
        · intro a
          rw [show s + (j + 1) = s + 1 + j by omega]
          exact h4 (by omega)
      · refine ⟨0, by omega, ?_, fun k a b => by omega, fun _ => by rw [Int.add_zero]; exact h⟩
        show (if decide (¬ zFig f L s) = true then s else zFst (fun t => decide (¬ zFig f L t)) n (s + 1)) = _
        rw [if_pos (decide_eq_true h), Int.add_zero]
  exact key 5 q
theorem zFE_eq {f : Int → Int} {L q j : Int} (h : 0 ≤ j ∧ j ≤ 5) (h1 : ∀ k, q ≤ k → k < q + j → zFig f L k) (h2 : j < 5 → ¬ zFig f L (q + j)) : zFE f L q = q + j :=
  zFst_eq (by omega) (by omega) (fun k a b => decide_eq_false (fun h => h (h1 k a (by omega)))) (fun a => decide_eq_true (h2 (by omega)))
abbrev zRok (f : Int → Int) (L n q : Int) : Prop := q < zFE f L q ∧ ¬ zFig f L (zFE f L q) ∧ zFE f L q < L ∧ f (zFE f L q) = zSep n
theorem zMin_r (f : Int → Int) (L t : Int) : (zMin f L t = 1 ∧ t < L ∧ f t = 45) ∨ (zMin f L t = 0 ∧ ¬ (t < L ∧ f t = 45)) := by
  unfold zMin
  by_cases h : t < L ∧ f t = 45
  · exact Or.inl ⟨zB_t h, h⟩
  · exact Or.inr ⟨zB_f h, h⟩
set_option maxHeartbeats 4000000 in
set_option maxRecDepth 100000 in
theorem met_X6_passes (l : Launch) (D : va_G) (cs : Nat → ClassId) (o : Nat → Nat) (sz : Nat) (A S T : Int → Int) (xsm xth xam : Int) (f : Int → Int) (xtl xpl : Int) (g : Int → Int) (xv : Int) (ktl : 0 ≤ xtl ∧ xtl ≤ 120) (kpl : 0 ≤ xpl ∧ xpl ≤ xtl) (kfr : ∀ k : Int, 0 ≤ k → k < xtl → 0 ≤ f k ∧ f k ≤ 127) (kxv : 0 ≤ xv ∧ xv ≤ 127) : Met l yX6_passes wsX6_passes ({ frames := 0, cells := 0, slots := 0, locals := 0 }) (va_Pc [.ref (o 0), .int (zI xv)] (zPreZ D (zTy cs) (zmod cs o A S T xsm xth xam f xtl xpl g) sz)) (zQi D (zmod cs o A S T xsm xth xam f xtl xpl g) sz (zI (zB (xpl < xtl ∧ f xpl = xv))) (zmod cs o A S T xsm xth xam f xtl (xpl + zB (xpl < xtl ∧ f xpl = xv)) g)) 0 0 (va_A (zmod cs o A S T xsm xth xam f xtl xpl g) sz) := by
  refine Met.ofW (cc := cX6_passes) (maxL := 3) (ret := (some .boolean)) (by decide) rfl ?_
  intro p e s m args below meth c s₁ B hml hv
  obtain ⟨rfl, hsz, hP, hK, hD0, hN⟩ := hv
  have hx := B.exec
  have hb := B.bytes
  have hr := B.returns
  have hts := atoms_spec (ws := wsX6_passes) B.pre
  have hown : s.vm.findClass RX6 = some m.cls := findClass_of_methodNamed B.named
  have hlocks := B.notSynchronized
  subst hsz
  obtain ⟨A0, hAe⟩ : ∃ A0, A0 = va_A (zmod cs o A S T xsm xth xam f xtl xpl g) s.heap.size := ⟨_, rfl⟩
  have hD := hD0.self (sz := s.heap.size)
  rw [← hAe] at hD
  have hA : ∀ q : Nat, s.heap.size ≤ q → A0 q := fun q h => by rw [hAe]; exact Or.inr h
  have hS : va_S A0 s.heap s.heap [] := va_S.rf
  have hP : va_P D vwCl (zmod cs o A S T xsm xth xam f xtl xpl g) s.heap := hP
  have hl := lv_entry ([.ref (o 0), .int (zI xv)]) (n := 3) (Nat.le_of_ble_eq_true rfl)
  rw [lg_entry_eq]
  generalize (lg_sl ([.ref (o 0), .int (zI xv)]) ++ List.replicate (3 - (lg_sl ([.ref (o 0), .int (zI xv)])).length) Slot.unset).toArray = ls at hl ⊢
  have hl : lv_has ls 3 [(0, .ref (o 0)), (1, .int (zI xv))] := hl
  have hiX6 : ∀ w ∈ wsX60, w ∈ wsX6_passes := by decide +kernel
  have hf := kfr xpl
  refine lv_aload_n hx hb dX6_passes_0 rfl (lv_at hl 0 rfl) ?_
  refine va_get (D := D) (ci := 6) (v := .int (zI xpl)) (C := RX6) (T := TX6) (N := 10) hx hb hts hiX6 hown hK hP 0 rfl rfl 8 (by decide) (hts (.fieldLink RX6 240 "ChargeEstimatorModel" "place" "I") (List.mem_of_getElem? (i := 1) rfl)) (fun _ h9 => h9) rfl dX6_passes_1 ?_
  refine lv_aload_n hx hb dX6_passes_4 rfl (lv_at hl 0 rfl) ?_
  refine va_get (D := D) (ci := 6) (v := .int (zI xtl)) (C := RX6) (T := TX6) (N := 10) hx hb hts hiX6 hown hK hP 0 rfl rfl 7 (by decide) (hts (.fieldLink RX6 237 "ChargeEstimatorModel" "textLong" "I") (List.mem_of_getElem? (i := 2) rfl)) (fun _ h9 => h9) rfl dX6_passes_5 ?_
  refine zr_icmp_ge (tgt := 28) hx hb dX6_passes_8 (by decide) (by omega) (by omega) (fun c1 => ?_) (fun c1 => ?_)
  · refine zr_iconst hx hb dX6_passes_28 ?_
    refine lv_istore_n (lv' := [(2, .int (zI 0)), (0, .ref (o 0)), (1, .int (zI xv))]) hx hb dX6_passes_29 rfl hl (by decide) rfl (fun ls hl => ?_)
    refine lv_aload_n hx hb dX6_passes_30 rfl (lv_at hl 1 rfl) ?_
    refine lv_dup hx hb dX6_passes_31 rfl ?_
    refine va_get (D := D) (ci := 6) (v := .int (zI xpl)) (C := RX6) (T := TX6) (N := 10) hx hb hts hiX6 hown hK hP 0 rfl rfl 8 (by decide) (hts (.fieldLink RX6 240 "ChargeEstimatorModel" "place" "I") (List.mem_of_getElem? (i := 1) rfl)) (fun _ h9 => h9) rfl dX6_passes_32 ?_
    refine lv_iload_n hx hb dX6_passes_35 rfl (lv_at hl 0 rfl) ?_
    refine zr_if_eq (tgt := 43) hx hb dX6_passes_36 (by decide) (by decide) (fun c2 => ?_) (fun c2 => ?_)
    · refine zr_iconst hx hb dX6_passes_43 ?_
      refine zr_iadd hx hb dX6_passes_44 ?_
      refine va_put (D := D) (ci := 6) (v := .int (zI (xpl + 0))) (ty := .int) (C := RX6) (T := TX6) (N := 10) hx hb hts hiX6 tyX6 tyX6_ok nmX6 hown hK hP hD hS 0 rfl rfl 8 (by decide) (hts (.fieldLink RX6 240 "ChargeEstimatorModel" "place" "I") (List.mem_of_getElem? (i := 1) rfl)) (fun _ h9 => h9) rfl (by decide +kernel) rfl rfl (Nat.le_of_ble_eq_true rfl) dX6_passes_45 (fun H locs hP hD hS => ?_)
      have hP : va_P D vwCl (zmod cs o A S T xsm xth xam f xtl (xpl + 0) g) H := hP
      have hD : va_D A0 (zmod cs o A S T xsm xth xam f xtl (xpl + 0) g) := zD_addr hD rfl
      refine lv_iload_n hx hb dX6_passes_48 rfl (lv_at hl 0 rfl) ?_
      have hP8 : va_P D vwCl (zmod cs o A S T xsm xth xam f xtl (xpl + zB (xpl < xtl ∧ f xpl = xv)) g) H := by first | (rw [zB_t (P := xpl < xtl ∧ f xpl = xv) (by omega)]; exact hP) | (rw [zB_f (P := xpl < xtl ∧ f xpl = xv) (by omega)]; exact hP)
      have hP9 : va_P D vwCl (zmod cs o A S T xsm xth xam f xtl (xpl + zB (xpl < xtl ∧ f xpl = xv)) g) H := hP8
      have hD9 : va_D A0 (zmod cs o A S T xsm xth xam f xtl (xpl + zB (xpl < xtl ∧ f xpl = xv)) g) := zD_addr hD rfl
      subst hAe
      exact W.zret hx hb hr (zbool_n (by first | decide | exact zB_r _)) (fun t ht hW => ⟨⟨_, (), rfl, (congrArg zI (show 0 = zB (xpl < xtl ∧ f xpl = xv) from by first | exact (zB_t (by omega)).symm | exact (zB_f (by omega)).symm)), by rw [ht]; exact hP9, hD9⟩, hS.F ht⟩) hS.2.2 dX6_passes_49
    · exact absurd c2 (by decide)
  · refine lv_aload_n hx hb dX6_passes_11 rfl (lv_at hl 0 rfl) ?_
    refine va_get (D := D) (ci := 6) (v := .ref (o 4)) (C := RX6) (T := TX6) (N := 10) hx hb hts hiX6 hown hK hP 0 rfl rfl 6 (by decide) (hts (.fieldLink RX6 19 "ChargeEstimatorModel" "text" "[I") (List.mem_of_getElem? (i := 3) rfl)) (fun _ h9 => h9) rfl dX6_passes_12 ?_
    refine lv_aload_n hx hb dX6_passes_15 rfl (lv_at hl 0 rfl) ?_
    refine va_get (D := D) (ci := 6) (v := .int (zI xpl)) (C := RX6) (T := TX6) (N := 10) hx hb hts hiX6 hown hK hP 0 rfl rfl 8 (by decide) (hts (.fieldLink RX6 240 "ChargeEstimatorModel" "place" "I") (List.mem_of_getElem? (i := 1) rfl)) (fun _ h9 => h9) rfl dX6_passes_16 ?_
    refine zr_iald (D := D) (g := f) hx hb hK hP 4 0 rfl rfl (by decide) (by omega) dX6_passes_19 ?_
    refine lv_iload_n hx hb dX6_passes_20 rfl (lv_at hl 1 rfl) ?_
    refine zr_icmp_ne (tgt := 28) hx hb dX6_passes_21 (by decide) (by omega) (by omega) (fun c3 => ?_) (fun c3 => ?_)
    · refine zr_iconst hx hb dX6_passes_28 ?_
      refine lv_istore_n (lv' := [(2, .int (zI 0)), (0, .ref (o 0)), (1, .int (zI xv))]) hx hb dX6_passes_29 rfl hl (by decide) rfl (fun ls hl => ?_)
      refine lv_aload_n hx hb dX6_passes_30 rfl (lv_at hl 1 rfl) ?_
      refine lv_dup hx hb dX6_passes_31 rfl ?_
      refine va_get (D := D) (ci := 6) (v := .int (zI xpl)) (C := RX6) (T := TX6) (N := 10) hx hb hts hiX6 hown hK hP 0 rfl rfl 8 (by decide) (hts (.fieldLink RX6 240 "ChargeEstimatorModel" "place" "I") (List.mem_of_getElem? (i := 1) rfl)) (fun _ h9 => h9) rfl dX6_passes_32 ?_
      refine lv_iload_n hx hb dX6_passes_35 rfl (lv_at hl 0 rfl) ?_
      refine zr_if_eq (tgt := 43) hx hb dX6_passes_36 (by decide) (by decide) (fun c4 => ?_) (fun c4 => ?_)
      · refine zr_iconst hx hb dX6_passes_43 ?_
        refine zr_iadd hx hb dX6_passes_44 ?_
        refine va_put (D := D) (ci := 6) (v := .int (zI (xpl + 0))) (ty := .int) (C := RX6) (T := TX6) (N := 10) hx hb hts hiX6 tyX6 tyX6_ok nmX6 hown hK hP hD hS 0 rfl rfl 8 (by decide) (hts (.fieldLink RX6 240 "ChargeEstimatorModel" "place" "I") (List.mem_of_getElem? (i := 1) rfl)) (fun _ h9 => h9) rfl (by decide +kernel) rfl rfl (Nat.le_of_ble_eq_true rfl) dX6_passes_45 (fun H locs hP hD hS => ?_)
        have hP : va_P D vwCl (zmod cs o A S T xsm xth xam f xtl (xpl + 0) g) H := hP
        have hD : va_D A0 (zmod cs o A S T xsm xth xam f xtl (xpl + 0) g) := zD_addr hD rfl
        refine lv_iload_n hx hb dX6_passes_48 rfl (lv_at hl 0 rfl) ?_
        have hP8 : va_P D vwCl (zmod cs o A S T xsm xth xam f xtl (xpl + zB (xpl < xtl ∧ f xpl = xv)) g) H := by first | (rw [zB_t (P := xpl < xtl ∧ f xpl = xv) (by omega)]; exact hP) | (rw [zB_f (P := xpl < xtl ∧ f xpl = xv) (by omega)]; exact hP)
        have hP9 : va_P D vwCl (zmod cs o A S T xsm xth xam f xtl (xpl + zB (xpl < xtl ∧ f xpl = xv)) g) H := hP8
        have hD9 : va_D A0 (zmod cs o A S T xsm xth xam f xtl (xpl + zB (xpl < xtl ∧ f xpl = xv)) g) := zD_addr hD rfl
        subst hAe
        exact W.zret hx hb hr (zbool_n (by first | decide | exact zB_r _)) (fun t ht hW => ⟨⟨_, (), rfl, (congrArg zI (show 0 = zB (xpl < xtl ∧ f xpl = xv) from by first | exact (zB_t (by omega)).symm | exact (zB_f (by omega)).symm)), by rw [ht]; exact hP9, hD9⟩, hS.F ht⟩) hS.2.2 dX6_passes_49
      · exact absurd c4 (by decide)
    · refine zr_iconst hx hb dX6_passes_24 ?_
      refine lv_goto (tgt := 29) hx hb dX6_passes_25 (by decide) ?_
      refine lv_istore_n (lv' := [(2, .int (zI 1)), (0, .ref (o 0)), (1, .int (zI xv))]) hx hb dX6_passes_29 rfl hl (by decide) rfl (fun ls hl => ?_)
      refine lv_aload_n hx hb dX6_passes_30 rfl (lv_at hl 1 rfl) ?_
      refine lv_dup hx hb dX6_passes_31 rfl ?_
      refine va_get (D := D) (ci := 6) (v := .int (zI xpl)) (C := RX6) (T := TX6) (N := 10) hx hb hts hiX6 hown hK hP 0 rfl rfl 8 (by decide) (hts (.fieldLink RX6 240 "ChargeEstimatorModel" "place" "I") (List.mem_of_getElem? (i := 1) rfl)) (fun _ h9 => h9) rfl dX6_passes_32 ?_
      refine lv_iload_n hx hb dX6_passes_35 rfl (lv_at hl 0 rfl) ?_
      refine zr_if_eq (tgt := 43) hx hb dX6_passes_36 (by decide) (by decide) (fun c5 => ?_) (fun c5 => ?_)
      · exact absurd c5 (by decide)
      · refine zr_iconst hx hb dX6_passes_39 ?_
        refine lv_goto (tgt := 44) hx hb dX6_passes_40 (by decide) ?_
        refine zr_iadd hx hb dX6_passes_44 ?_
        refine va_put (D := D) (ci := 6) (v := .int (zI (xpl + 1))) (ty := .int) (C := RX6) (T := TX6) (N := 10) hx hb hts hiX6 tyX6 tyX6_ok nmX6 hown hK hP hD hS 0 rfl rfl 8 (by decide) (hts (.fieldLink RX6 240 "ChargeEstimatorModel" "place" "I") (List.mem_of_getElem? (i := 1) rfl)) (fun _ h9 => h9) rfl (by decide +kernel) rfl rfl (Nat.le_of_ble_eq_true rfl) dX6_passes_45 (fun H locs hP hD hS => ?_)
        have hP : va_P D vwCl (zmod cs o A S T xsm xth xam f xtl (xpl + 1) g) H := hP
        have hD : va_D A0 (zmod cs o A S T xsm xth xam f xtl (xpl + 1) g) := zD_addr hD rfl
        refine lv_iload_n hx hb dX6_passes_48 rfl (lv_at hl 0 rfl) ?_
        have hP8 : va_P D vwCl (zmod cs o A S T xsm xth xam f xtl (xpl + zB (xpl < xtl ∧ f xpl = xv)) g) H := by first | (rw [zB_t (P := xpl < xtl ∧ f xpl = xv) (by omega)]; exact hP) | (rw [zB_f (P := xpl < xtl ∧ f xpl = xv) (by omega)]; exact hP)
        have hP9 : va_P D vwCl (zmod cs o A S T xsm xth xam f xtl (xpl + zB (xpl < xtl ∧ f xpl = xv)) g) H := hP8
        have hD9 : va_D A0 (zmod cs o A S T xsm xth xam f xtl (xpl + zB (xpl < xtl ∧ f xpl = xv)) g) := zD_addr hD rfl
        subst hAe
        exact W.zret hx hb hr (zbool_n (by first | decide | exact zB_r _)) (fun t ht hW => ⟨⟨_, (), rfl, (congrArg zI (show 1 = zB (xpl < xtl ∧ f xpl = xv) from by first | exact (zB_t (by omega)).symm | exact (zB_f (by omega)).symm)), by rw [ht]; exact hP9, hD9⟩, hS.F ht⟩) hS.2.2 dX6_passes_49
set_option maxHeartbeats 4000000 in
set_option maxRecDepth 100000 in
theorem met_X6_isFigure (l : Launch) (D : va_G) (cs : Nat → ClassId) (o : Nat → Nat) (A S T : Int → Int) (xsm xth xam : Int) (f : Int → Int) (xtl xpl : Int) (g : Int → Int) (ktl : 0 ≤ xtl ∧ xtl ≤ 120) (kpl : 0 ≤ xpl ∧ xpl ≤ xtl) (kfr : ∀ k : Int, 0 ≤ k → k < xtl → 0 ≤ f k ∧ f k ≤ 127) : Met l yX6_isFigure wsX6_isFigure ({ frames := 1, cells := 0, slots := 0, locals := 25 }) (va_Pc [.ref (o 0)] (zPre D (zTy cs) (zmod cs o A S T xsm xth xam f xtl xpl g))) (zRi (zI (zB (zFig f xtl xpl)))) 0 0 (fun _ => False) := by
  refine Met.ofW (cc := cX6_isFigure) (maxL := 1) (ret := (some .boolean)) (by decide) rfl ?_
  intro p e s m args below meth c s₁ B hml hv
  obtain ⟨rfl, hP, hK, hD0, hN⟩ := hv
  have hx := B.exec
  have hb := B.bytes
  have hr := B.returns
  have hts := atoms_spec (ws := wsX6_isFigure) B.pre
  have hown : s.vm.findClass RX6 = some m.cls := findClass_of_methodNamed B.named
  have hlocks := B.notSynchronized
  have hD := hD0
  have hl := lv_entry ([.ref (o 0)]) (n := 1) (Nat.le_of_ble_eq_true rfl)
  rw [lg_entry_eq]
  generalize (lg_sl ([.ref (o 0)]) ++ List.replicate (1 - (lg_sl ([.ref (o 0)])).length) Slot.unset).toArray = ls at hl ⊢
  have hl : lv_has ls 1 [(0, .ref (o 0))] := hl
  have hiX6 : ∀ w ∈ wsX60, w ∈ wsX6_isFigure := by decide +kernel
  have hf := kfr xpl
  refine lv_aload_n hx hb dX6_isFigure_0 rfl (lv_at hl 0 rfl) ?_
  refine va_get (D := D) (ci := 6) (v := .int (zI xpl)) (C := RX6) (T := TX6) (N := 10) hx hb hts hiX6 hown hK hP 0 rfl rfl 8 (by decide) (hts (.fieldLink RX6 240 "ChargeEstimatorModel" "place" "I") (List.mem_of_getElem? (i := 1) rfl)) (fun _ h9 => h9) rfl dX6_isFigure_1 ?_
  refine lv_aload_n hx hb dX6_isFigure_4 rfl (lv_at hl 0 rfl) ?_
  refine va_get (D := D) (ci := 6) (v := .int (zI xtl)) (C := RX6) (T := TX6) (N := 10) hx hb hts hiX6 hown hK hP 0 rfl rfl 7 (by decide) (hts (.fieldLink RX6 237 "ChargeEstimatorModel" "textLong" "I") (List.mem_of_getElem? (i := 2) rfl)) (fun _ h9 => h9) rfl dX6_isFigure_5 ?_
  refine zr_icmp_ge (tgt := 37) hx hb dX6_isFigure_8 (by decide) (by omega) (by omega) (fun c1 => ?_) (fun c1 => ?_)
  · refine zr_iconst hx hb dX6_isFigure_37 ?_
    exact W.zret hx hb hr (zbool_n (by first | decide | exact zB_r _)) (fun t ht hW => ⟨_, rfl, (congrArg zI (show 0 = zB (zFig f xtl xpl) from by first | exact (zB_t (by omega)).symm | exact (zB_f (by omega)).symm)), ht⟩) (fun q hq => absurd hq List.not_mem_nil) dX6_isFigure_38
  · refine lv_aload_n hx hb dX6_isFigure_11 rfl (lv_at hl 0 rfl) ?_
    refine va_get (D := D) (ci := 6) (v := .ref (o 4)) (C := RX6) (T := TX6) (N := 10) hx hb hts hiX6 hown hK hP 0 rfl rfl 6 (by decide) (hts (.fieldLink RX6 19 "ChargeEstimatorModel" "text" "[I") (List.mem_of_getElem? (i := 3) rfl)) (fun _ h9 => h9) rfl dX6_isFigure_12 ?_
    refine lv_aload_n hx hb dX6_isFigure_15 rfl (lv_at hl 0 rfl) ?_
    refine va_get (D := D) (ci := 6) (v := .int (zI xpl)) (C := RX6) (T := TX6) (N := 10) hx hb hts hiX6 hown hK hP 0 rfl rfl 8 (by decide) (hts (.fieldLink RX6 240 "ChargeEstimatorModel" "place" "I") (List.mem_of_getElem? (i := 1) rfl)) (fun _ h9 => h9) rfl dX6_isFigure_16 ?_
    refine zr_iald (D := D) (g := f) hx hb hK hP 4 0 rfl rfl (by decide) (by omega) dX6_isFigure_19 ?_
    refine zr_i2l hx hb dX6_isFigure_20 (by omega) ?_
    refine zr_ldc2 (n := 48) hx hb hown (hts (.constantLong RX6 243 (48)) (List.mem_of_getElem? (i := 4) rfl)) rfl dX6_isFigure_21 ?_
    refine zr_ldc2 (n := 57) hx hb hown (hts (.constantLong RX6 245 (57)) (List.mem_of_getElem? (i := 5) rfl)) rfl dX6_isFigure_24 ?_
    refine zc_ri (va_runS (As := [.long (zL (f xpl)), .long (zL 48), .long (zL 57)]) (rest := []) ⟨hx, hb, hml, hown, hts⟩ (met_X6_in l (f xpl) 48 57 (by first | assumption | omega) (by first | assumption | omega) (by first | assumption | omega)) (va_cwS 3 hts gX6_isFigure_X6_in rfl rfl rfl (by decide +kernel) ⟨Nat.le_of_ble_eq_true rfl, Nat.le_of_ble_eq_true rfl⟩) ⟨zTrue.blind, fun U hU hW => ⟨rfl, trivial⟩⟩ rfl rfl hl.1 rfl (lv_room (Nat.le_of_ble_eq_true rfl)) dX6_isFigure_27 ⟨Nat.le_of_ble_eq_true rfl, Nat.le_of_ble_eq_true rfl⟩) ?_
    refine zr_ifb_eq (tgt := 37) hx hb dX6_isFigure_30 (by decide) (fun c2 => ?_) (fun c2 => ?_)
    · refine zr_iconst hx hb dX6_isFigure_37 ?_
      exact W.zret hx hb hr (zbool_n (by first | decide | exact zB_r _)) (fun t ht hW => ⟨_, rfl, (congrArg zI (show 0 = zB (zFig f xtl xpl) from by first | exact (zB_t (by omega)).symm | exact (zB_f (by omega)).symm)), ht⟩) (fun q hq => absurd hq List.not_mem_nil) dX6_isFigure_38
    · refine zr_iconst hx hb dX6_isFigure_33 ?_
      refine lv_goto (tgt := 38) hx hb dX6_isFigure_34 (by decide) ?_
      exact W.zret hx hb hr (zbool_n (by first | decide | exact zB_r _)) (fun t ht hW => ⟨_, rfl, (congrArg zI (show 1 = zB (zFig f xtl xpl) from by first | exact (zB_t (by omega)).symm | exact (zB_f (by omega)).symm)), ht⟩) (fun q hq => absurd hq List.not_mem_nil) dX6_isFigure_38
theorem zRk9 {f : Int → Int} {L n q j : Int} (e : zFE f L q = q + j) : zB (zRok f L n q) = zB (0 < j ∧ ¬ zFig f L (q + j) ∧ q + j < L ∧ f (q + j) = zSep n) := by
  refine zB_congr ?_
  unfold zRok
  rw [e]
  constructor
  · exact fun ⟨a, b⟩ => ⟨by omega, b⟩
  · exact fun ⟨a, b⟩ => ⟨by omega, b⟩
set_option maxHeartbeats 4000000 in
set_option maxRecDepth 100000 in
theorem met_X6_readsNumber (l : Launch) (D : va_G) (cs : Nat → ClassId) (o : Nat → Nat) (sz : Nat) (A S T : Int → Int) (xsm xth xam : Int) (f : Int → Int) (xtl xpl : Int) (g : Int → Int) (xk : Int) (ktl : 0 ≤ xtl ∧ xtl ≤ 120) (kpl : 0 ≤ xpl ∧ xpl ≤ xtl) (kfr : ∀ k : Int, 0 ≤ k → k < xtl → 0 ≤ f k ∧ f k ≤ 127) (kxk : 0 ≤ xk ∧ xk ≤ 62) : Met l yX6_readsNumber wsX6_readsNumber ({ frames := 2, cells := 0, slots := 0, locals := 45 }) (va_Pc [.ref (o 0), .int (zI xk)] (zPreZ D (zTy cs) (zmod cs o A S T xsm xth xam f xtl xpl g) sz)) (zQi D (zmod cs o A S T xsm xth xam f xtl xpl g) sz (zI (zB (zRok f xtl xk (xpl + zMin f xtl xpl)))) (zmod cs o A S T xsm xth xam f xtl (zFE f xtl (xpl + zMin f xtl xpl) + zB (zRok f xtl xk (xpl + zMin f xtl xpl))) (zU g xk (zSg (zMin f xtl xpl) (zNm f (xpl + zMin f xtl xpl) (zFE f xtl (xpl + zMin f xtl xpl) - (xpl + zMin f xtl xpl)).toNat))))) 0 0 (va_A (zmod cs o A S T xsm xth xam f xtl xpl g) sz) := by
  refine Met.ofW (cc := cX6_readsNumber) (maxL := 5) (ret := (some .boolean)) (by decide) rfl ?_
  intro p e s m args below meth c s₁ B hml hv
  obtain ⟨rfl, hsz, hP, hK, hD0, hN⟩ := hv
  have hx := B.exec
  have hb := B.bytes
  have hr := B.returns
  have hts := atoms_spec (ws := wsX6_readsNumber) B.pre
  have hown : s.vm.findClass RX6 = some m.cls := findClass_of_methodNamed B.named
  have hlocks := B.notSynchronized
  subst hsz
  obtain ⟨A0, hAe⟩ : ∃ A0, A0 = va_A (zmod cs o A S T xsm xth xam f xtl xpl g) s.heap.size := ⟨_, rfl⟩
  have hD := hD0.self (sz := s.heap.size)
  rw [← hAe] at hD
  have hA : ∀ q : Nat, s.heap.size ≤ q → A0 q := fun q h => by rw [hAe]; exact Or.inr h
  have hS : va_S A0 s.heap s.heap [] := va_S.rf
  have hP : va_P D vwCl (zmod cs o A S T xsm xth xam f xtl xpl g) s.heap := hP
  have hl := lv_entry ([.ref (o 0), .int (zI xk)]) (n := 5) (Nat.le_of_ble_eq_true rfl)
  rw [lg_entry_eq]
  generalize (lg_sl ([.ref (o 0), .int (zI xk)]) ++ List.replicate (5 - (lg_sl ([.ref (o 0), .int (zI xk)])).length) Slot.unset).toArray = ls at hl ⊢
  have hl : lv_has ls 5 [(0, .ref (o 0)), (1, .int (zI xk))] := hl
  have hiX6 : ∀ w ∈ wsX60, w ∈ wsX6_readsNumber := by decide +kernel
  have hf := kfr xpl
  have hmn := zMin_r f xtl xpl
  have hsp := zSep_r xk
  refine lv_aload_n hx hb dX6_readsNumber_0 rfl (lv_at hl 0 rfl) ?_
  refine zr_bipush hx hb dX6_readsNumber_1 (by decide) ?_
  refine zc_i (va_runV (As := [.int (zI 45)]) (rest := []) ⟨hx, hb, hml, hown, hts⟩ (met_X6_passes l D cs o s.heap.size A S T xsm xth xam f xtl xpl g 45 (by first | assumption | omega) (by first | assumption | omega) (by first | assumption | omega) (by first | decide | omega)) (cwV 1 hts gX6_readsNumber_X6_passes rfl rfl rfl (by decide +kernel) ⟨Nat.le_of_ble_eq_true rfl, Nat.le_of_ble_eq_true rfl⟩) ⟨zPreZ.blind, va_recv hK hP (ci := 6) (q0 := 0) rfl rfl, fun U hU hW => zp_Z hP hK hD hN hU hW⟩ rfl rfl hl.1 rfl (lv_room (Nat.le_of_ble_eq_true rfl)) dX6_readsNumber_3 ⟨Nat.le_of_ble_eq_true rfl, Nat.le_of_ble_eq_true rfl⟩) hS hD hA (fun H locs hP hD hS => ?_)
  have hP : va_P D vwCl (zmod cs o A S T xsm xth xam f xtl (xpl + zMin f xtl xpl) g) H := hP
  have hD : va_D A0 (zmod cs o A S T xsm xth xam f xtl (xpl + zMin f xtl xpl) g) := zD_addr hD rfl
  refine zr_topi (b := zMin f xtl xpl) (by rfl) ?_
  refine lv_istore_n (lv' := [(2, .int (zI (zMin f xtl xpl))), (0, .ref (o 0)), (1, .int (zI xk))]) hx hb dX6_readsNumber_6 rfl hl (by decide) rfl (fun ls hl => ?_)
  refine lv_aload_n hx hb dX6_readsNumber_7 rfl (lv_at hl 1 rfl) ?_
  refine va_get (D := D) (ci := 6) (v := .int (zI (xpl + zMin f xtl xpl))) (C := RX6) (T := TX6) (N := 10) hx hb hts hiX6 hown hK hP 0 rfl rfl 8 (by decide) (hts (.fieldLink RX6 240 "ChargeEstimatorModel" "place" "I") (List.mem_of_getElem? (i := 1) rfl)) (fun _ h9 => h9) rfl dX6_readsNumber_8 ?_
  refine lv_istore_n (lv' := [(3, .int (zI (xpl + zMin f xtl xpl))), (2, .int (zI (zMin f xtl xpl))), (0, .ref (o 0)), (1, .int (zI xk))]) hx hb dX6_readsNumber_11 rfl hl (by decide) rfl (fun ls hl => ?_)
  refine zr_iconst hx hb dX6_readsNumber_12 ?_
  refine lv_istore (lv' := [(4, .int (zI 0)), (3, .int (zI (xpl + zMin f xtl xpl))), (2, .int (zI (zMin f xtl xpl))), (0, .ref (o 0)), (1, .int (zI xk))]) hx hb dX6_readsNumber_13 hl (by decide) rfl (fun ls hl => ?_)
  suffices J_15 : ∀ (nn : Nat) (xj : Int) (xz : Int) (jz : xz = zNm f (xpl + zMin f xtl xpl) xj.toNat) (jj : 0 ≤ xj ∧ xj ≤ 5) (jf : ∀ k : Int, (xpl + zMin f xtl xpl) ≤ k → k < (xpl + zMin f xtl xpl) + xj → zFig f xtl k) (hmu : 5 - xj < (nn : Int)) (H : Heap) (locs : List Loc) (hP : va_P D vwCl (zmod cs o A S T xsm xth xam f xtl ((xpl + zMin f xtl xpl) + xj) g) H) (hD : va_D A0 (zmod cs o A S T xsm xth xam f xtl ((xpl + zMin f xtl xpl) + xj) g)) (hS : va_S A0 s.heap H locs) (ls : Array Slot) (hl : lv_has ls 5 [(2, .int (zI (zMin f xtl xpl))), (3, .int (zI (xpl + zMin f xtl xpl))), (4, .int (zI xz)), (0, .ref (o 0)), (1, .int (zI xk))]), W p l e (headSpec wsX6_readsNumber ({ frames := 2, cells := 0, slots := 0, locals := 45 })).room s m ([.ref (o 0), .int (zI xk)] : List Value).toArray below meth c H locs 0 0 (MQ below (zQi D (zmod cs o A S T xsm xth xam f xtl xpl g) s.heap.size (zI (zB (zRok f xtl xk (xpl + zMin f xtl xpl)))) (zmod cs o A S T xsm xth xam f xtl (zFE f xtl (xpl + zMin f xtl xpl) + zB (zRok f xtl xk (xpl + zMin f xtl xpl))) (zU g xk (zSg (zMin f xtl xpl) (zNm f (xpl + zMin f xtl xpl) (zFE f xtl (xpl + zMin f xtl xpl) - (xpl + zMin f xtl xpl)).toNat))))) ([.ref (o 0), .int (zI xk)] : List Value).toArray s 0 0 (va_A (zmod cs o A S T xsm xth xam f xtl xpl g) s.heap.size)) (F0 m 15 ls []) by
    exact J_15 (((5 - 0) : Int).toNat + 1) 0 0 (by first | rfl | (rw [zNm_s _ _ jj.1, ← jz]; done) | (rw [zNm_s _ _ jj.1, ← jz]; omega)) (by omega) (by first | (intro k a b; omega) | (intro k a b; rcases Int.lt_or_le k ((xpl + zMin f xtl xpl) + xj) with q9 | q9; (exact jf k a q9); (rw [show k = (xpl + zMin f xtl xpl) + xj by omega]; assumption))) (by have : (0 : Int) ≤ 5 - 0 := (by omega); omega) _ _ (by rw [Int.add_zero]; exact hP) (zD_addr hD rfl) hS _ (lv_sub hl [2, 1, 0, 3, 4] rfl)
  intro nn
  induction nn with
  | zero => intro xj xz jz jj jf hmu; exfalso; have : (0 : Int) ≤ 5 - xj := (by omega); omega
  | succ nn ih =>
    intro xj xz jz jj jf hmu H locs hP hD hS ls hl
    have hf9 := kfr ((xpl + zMin f xtl xpl) + xj)
    have jl : (xpl + zMin f xtl xpl) + xj ≤ xtl := by
      rcases Int.lt_or_le 0 xj with q9 | q9
      · have := (jf ((xpl + zMin f xtl xpl) + xj - 1) (by omega) (by omega)).1
        omega
      · omega
    refine lv_aload_n hx hb dX6_readsNumber_15 rfl (lv_at hl 3 rfl) ?_
    refine zc_ri (va_runV (As := []) (rest := []) ⟨hx, hb, hml, hown, hts⟩ (met_X6_isFigure l D cs o A S T xsm xth xam f xtl ((xpl + zMin f xtl xpl) + xj) g (by first | assumption | omega) (by first | assumption | omega) (by first | assumption | omega)) (cwV 0 hts gX6_readsNumber_X6_isFigure rfl rfl rfl (by decide +kernel) ⟨Nat.le_of_ble_eq_true rfl, Nat.le_of_ble_eq_true rfl⟩) ⟨zPre.blind, va_recv hK hP (ci := 6) (q0 := 0) rfl rfl, fun U hU hW => zp_R hP hK hD hN hU hW⟩ rfl rfl hl.1 rfl (lv_room (Nat.le_of_ble_eq_true rfl)) dX6_readsNumber_16 ⟨Nat.le_of_ble_eq_true rfl, Nat.le_of_ble_eq_true rfl⟩) ?_
    refine zr_ifb_eq (tgt := 65) hx hb dX6_readsNumber_19 (by decide) (fun c1 => ?_) (fun c1 => ?_)
    · refine lv_aload_n hx hb dX6_readsNumber_65 rfl (lv_at hl 3 rfl) ?_
      refine va_get (D := D) (ci := 6) (v := .ref (o 5)) (C := RX6) (T := TX6) (N := 10) hx hb hts hiX6 hown hK hP 0 rfl rfl 9 (by decide) (hts (.fieldLink RX6 23 "ChargeEstimatorModel" "read" "[I") (List.mem_of_getElem? (i := 3) rfl)) (fun _ h9 => h9) rfl dX6_readsNumber_66 ?_
      refine lv_iload_n hx hb dX6_readsNumber_69 rfl (lv_at hl 4 rfl) ?_
      refine lv_iload_n hx hb dX6_readsNumber_70 rfl (lv_at hl 0 rfl) ?_
      refine zr_if_eq (tgt := 80) hx hb dX6_readsNumber_71 (by decide) (by omega) (fun c2 => ?_) (fun c2 => ?_)
      · refine lv_iload hx hb dX6_readsNumber_80 (lv_at hl 2 rfl) ?_
        refine zr_iast (D := D) (g := g) hx hb hK hP hD hS 5 0 rfl rfl (by decide) (by omega) dX6_readsNumber_82 (fun H locs hP hD hS => ?_)
        have hP : va_P D vwCl (zmod cs o A S T xsm xth xam f xtl ((xpl + zMin f xtl xpl) + xj) (zU g xk xz)) H := hP
        have hD : va_D A0 (zmod cs o A S T xsm xth xam f xtl ((xpl + zMin f xtl xpl) + xj) (zU g xk xz)) := zD_addr hD rfl
        refine lv_aload_n hx hb dX6_readsNumber_83 rfl (lv_at hl 3 rfl) ?_
        refine va_get (D := D) (ci := 6) (v := .int (zI ((xpl + zMin f xtl xpl) + xj))) (C := RX6) (T := TX6) (N := 10) hx hb hts hiX6 hown hK hP 0 rfl rfl 8 (by decide) (hts (.fieldLink RX6 240 "ChargeEstimatorModel" "place" "I") (List.mem_of_getElem? (i := 1) rfl)) (fun _ h9 => h9) rfl dX6_readsNumber_84 ?_
        refine lv_iload_n hx hb dX6_readsNumber_87 rfl (lv_at hl 1 rfl) ?_
        refine zr_icmp_le (tgt := 123) hx hb dX6_readsNumber_88 (by decide) (by omega) (by omega) (fun c3 => ?_) (fun c3 => ?_)
        · refine zr_iconst hx hb dX6_readsNumber_123 ?_
          have e9 : zFE f xtl (xpl + zMin f xtl xpl) = (xpl + zMin f xtl xpl) + xj := zFE_eq jj jf (fun _ => by first | assumption | omega)
          have e8 : zNm f (xpl + zMin f xtl xpl) (zFE f xtl (xpl + zMin f xtl xpl) - (xpl + zMin f xtl xpl)).toNat = xz := by rw [e9, jz]; exact congrArg (fun k : Int => zNm f (xpl + zMin f xtl xpl) k.toNat) (by omega)
          have e7 : zFE f xtl (xpl + zMin f xtl xpl) + zB (zRok f xtl xk (xpl + zMin f xtl xpl)) = (xpl + zMin f xtl xpl) + xj := by first | (rw [zRk9 e9, e9, zB_f (by omega), Int.add_zero]; done) | (rw [zRk9 e9, e9]; congr 1; exact zB_congr (by omega))
          have e6 : zSg (zMin f xtl xpl) xz = xz := by first | exact if_pos (by omega) | exact if_neg (by omega)
          have hP8 : va_P D vwCl (zmod cs o A S T xsm xth xam f xtl (zFE f xtl (xpl + zMin f xtl xpl) + zB (zRok f xtl xk (xpl + zMin f xtl xpl))) (zU g xk (zSg (zMin f xtl xpl) (zNm f (xpl + zMin f xtl xpl) (zFE f xtl (xpl + zMin f xtl xpl) - (xpl + zMin f xtl xpl)).toNat)))) H := by rw [e8, e7, e6]; exact hP
          have hP9 : va_P D vwCl (zmod cs o A S T xsm xth xam f xtl (zFE f xtl (xpl + zMin f xtl xpl) + zB (zRok f xtl xk (xpl + zMin f xtl xpl))) (zU g xk (zSg (zMin f xtl xpl) (zNm f (xpl + zMin f xtl xpl) (zFE f xtl (xpl + zMin f xtl xpl) - (xpl + zMin f xtl xpl)).toNat)))) H := hP8
          have hD9 : va_D A0 (zmod cs o A S T xsm xth xam f xtl (zFE f xtl (xpl + zMin f xtl xpl) + zB (zRok f xtl xk (xpl + zMin f xtl xpl))) (zU g xk (zSg (zMin f xtl xpl) (zNm f (xpl + zMin f xtl xpl) (zFE f xtl (xpl + zMin f xtl xpl) - (xpl + zMin f xtl xpl)).toNat)))) := zD_addr hD rfl
          subst hAe
          exact W.zret hx hb hr (zbool_n (by first | decide | exact zB_r _)) (fun t ht hW => ⟨⟨_, (), rfl, (congrArg zI (show 0 = zB (zRok f xtl xk (xpl + zMin f xtl xpl)) from by rw [zRk9 e9]; first | exact (zB_t (by omega)).symm | exact (zB_f (by omega)).symm)), by rw [ht]; exact hP9, hD9⟩, hS.F ht⟩) hS.2.2 dX6_readsNumber_124
        · refine lv_aload_n hx hb dX6_readsNumber_91 rfl (lv_at hl 3 rfl) ?_
          refine zc_ri (va_runV (As := []) (rest := []) ⟨hx, hb, hml, hown, hts⟩ (met_X6_isFigure l D cs o A S T xsm xth xam f xtl ((xpl + zMin f xtl xpl) + xj) (zU g xk xz) (by first | assumption | omega) (by first | assumption | omega) (by first | assumption | omega)) (cwV 0 hts gX6_readsNumber_X6_isFigure rfl rfl rfl (by decide +kernel) ⟨Nat.le_of_ble_eq_true rfl, Nat.le_of_ble_eq_true rfl⟩) ⟨zPre.blind, va_recv hK hP (ci := 6) (q0 := 0) rfl rfl, fun U hU hW => zp_R hP hK hD hN hU hW⟩ rfl rfl hl.1 rfl (lv_room (Nat.le_of_ble_eq_true rfl)) dX6_readsNumber_92 ⟨Nat.le_of_ble_eq_true rfl, Nat.le_of_ble_eq_true rfl⟩) ?_
          refine zr_ifb_ne (tgt := 123) hx hb dX6_readsNumber_95 (by decide) (fun c4 => ?_) (fun c4 => ?_)
          · refine zr_iconst hx hb dX6_readsNumber_123 ?_
            have e9 : zFE f xtl (xpl + zMin f xtl xpl) = (xpl + zMin f xtl xpl) + xj := zFE_eq jj jf (fun _ => by first | assumption | omega)
            have e8 : zNm f (xpl + zMin f xtl xpl) (zFE f xtl (xpl + zMin f xtl xpl) - (xpl + zMin f xtl xpl)).toNat = xz := by rw [e9, jz]; exact congrArg (fun k : Int => zNm f (xpl + zMin f xtl xpl) k.toNat) (by omega)
            have e7 : zFE f xtl (xpl + zMin f xtl xpl) + zB (zRok f xtl xk (xpl + zMin f xtl xpl)) = (xpl + zMin f xtl xpl) + xj := by first | (rw [zRk9 e9, e9, zB_f (by omega), Int.add_zero]; done) | (rw [zRk9 e9, e9]; congr 1; exact zB_congr (by omega))
            have e6 : zSg (zMin f xtl xpl) xz = xz := by first | exact if_pos (by omega) | exact if_neg (by omega)
            have hP8 : va_P D vwCl (zmod cs o A S T xsm xth xam f xtl (zFE f xtl (xpl + zMin f xtl xpl) + zB (zRok f xtl xk (xpl + zMin f xtl xpl))) (zU g xk (zSg (zMin f xtl xpl) (zNm f (xpl + zMin f xtl xpl) (zFE f xtl (xpl + zMin f xtl xpl) - (xpl + zMin f xtl xpl)).toNat)))) H := by rw [e8, e7, e6]; exact hP
            have hP9 : va_P D vwCl (zmod cs o A S T xsm xth xam f xtl (zFE f xtl (xpl + zMin f xtl xpl) + zB (zRok f xtl xk (xpl + zMin f xtl xpl))) (zU g xk (zSg (zMin f xtl xpl) (zNm f (xpl + zMin f xtl xpl) (zFE f xtl (xpl + zMin f xtl xpl) - (xpl + zMin f xtl xpl)).toNat)))) H := hP8
            have hD9 : va_D A0 (zmod cs o A S T xsm xth xam f xtl (zFE f xtl (xpl + zMin f xtl xpl) + zB (zRok f xtl xk (xpl + zMin f xtl xpl))) (zU g xk (zSg (zMin f xtl xpl) (zNm f (xpl + zMin f xtl xpl) (zFE f xtl (xpl + zMin f xtl xpl) - (xpl + zMin f xtl xpl)).toNat)))) := zD_addr hD rfl
            subst hAe
            exact W.zret hx hb hr (zbool_n (by first | decide | exact zB_r _)) (fun t ht hW => ⟨⟨_, (), rfl, (congrArg zI (show 0 = zB (zRok f xtl xk (xpl + zMin f xtl xpl)) from by rw [zRk9 e9]; first | exact (zB_t (by omega)).symm | exact (zB_f (by omega)).symm)), by rw [ht]; exact hP9, hD9⟩, hS.F ht⟩) hS.2.2 dX6_readsNumber_124
          · refine lv_aload_n hx hb dX6_readsNumber_98 rfl (lv_at hl 3 rfl) ?_
            refine lv_iload_n hx hb dX6_readsNumber_99 rfl (lv_at hl 4 rfl) ?_
            refine zr_iconst hx hb dX6_readsNumber_100 ?_
            refine zr_irem hx hb dX6_readsNumber_101 (by omega) (by decide) ?_
            refine zr_iconst hx hb dX6_readsNumber_102 ?_
            refine zr_icmp_ne (tgt := 111) hx hb dX6_readsNumber_103 (by decide) (by omega) (by decide) (fun c5 => ?_) (fun c5 => ?_)
            · refine zr_bipush hx hb dX6_readsNumber_111 (by decide) ?_
              refine zc_i (va_runV (As := [.int (zI 44)]) (rest := []) ⟨hx, hb, hml, hown, hts⟩ (met_X6_passes l D cs o H.size A S T xsm xth xam f xtl ((xpl + zMin f xtl xpl) + xj) (zU g xk xz) 44 (by first | assumption | omega) (by first | assumption | omega) (by first | assumption | omega) (by first | decide | omega)) (cwV 1 hts gX6_readsNumber_X6_passes rfl rfl rfl (by decide +kernel) ⟨Nat.le_of_ble_eq_true rfl, Nat.le_of_ble_eq_true rfl⟩) ⟨zPreZ.blind, va_recv hK hP (ci := 6) (q0 := 0) rfl rfl, fun U hU hW => zp_Z hP hK hD hN hU hW⟩ rfl rfl hl.1 rfl (lv_room (Nat.le_of_ble_eq_true rfl)) dX6_readsNumber_113 ⟨Nat.le_of_ble_eq_true rfl, Nat.le_of_ble_eq_true rfl⟩) hS hD hA (fun H locs hP hD hS => ?_)
              refine zr_ifb_eq (tgt := 123) hx hb dX6_readsNumber_116 (by decide) (fun c6 => ?_) (fun c6 => ?_)
              · refine zr_iconst hx hb dX6_readsNumber_123 ?_
                have e9 : zFE f xtl (xpl + zMin f xtl xpl) = (xpl + zMin f xtl xpl) + xj := zFE_eq jj jf (fun _ => by first | assumption | omega)
                have e8 : zNm f (xpl + zMin f xtl xpl) (zFE f xtl (xpl + zMin f xtl xpl) - (xpl + zMin f xtl xpl)).toNat = xz := by rw [e9, jz]; exact congrArg (fun k : Int => zNm f (xpl + zMin f xtl xpl) k.toNat) (by omega)
                have e7 : zFE f xtl (xpl + zMin f xtl xpl) + zB (zRok f xtl xk (xpl + zMin f xtl xpl)) = ((xpl + zMin f xtl xpl) + xj) + zB (((xpl + zMin f xtl xpl) + xj) < xtl ∧ f ((xpl + zMin f xtl xpl) + xj) = 44) := by first | (rw [zRk9 e9, e9, zB_f (by omega), Int.add_zero]; done) | (rw [zRk9 e9, e9]; congr 1; exact zB_congr (by omega))
                have e6 : zSg (zMin f xtl xpl) xz = xz := by first | exact if_pos (by omega) | exact if_neg (by omega)
                have hP8 : va_P D vwCl (zmod cs o A S T xsm xth xam f xtl (zFE f xtl (xpl + zMin f xtl xpl) + zB (zRok f xtl xk (xpl + zMin f xtl xpl))) (zU g xk (zSg (zMin f xtl xpl) (zNm f (xpl + zMin f xtl xpl) (zFE f xtl (xpl + zMin f xtl xpl) - (xpl + zMin f xtl xpl)).toNat)))) H := by rw [e8, e7, e6]; exact hP
                have hP9 : va_P D vwCl (zmod cs o A S T xsm xth xam f xtl (zFE f xtl (xpl + zMin f xtl xpl) + zB (zRok f xtl xk (xpl + zMin f xtl xpl))) (zU g xk (zSg (zMin f xtl xpl) (zNm f (xpl + zMin f xtl xpl) (zFE f xtl (xpl + zMin f xtl xpl) - (xpl + zMin f xtl xpl)).toNat)))) H := hP8
                have hD9 : va_D A0 (zmod cs o A S T xsm xth xam f xtl (zFE f xtl (xpl + zMin f xtl xpl) + zB (zRok f xtl xk (xpl + zMin f xtl xpl))) (zU g xk (zSg (zMin f xtl xpl) (zNm f (xpl + zMin f xtl xpl) (zFE f xtl (xpl + zMin f xtl xpl) - (xpl + zMin f xtl xpl)).toNat)))) := zD_addr hD rfl
                subst hAe
                exact W.zret hx hb hr (zbool_n (by first | decide | exact zB_r _)) (fun t ht hW => ⟨⟨_, (), rfl, (congrArg zI (show 0 = zB (zRok f xtl xk (xpl + zMin f xtl xpl)) from by rw [zRk9 e9]; first | exact (zB_t (by omega)).symm | exact (zB_f (by omega)).symm)), by rw [ht]; exact hP9, hD9⟩, hS.F ht⟩) hS.2.2 dX6_readsNumber_124
              · refine zr_iconst hx hb dX6_readsNumber_119 ?_
                refine lv_goto (tgt := 124) hx hb dX6_readsNumber_120 (by decide) ?_
                have e9 : zFE f xtl (xpl + zMin f xtl xpl) = (xpl + zMin f xtl xpl) + xj := zFE_eq jj jf (fun _ => by first | assumption | omega)
                have e8 : zNm f (xpl + zMin f xtl xpl) (zFE f xtl (xpl + zMin f xtl xpl) - (xpl + zMin f xtl xpl)).toNat = xz := by rw [e9, jz]; exact congrArg (fun k : Int => zNm f (xpl + zMin f xtl xpl) k.toNat) (by omega)
                have e7 : zFE f xtl (xpl + zMin f xtl xpl) + zB (zRok f xtl xk (xpl + zMin f xtl xpl)) = ((xpl + zMin f xtl xpl) + xj) + zB (((xpl + zMin f xtl xpl) + xj) < xtl ∧ f ((xpl + zMin f xtl xpl) + xj) = 44) := by first | (rw [zRk9 e9, e9, zB_f (by omega), Int.add_zero]; done) | (rw [zRk9 e9, e9]; congr 1; exact zB_congr (by omega))
                have e6 : zSg (zMin f xtl xpl) xz = xz := by first | exact if_pos (by omega) | exact if_neg (by omega)
                have hP8 : va_P D vwCl (zmod cs o A S T xsm xth xam f xtl (zFE f xtl (xpl + zMin f xtl xpl) + zB (zRok f xtl xk (xpl + zMin f xtl xpl))) (zU g xk (zSg (zMin f xtl xpl) (zNm f (xpl + zMin f xtl xpl) (zFE f xtl (xpl + zMin f xtl xpl) - (xpl + zMin f xtl xpl)).toNat)))) H := by rw [e8, e7, e6]; exact hP
                have hP9 : va_P D vwCl (zmod cs o A S T xsm xth xam f xtl (zFE f xtl (xpl + zMin f xtl xpl) + zB (zRok f xtl xk (xpl + zMin f xtl xpl))) (zU g xk (zSg (zMin f xtl xpl) (zNm f (xpl + zMin f xtl xpl) (zFE f xtl (xpl + zMin f xtl xpl) - (xpl + zMin f xtl xpl)).toNat)))) H := hP8
                have hD9 : va_D A0 (zmod cs o A S T xsm xth xam f xtl (zFE f xtl (xpl + zMin f xtl xpl) + zB (zRok f xtl xk (xpl + zMin f xtl xpl))) (zU g xk (zSg (zMin f xtl xpl) (zNm f (xpl + zMin f xtl xpl) (zFE f xtl (xpl + zMin f xtl xpl) - (xpl + zMin f xtl xpl)).toNat)))) := zD_addr hD rfl
                subst hAe
                exact W.zret hx hb hr (zbool_n (by first | decide | exact zB_r _)) (fun t ht hW => ⟨⟨_, (), rfl, (congrArg zI (show 1 = zB (zRok f xtl xk (xpl + zMin f xtl xpl)) from by rw [zRk9 e9]; first | exact (zB_t (by omega)).symm | exact (zB_f (by omega)).symm)), by rw [ht]; exact hP9, hD9⟩, hS.F ht⟩) hS.2.2 dX6_readsNumber_124
            · refine zr_bipush hx hb dX6_readsNumber_106 (by decide) ?_
              refine lv_goto (tgt := 113) hx hb dX6_readsNumber_108 (by decide) ?_
              refine zc_i (va_runV (As := [.int (zI 59)]) (rest := []) ⟨hx, hb, hml, hown, hts⟩ (met_X6_passes l D cs o H.size A S T xsm xth xam f xtl ((xpl + zMin f xtl xpl) + xj) (zU g xk xz) 59 (by first | assumption | omega) (by first | assumption | omega) (by first | assumption | omega) (by first | decide | omega)) (cwV 1 hts gX6_readsNumber_X6_passes rfl rfl rfl (by decide +kernel) ⟨Nat.le_of_ble_eq_true rfl, Nat.le_of_ble_eq_true rfl⟩) ⟨zPreZ.blind, va_recv hK hP (ci := 6) (q0 := 0) rfl rfl, fun U hU hW => zp_Z hP hK hD hN hU hW⟩ rfl rfl hl.1 rfl (lv_room (Nat.le_of_ble_eq_true rfl)) dX6_readsNumber_113 ⟨Nat.le_of_ble_eq_true rfl, Nat.le_of_ble_eq_true rfl⟩) hS hD hA (fun H locs hP hD hS => ?_)
              refine zr_ifb_eq (tgt := 123) hx hb dX6_readsNumber_116 (by decide) (fun c7 => ?_) (fun c7 => ?_)
              · refine zr_iconst hx hb dX6_readsNumber_123 ?_
                have e9 : zFE f xtl (xpl + zMin f xtl xpl) = (xpl + zMin f xtl xpl) + xj := zFE_eq jj jf (fun _ => by first | assumption | omega)
                have e8 : zNm f (xpl + zMin f xtl xpl) (zFE f xtl (xpl + zMin f xtl xpl) - (xpl + zMin f xtl xpl)).toNat = xz := by rw [e9, jz]; exact congrArg (fun k : Int => zNm f (xpl + zMin f xtl xpl) k.toNat) (by omega)
                have e7 : zFE f xtl (xpl + zMin f xtl xpl) + zB (zRok f xtl xk (xpl + zMin f xtl xpl)) = ((xpl + zMin f xtl xpl) + xj) + zB (((xpl + zMin f xtl xpl) + xj) < xtl ∧ f ((xpl + zMin f xtl xpl) + xj) = 59) := by first | (rw [zRk9 e9, e9, zB_f (by omega), Int.add_zero]; done) | (rw [zRk9 e9, e9]; congr 1; exact zB_congr (by omega))
                have e6 : zSg (zMin f xtl xpl) xz = xz := by first | exact if_pos (by omega) | exact if_neg (by omega)
                have hP8 : va_P D vwCl (zmod cs o A S T xsm xth xam f xtl (zFE f xtl (xpl + zMin f xtl xpl) + zB (zRok f xtl xk (xpl + zMin f xtl xpl))) (zU g xk (zSg (zMin f xtl xpl) (zNm f (xpl + zMin f xtl xpl) (zFE f xtl (xpl + zMin f xtl xpl) - (xpl + zMin f xtl xpl)).toNat)))) H := by rw [e8, e7, e6]; exact hP
                have hP9 : va_P D vwCl (zmod cs o A S T xsm xth xam f xtl (zFE f xtl (xpl + zMin f xtl xpl) + zB (zRok f xtl xk (xpl + zMin f xtl xpl))) (zU g xk (zSg (zMin f xtl xpl) (zNm f (xpl + zMin f xtl xpl) (zFE f xtl (xpl + zMin f xtl xpl) - (xpl + zMin f xtl xpl)).toNat)))) H := hP8
                have hD9 : va_D A0 (zmod cs o A S T xsm xth xam f xtl (zFE f xtl (xpl + zMin f xtl xpl) + zB (zRok f xtl xk (xpl + zMin f xtl xpl))) (zU g xk (zSg (zMin f xtl xpl) (zNm f (xpl + zMin f xtl xpl) (zFE f xtl (xpl + zMin f xtl xpl) - (xpl + zMin f xtl xpl)).toNat)))) := zD_addr hD rfl
                subst hAe
                exact W.zret hx hb hr (zbool_n (by first | decide | exact zB_r _)) (fun t ht hW => ⟨⟨_, (), rfl, (congrArg zI (show 0 = zB (zRok f xtl xk (xpl + zMin f xtl xpl)) from by rw [zRk9 e9]; first | exact (zB_t (by omega)).symm | exact (zB_f (by omega)).symm)), by rw [ht]; exact hP9, hD9⟩, hS.F ht⟩) hS.2.2 dX6_readsNumber_124
              · refine zr_iconst hx hb dX6_readsNumber_119 ?_
                refine lv_goto (tgt := 124) hx hb dX6_readsNumber_120 (by decide) ?_
                have e9 : zFE f xtl (xpl + zMin f xtl xpl) = (xpl + zMin f xtl xpl) + xj := zFE_eq jj jf (fun _ => by first | assumption | omega)
                have e8 : zNm f (xpl + zMin f xtl xpl) (zFE f xtl (xpl + zMin f xtl xpl) - (xpl + zMin f xtl xpl)).toNat = xz := by rw [e9, jz]; exact congrArg (fun k : Int => zNm f (xpl + zMin f xtl xpl) k.toNat) (by omega)
                have e7 : zFE f xtl (xpl + zMin f xtl xpl) + zB (zRok f xtl xk (xpl + zMin f xtl xpl)) = ((xpl + zMin f xtl xpl) + xj) + zB (((xpl + zMin f xtl xpl) + xj) < xtl ∧ f ((xpl + zMin f xtl xpl) + xj) = 59) := by first | (rw [zRk9 e9, e9, zB_f (by omega), Int.add_zero]; done) | (rw [zRk9 e9, e9]; congr 1; exact zB_congr (by omega))
                have e6 : zSg (zMin f xtl xpl) xz = xz := by first | exact if_pos (by omega) | exact if_neg (by omega)
                have hP8 : va_P D vwCl (zmod cs o A S T xsm xth xam f xtl (zFE f xtl (xpl + zMin f xtl xpl) + zB (zRok f xtl xk (xpl + zMin f xtl xpl))) (zU g xk (zSg (zMin f xtl xpl) (zNm f (xpl + zMin f xtl xpl) (zFE f xtl (xpl + zMin f xtl xpl) - (xpl + zMin f xtl xpl)).toNat)))) H := by rw [e8, e7, e6]; exact hP
                have hP9 : va_P D vwCl (zmod cs o A S T xsm xth xam f xtl (zFE f xtl (xpl + zMin f xtl xpl) + zB (zRok f xtl xk (xpl + zMin f xtl xpl))) (zU g xk (zSg (zMin f xtl xpl) (zNm f (xpl + zMin f xtl xpl) (zFE f xtl (xpl + zMin f xtl xpl) - (xpl + zMin f xtl xpl)).toNat)))) H := hP8
                have hD9 : va_D A0 (zmod cs o A S T xsm xth xam f xtl (zFE f xtl (xpl + zMin f xtl xpl) + zB (zRok f xtl xk (xpl + zMin f xtl xpl))) (zU g xk (zSg (zMin f xtl xpl) (zNm f (xpl + zMin f xtl xpl) (zFE f xtl (xpl + zMin f xtl xpl) - (xpl + zMin f xtl xpl)).toNat)))) := zD_addr hD rfl
                subst hAe
                exact W.zret hx hb hr (zbool_n (by first | decide | exact zB_r _)) (fun t ht hW => ⟨⟨_, (), rfl, (congrArg zI (show 1 = zB (zRok f xtl xk (xpl + zMin f xtl xpl)) from by rw [zRk9 e9]; first | exact (zB_t (by omega)).symm | exact (zB_f (by omega)).symm)), by rw [ht]; exact hP9, hD9⟩, hS.F ht⟩) hS.2.2 dX6_readsNumber_124
      · refine lv_iload hx hb dX6_readsNumber_74 (lv_at hl 2 rfl) ?_
        refine zr_ineg hx hb dX6_readsNumber_76 ?_
        refine lv_goto (tgt := 82) hx hb dX6_readsNumber_77 (by decide) ?_
        refine zr_iast (D := D) (g := g) hx hb hK hP hD hS 5 0 rfl rfl (by decide) (by omega) dX6_readsNumber_82 (fun H locs hP hD hS => ?_)
        have hP : va_P D vwCl (zmod cs o A S T xsm xth xam f xtl ((xpl + zMin f xtl xpl) + xj) (zU g xk (-xz))) H := hP
        have hD : va_D A0 (zmod cs o A S T xsm xth xam f xtl ((xpl + zMin f xtl xpl) + xj) (zU g xk (-xz))) := zD_addr hD rfl
        refine lv_aload_n hx hb dX6_readsNumber_83 rfl (lv_at hl 3 rfl) ?_
        refine va_get (D := D) (ci := 6) (v := .int (zI ((xpl + zMin f xtl xpl) + xj))) (C := RX6) (T := TX6) (N := 10) hx hb hts hiX6 hown hK hP 0 rfl rfl 8 (by decide) (hts (.fieldLink RX6 240 "ChargeEstimatorModel" "place" "I") (List.mem_of_getElem? (i := 1) rfl)) (fun _ h9 => h9) rfl dX6_readsNumber_84 ?_
        refine lv_iload_n hx hb dX6_readsNumber_87 rfl (lv_at hl 1 rfl) ?_
        refine zr_icmp_le (tgt := 123) hx hb dX6_readsNumber_88 (by decide) (by omega) (by omega) (fun c8 => ?_) (fun c8 => ?_)
        · refine zr_iconst hx hb dX6_readsNumber_123 ?_
          have e9 : zFE f xtl (xpl + zMin f xtl xpl) = (xpl + zMin f xtl xpl) + xj := zFE_eq jj jf (fun _ => by first | assumption | omega)
          have e8 : zNm f (xpl + zMin f xtl xpl) (zFE f xtl (xpl + zMin f xtl xpl) - (xpl + zMin f xtl xpl)).toNat = xz := by rw [e9, jz]; exact congrArg (fun k : Int => zNm f (xpl + zMin f xtl xpl) k.toNat) (by omega)
          have e7 : zFE f xtl (xpl + zMin f xtl xpl) + zB (zRok f xtl xk (xpl + zMin f xtl xpl)) = (xpl + zMin f xtl xpl) + xj := by first | (rw [zRk9 e9, e9, zB_f (by omega), Int.add_zero]; done) | (rw [zRk9 e9, e9]; congr 1; exact zB_congr (by omega))
          have e6 : zSg (zMin f xtl xpl) xz = (-xz) := by first | exact if_pos (by omega) | exact if_neg (by omega)
          have hP8 : va_P D vwCl (zmod cs o A S T xsm xth xam f xtl (zFE f xtl (xpl + zMin f xtl xpl) + zB (zRok f xtl xk (xpl + zMin f xtl xpl))) (zU g xk (zSg (zMin f xtl xpl) (zNm f (xpl + zMin f xtl xpl) (zFE f xtl (xpl + zMin f xtl xpl) - (xpl + zMin f xtl xpl)).toNat)))) H := by rw [e8, e7, e6]; exact hP
          have hP9 : va_P D vwCl (zmod cs o A S T xsm xth xam f xtl (zFE f xtl (xpl + zMin f xtl xpl) + zB (zRok f xtl xk (xpl + zMin f xtl xpl))) (zU g xk (zSg (zMin f xtl xpl) (zNm f (xpl + zMin f xtl xpl) (zFE f xtl (xpl + zMin f xtl xpl) - (xpl + zMin f xtl xpl)).toNat)))) H := hP8
          have hD9 : va_D A0 (zmod cs o A S T xsm xth xam f xtl (zFE f xtl (xpl + zMin f xtl xpl) + zB (zRok f xtl xk (xpl + zMin f xtl xpl))) (zU g xk (zSg (zMin f xtl xpl) (zNm f (xpl + zMin f xtl xpl) (zFE f xtl (xpl + zMin f xtl xpl) - (xpl + zMin f xtl xpl)).toNat)))) := zD_addr hD rfl
          subst hAe
          exact W.zret hx hb hr (zbool_n (by first | decide | exact zB_r _)) (fun t ht hW => ⟨⟨_, (), rfl, (congrArg zI (show 0 = zB (zRok f xtl xk (xpl + zMin f xtl xpl)) from by rw [zRk9 e9]; first | exact (zB_t (by omega)).symm | exact (zB_f (by omega)).symm)), by rw [ht]; exact hP9, hD9⟩, hS.F ht⟩) hS.2.2 dX6_readsNumber_124
        · refine lv_aload_n hx hb dX6_readsNumber_91 rfl (lv_at hl 3 rfl) ?_
          refine zc_ri (va_runV (As := []) (rest := []) ⟨hx, hb, hml, hown, hts⟩ (met_X6_isFigure l D cs o A S T xsm xth xam f xtl ((xpl + zMin f xtl xpl) + xj) (zU g xk (-xz)) (by first | assumption | omega) (by first | assumption | omega) (by first | assumption | omega)) (cwV 0 hts gX6_readsNumber_X6_isFigure rfl rfl rfl (by decide +kernel) ⟨Nat.le_of_ble_eq_true rfl, Nat.le_of_ble_eq_true rfl⟩) ⟨zPre.blind, va_recv hK hP (ci := 6) (q0 := 0) rfl rfl, fun U hU hW => zp_R hP hK hD hN hU hW⟩ rfl rfl hl.1 rfl (lv_room (Nat.le_of_ble_eq_true rfl)) dX6_readsNumber_92 ⟨Nat.le_of_ble_eq_true rfl, Nat.le_of_ble_eq_true rfl⟩) ?_
          refine zr_ifb_ne (tgt := 123) hx hb dX6_readsNumber_95 (by decide) (fun c9 => ?_) (fun c9 => ?_)
          · refine zr_iconst hx hb dX6_readsNumber_123 ?_
            have e9 : zFE f xtl (xpl + zMin f xtl xpl) = (xpl + zMin f xtl xpl) + xj := zFE_eq jj jf (fun _ => by first | assumption | omega)
            have e8 : zNm f (xpl + zMin f xtl xpl) (zFE f xtl (xpl + zMin f xtl xpl) - (xpl + zMin f xtl xpl)).toNat = xz := by rw [e9, jz]; exact congrArg (fun k : Int => zNm f (xpl + zMin f xtl xpl) k.toNat) (by omega)
            have e7 : zFE f xtl (xpl + zMin f xtl xpl) + zB (zRok f xtl xk (xpl + zMin f xtl xpl)) = (xpl + zMin f xtl xpl) + xj := by first | (rw [zRk9 e9, e9, zB_f (by omega), Int.add_zero]; done) | (rw [zRk9 e9, e9]; congr 1; exact zB_congr (by omega))
            have e6 : zSg (zMin f xtl xpl) xz = (-xz) := by first | exact if_pos (by omega) | exact if_neg (by omega)
            have hP8 : va_P D vwCl (zmod cs o A S T xsm xth xam f xtl (zFE f xtl (xpl + zMin f xtl xpl) + zB (zRok f xtl xk (xpl + zMin f xtl xpl))) (zU g xk (zSg (zMin f xtl xpl) (zNm f (xpl + zMin f xtl xpl) (zFE f xtl (xpl + zMin f xtl xpl) - (xpl + zMin f xtl xpl)).toNat)))) H := by rw [e8, e7, e6]; exact hP
            have hP9 : va_P D vwCl (zmod cs o A S T xsm xth xam f xtl (zFE f xtl (xpl + zMin f xtl xpl) + zB (zRok f xtl xk (xpl + zMin f xtl xpl))) (zU g xk (zSg (zMin f xtl xpl) (zNm f (xpl + zMin f xtl xpl) (zFE f xtl (xpl + zMin f xtl xpl) - (xpl + zMin f xtl xpl)).toNat)))) H := hP8
            have hD9 : va_D A0 (zmod cs o A S T xsm xth xam f xtl (zFE f xtl (xpl + zMin f xtl xpl) + zB (zRok f xtl xk (xpl + zMin f xtl xpl))) (zU g xk (zSg (zMin f xtl xpl) (zNm f (xpl + zMin f xtl xpl) (zFE f xtl (xpl + zMin f xtl xpl) - (xpl + zMin f xtl xpl)).toNat)))) := zD_addr hD rfl
            subst hAe
            exact W.zret hx hb hr (zbool_n (by first | decide | exact zB_r _)) (fun t ht hW => ⟨⟨_, (), rfl, (congrArg zI (show 0 = zB (zRok f xtl xk (xpl + zMin f xtl xpl)) from by rw [zRk9 e9]; first | exact (zB_t (by omega)).symm | exact (zB_f (by omega)).symm)), by rw [ht]; exact hP9, hD9⟩, hS.F ht⟩) hS.2.2 dX6_readsNumber_124
          · refine lv_aload_n hx hb dX6_readsNumber_98 rfl (lv_at hl 3 rfl) ?_
            refine lv_iload_n hx hb dX6_readsNumber_99 rfl (lv_at hl 4 rfl) ?_
            refine zr_iconst hx hb dX6_readsNumber_100 ?_
            refine zr_irem hx hb dX6_readsNumber_101 (by omega) (by decide) ?_
            refine zr_iconst hx hb dX6_readsNumber_102 ?_
            refine zr_icmp_ne (tgt := 111) hx hb dX6_readsNumber_103 (by decide) (by omega) (by decide) (fun c10 => ?_) (fun c10 => ?_)
            · refine zr_bipush hx hb dX6_readsNumber_111 (by decide) ?_
              refine zc_i (va_runV (As := [.int (zI 44)]) (rest := []) ⟨hx, hb, hml, hown, hts⟩ (met_X6_passes l D cs o H.size A S T xsm xth xam f xtl ((xpl + zMin f xtl xpl) + xj) (zU g xk (-xz)) 44 (by first | assumption | omega) (by first | assumption | omega) (by first | assumption | omega) (by first | decide | omega)) (cwV 1 hts gX6_readsNumber_X6_passes rfl rfl rfl (by decide +kernel) ⟨Nat.le_of_ble_eq_true rfl, Nat.le_of_ble_eq_true rfl⟩) ⟨zPreZ.blind, va_recv hK hP (ci := 6) (q0 := 0) rfl rfl, fun U hU hW => zp_Z hP hK hD hN hU hW⟩ rfl rfl hl.1 rfl (lv_room (Nat.le_of_ble_eq_true rfl)) dX6_readsNumber_113 ⟨Nat.le_of_ble_eq_true rfl, Nat.le_of_ble_eq_true rfl⟩) hS hD hA (fun H locs hP hD hS => ?_)
              refine zr_ifb_eq (tgt := 123) hx hb dX6_readsNumber_116 (by decide) (fun c11 => ?_) (fun c11 => ?_)
              · refine zr_iconst hx hb dX6_readsNumber_123 ?_
                have e9 : zFE f xtl (xpl + zMin f xtl xpl) = (xpl + zMin f xtl xpl) + xj := zFE_eq jj jf (fun _ => by first | assumption | omega)
                have e8 : zNm f (xpl + zMin f xtl xpl) (zFE f xtl (xpl + zMin f xtl xpl) - (xpl + zMin f xtl xpl)).toNat = xz := by rw [e9, jz]; exact congrArg (fun k : Int => zNm f (xpl + zMin f xtl xpl) k.toNat) (by omega)
                have e7 : zFE f xtl (xpl + zMin f xtl xpl) + zB (zRok f xtl xk (xpl + zMin f xtl xpl)) = ((xpl + zMin f xtl xpl) + xj) + zB (((xpl + zMin f xtl xpl) + xj) < xtl ∧ f ((xpl + zMin f xtl xpl) + xj) = 44) := by first | (rw [zRk9 e9, e9, zB_f (by omega), Int.add_zero]; done) | (rw [zRk9 e9, e9]; congr 1; exact zB_congr (by omega))
                have e6 : zSg (zMin f xtl xpl) xz = (-xz) := by first | exact if_pos (by omega) | exact if_neg (by omega)
                have hP8 : va_P D vwCl (zmod cs o A S T xsm xth xam f xtl (zFE f xtl (xpl + zMin f xtl xpl) + zB (zRok f xtl xk (xpl + zMin f xtl xpl))) (zU g xk (zSg (zMin f xtl xpl) (zNm f (xpl + zMin f xtl xpl) (zFE f xtl (xpl + zMin f xtl xpl) - (xpl + zMin f xtl xpl)).toNat)))) H := by rw [e8, e7, e6]; exact hP
                have hP9 : va_P D vwCl (zmod cs o A S T xsm xth xam f xtl (zFE f xtl (xpl + zMin f xtl xpl) + zB (zRok f xtl xk (xpl + zMin f xtl xpl))) (zU g xk (zSg (zMin f xtl xpl) (zNm f (xpl + zMin f xtl xpl) (zFE f xtl (xpl + zMin f xtl xpl) - (xpl + zMin f xtl xpl)).toNat)))) H := hP8
                have hD9 : va_D A0 (zmod cs o A S T xsm xth xam f xtl (zFE f xtl (xpl + zMin f xtl xpl) + zB (zRok f xtl xk (xpl + zMin f xtl xpl))) (zU g xk (zSg (zMin f xtl xpl) (zNm f (xpl + zMin f xtl xpl) (zFE f xtl (xpl + zMin f xtl xpl) - (xpl + zMin f xtl xpl)).toNat)))) := zD_addr hD rfl
                subst hAe
                exact W.zret hx hb hr (zbool_n (by first | decide | exact zB_r _)) (fun t ht hW => ⟨⟨_, (), rfl, (congrArg zI (show 0 = zB (zRok f xtl xk (xpl + zMin f xtl xpl)) from by rw [zRk9 e9]; first | exact (zB_t (by omega)).symm | exact (zB_f (by omega)).symm)), by rw [ht]; exact hP9, hD9⟩, hS.F ht⟩) hS.2.2 dX6_readsNumber_124
              · refine zr_iconst hx hb dX6_readsNumber_119 ?_
                refine lv_goto (tgt := 124) hx hb dX6_readsNumber_120 (by decide) ?_
                have e9 : zFE f xtl (xpl + zMin f xtl xpl) = (xpl + zMin f xtl xpl) + xj := zFE_eq jj jf (fun _ => by first | assumption | omega)
                have e8 : zNm f (xpl + zMin f xtl xpl) (zFE f xtl (xpl + zMin f xtl xpl) - (xpl + zMin f xtl xpl)).toNat = xz := by rw [e9, jz]; exact congrArg (fun k : Int => zNm f (xpl + zMin f xtl xpl) k.toNat) (by omega)
                have e7 : zFE f xtl (xpl + zMin f xtl xpl) + zB (zRok f xtl xk (xpl + zMin f xtl xpl)) = ((xpl + zMin f xtl xpl) + xj) + zB (((xpl + zMin f xtl xpl) + xj) < xtl ∧ f ((xpl + zMin f xtl xpl) + xj) = 44) := by first | (rw [zRk9 e9, e9, zB_f (by omega), Int.add_zero]; done) | (rw [zRk9 e9, e9]; congr 1; exact zB_congr (by omega))
                have e6 : zSg (zMin f xtl xpl) xz = (-xz) := by first | exact if_pos (by omega) | exact if_neg (by omega)
                have hP8 : va_P D vwCl (zmod cs o A S T xsm xth xam f xtl (zFE f xtl (xpl + zMin f xtl xpl) + zB (zRok f xtl xk (xpl + zMin f xtl xpl))) (zU g xk (zSg (zMin f xtl xpl) (zNm f (xpl + zMin f xtl xpl) (zFE f xtl (xpl + zMin f xtl xpl) - (xpl + zMin f xtl xpl)).toNat)))) H := by rw [e8, e7, e6]; exact hP
                have hP9 : va_P D vwCl (zmod cs o A S T xsm xth xam f xtl (zFE f xtl (xpl + zMin f xtl xpl) + zB (zRok f xtl xk (xpl + zMin f xtl xpl))) (zU g xk (zSg (zMin f xtl xpl) (zNm f (xpl + zMin f xtl xpl) (zFE f xtl (xpl + zMin f xtl xpl) - (xpl + zMin f xtl xpl)).toNat)))) H := hP8
                have hD9 : va_D A0 (zmod cs o A S T xsm xth xam f xtl (zFE f xtl (xpl + zMin f xtl xpl) + zB (zRok f xtl xk (xpl + zMin f xtl xpl))) (zU g xk (zSg (zMin f xtl xpl) (zNm f (xpl + zMin f xtl xpl) (zFE f xtl (xpl + zMin f xtl xpl) - (xpl + zMin f xtl xpl)).toNat)))) := zD_addr hD rfl
                subst hAe
                exact W.zret hx hb hr (zbool_n (by first | decide | exact zB_r _)) (fun t ht hW => ⟨⟨_, (), rfl, (congrArg zI (show 1 = zB (zRok f xtl xk (xpl + zMin f xtl xpl)) from by rw [zRk9 e9]; first | exact (zB_t (by omega)).symm | exact (zB_f (by omega)).symm)), by rw [ht]; exact hP9, hD9⟩, hS.F ht⟩) hS.2.2 dX6_readsNumber_124
            · refine zr_bipush hx hb dX6_readsNumber_106 (by decide) ?_
              refine lv_goto (tgt := 113) hx hb dX6_readsNumber_108 (by decide) ?_
              refine zc_i (va_runV (As := [.int (zI 59)]) (rest := []) ⟨hx, hb, hml, hown, hts⟩ (met_X6_passes l D cs o H.size A S T xsm xth xam f xtl ((xpl + zMin f xtl xpl) + xj) (zU g xk (-xz)) 59 (by first | assumption | omega) (by first | assumption | omega) (by first | assumption | omega) (by first | decide | omega)) (cwV 1 hts gX6_readsNumber_X6_passes rfl rfl rfl (by decide +kernel) ⟨Nat.le_of_ble_eq_true rfl, Nat.le_of_ble_eq_true rfl⟩) ⟨zPreZ.blind, va_recv hK hP (ci := 6) (q0 := 0) rfl rfl, fun U hU hW => zp_Z hP hK hD hN hU hW⟩ rfl rfl hl.1 rfl (lv_room (Nat.le_of_ble_eq_true rfl)) dX6_readsNumber_113 ⟨Nat.le_of_ble_eq_true rfl, Nat.le_of_ble_eq_true rfl⟩) hS hD hA (fun H locs hP hD hS => ?_)
              refine zr_ifb_eq (tgt := 123) hx hb dX6_readsNumber_116 (by decide) (fun c12 => ?_) (fun c12 => ?_)
              · refine zr_iconst hx hb dX6_readsNumber_123 ?_
                have e9 : zFE f xtl (xpl + zMin f xtl xpl) = (xpl + zMin f xtl xpl) + xj := zFE_eq jj jf (fun _ => by first | assumption | omega)
                have e8 : zNm f (xpl + zMin f xtl xpl) (zFE f xtl (xpl + zMin f xtl xpl) - (xpl + zMin f xtl xpl)).toNat = xz := by rw [e9, jz]; exact congrArg (fun k : Int => zNm f (xpl + zMin f xtl xpl) k.toNat) (by omega)
                have e7 : zFE f xtl (xpl + zMin f xtl xpl) + zB (zRok f xtl xk (xpl + zMin f xtl xpl)) = ((xpl + zMin f xtl xpl) + xj) + zB (((xpl + zMin f xtl xpl) + xj) < xtl ∧ f ((xpl + zMin f xtl xpl) + xj) = 59) := by first | (rw [zRk9 e9, e9, zB_f (by omega), Int.add_zero]; done) | (rw [zRk9 e9, e9]; congr 1; exact zB_congr (by omega))
                have e6 : zSg (zMin f xtl xpl) xz = (-xz) := by first | exact if_pos (by omega) | exact if_neg (by omega)
                have hP8 : va_P D vwCl (zmod cs o A S T xsm xth xam f xtl (zFE f xtl (xpl + zMin f xtl xpl) + zB (zRok f xtl xk (xpl + zMin f xtl xpl))) (zU g xk (zSg (zMin f xtl xpl) (zNm f (xpl + zMin f xtl xpl) (zFE f xtl (xpl + zMin f xtl xpl) - (xpl + zMin f xtl xpl)).toNat)))) H := by rw [e8, e7, e6]; exact hP
                have hP9 : va_P D vwCl (zmod cs o A S T xsm xth xam f xtl (zFE f xtl (xpl + zMin f xtl xpl) + zB (zRok f xtl xk (xpl + zMin f xtl xpl))) (zU g xk (zSg (zMin f xtl xpl) (zNm f (xpl + zMin f xtl xpl) (zFE f xtl (xpl + zMin f xtl xpl) - (xpl + zMin f xtl xpl)).toNat)))) H := hP8
                have hD9 : va_D A0 (zmod cs o A S T xsm xth xam f xtl (zFE f xtl (xpl + zMin f xtl xpl) + zB (zRok f xtl xk (xpl + zMin f xtl xpl))) (zU g xk (zSg (zMin f xtl xpl) (zNm f (xpl + zMin f xtl xpl) (zFE f xtl (xpl + zMin f xtl xpl) - (xpl + zMin f xtl xpl)).toNat)))) := zD_addr hD rfl
                subst hAe
                exact W.zret hx hb hr (zbool_n (by first | decide | exact zB_r _)) (fun t ht hW => ⟨⟨_, (), rfl, (congrArg zI (show 0 = zB (zRok f xtl xk (xpl + zMin f xtl xpl)) from by rw [zRk9 e9]; first | exact (zB_t (by omega)).symm | exact (zB_f (by omega)).symm)), by rw [ht]; exact hP9, hD9⟩, hS.F ht⟩) hS.2.2 dX6_readsNumber_124
              · refine zr_iconst hx hb dX6_readsNumber_119 ?_
                refine lv_goto (tgt := 124) hx hb dX6_readsNumber_120 (by decide) ?_
                have e9 : zFE f xtl (xpl + zMin f xtl xpl) = (xpl + zMin f xtl xpl) + xj := zFE_eq jj jf (fun _ => by first | assumption | omega)
                have e8 : zNm f (xpl + zMin f xtl xpl) (zFE f xtl (xpl + zMin f xtl xpl) - (xpl + zMin f xtl xpl)).toNat = xz := by rw [e9, jz]; exact congrArg (fun k : Int => zNm f (xpl + zMin f xtl xpl) k.toNat) (by omega)
                have e7 : zFE f xtl (xpl + zMin f xtl xpl) + zB (zRok f xtl xk (xpl + zMin f xtl xpl)) = ((xpl + zMin f xtl xpl) + xj) + zB (((xpl + zMin f xtl xpl) + xj) < xtl ∧ f ((xpl + zMin f xtl xpl) + xj) = 59) := by first | (rw [zRk9 e9, e9, zB_f (by omega), Int.add_zero]; done) | (rw [zRk9 e9, e9]; congr 1; exact zB_congr (by omega))
                have e6 : zSg (zMin f xtl xpl) xz = (-xz) := by first | exact if_pos (by omega) | exact if_neg (by omega)
                have hP8 : va_P D vwCl (zmod cs o A S T xsm xth xam f xtl (zFE f xtl (xpl + zMin f xtl xpl) + zB (zRok f xtl xk (xpl + zMin f xtl xpl))) (zU g xk (zSg (zMin f xtl xpl) (zNm f (xpl + zMin f xtl xpl) (zFE f xtl (xpl + zMin f xtl xpl) - (xpl + zMin f xtl xpl)).toNat)))) H := by rw [e8, e7, e6]; exact hP
                have hP9 : va_P D vwCl (zmod cs o A S T xsm xth xam f xtl (zFE f xtl (xpl + zMin f xtl xpl) + zB (zRok f xtl xk (xpl + zMin f xtl xpl))) (zU g xk (zSg (zMin f xtl xpl) (zNm f (xpl + zMin f xtl xpl) (zFE f xtl (xpl + zMin f xtl xpl) - (xpl + zMin f xtl xpl)).toNat)))) H := hP8
                have hD9 : va_D A0 (zmod cs o A S T xsm xth xam f xtl (zFE f xtl (xpl + zMin f xtl xpl) + zB (zRok f xtl xk (xpl + zMin f xtl xpl))) (zU g xk (zSg (zMin f xtl xpl) (zNm f (xpl + zMin f xtl xpl) (zFE f xtl (xpl + zMin f xtl xpl) - (xpl + zMin f xtl xpl)).toNat)))) := zD_addr hD rfl
                subst hAe
                exact W.zret hx hb hr (zbool_n (by first | decide | exact zB_r _)) (fun t ht hW => ⟨⟨_, (), rfl, (congrArg zI (show 1 = zB (zRok f xtl xk (xpl + zMin f xtl xpl)) from by rw [zRk9 e9]; first | exact (zB_t (by omega)).symm | exact (zB_f (by omega)).symm)), by rw [ht]; exact hP9, hD9⟩, hS.F ht⟩) hS.2.2 dX6_readsNumber_124
    · refine lv_aload_n hx hb dX6_readsNumber_22 rfl (lv_at hl 3 rfl) ?_
      refine va_get (D := D) (ci := 6) (v := .int (zI ((xpl + zMin f xtl xpl) + xj))) (C := RX6) (T := TX6) (N := 10) hx hb hts hiX6 hown hK hP 0 rfl rfl 8 (by decide) (hts (.fieldLink RX6 240 "ChargeEstimatorModel" "place" "I") (List.mem_of_getElem? (i := 1) rfl)) (fun _ h9 => h9) rfl dX6_readsNumber_23 ?_
      refine lv_iload_n hx hb dX6_readsNumber_26 rfl (lv_at hl 1 rfl) ?_
      refine zr_iconst hx hb dX6_readsNumber_27 ?_
      refine zr_iadd hx hb dX6_readsNumber_28 ?_
      refine zr_icmp_ge (tgt := 65) hx hb dX6_readsNumber_29 (by decide) (by omega) (by omega) (fun c13 => ?_) (fun c13 => ?_)
      · refine lv_aload_n hx hb dX6_readsNumber_65 rfl (lv_at hl 3 rfl) ?_
        refine va_get (D := D) (ci := 6) (v := .ref (o 5)) (C := RX6) (T := TX6) (N := 10) hx hb hts hiX6 hown hK hP 0 rfl rfl 9 (by decide) (hts (.fieldLink RX6 23 "ChargeEstimatorModel" "read" "[I") (List.mem_of_getElem? (i := 3) rfl)) (fun _ h9 => h9) rfl dX6_readsNumber_66 ?_
        refine lv_iload_n hx hb dX6_readsNumber_69 rfl (lv_at hl 4 rfl) ?_
        refine lv_iload_n hx hb dX6_readsNumber_70 rfl (lv_at hl 0 rfl) ?_
        refine zr_if_eq (tgt := 80) hx hb dX6_readsNumber_71 (by decide) (by omega) (fun c14 => ?_) (fun c14 => ?_)
        · refine lv_iload hx hb dX6_readsNumber_80 (lv_at hl 2 rfl) ?_
          refine zr_iast (D := D) (g := g) hx hb hK hP hD hS 5 0 rfl rfl (by decide) (by omega) dX6_readsNumber_82 (fun H locs hP hD hS => ?_)
          have hP : va_P D vwCl (zmod cs o A S T xsm xth xam f xtl ((xpl + zMin f xtl xpl) + xj) (zU g xk xz)) H := hP
          have hD : va_D A0 (zmod cs o A S T xsm xth xam f xtl ((xpl + zMin f xtl xpl) + xj) (zU g xk xz)) := zD_addr hD rfl
          refine lv_aload_n hx hb dX6_readsNumber_83 rfl (lv_at hl 3 rfl) ?_
          refine va_get (D := D) (ci := 6) (v := .int (zI ((xpl + zMin f xtl xpl) + xj))) (C := RX6) (T := TX6) (N := 10) hx hb hts hiX6 hown hK hP 0 rfl rfl 8 (by decide) (hts (.fieldLink RX6 240 "ChargeEstimatorModel" "place" "I") (List.mem_of_getElem? (i := 1) rfl)) (fun _ h9 => h9) rfl dX6_readsNumber_84 ?_
          refine lv_iload_n hx hb dX6_readsNumber_87 rfl (lv_at hl 1 rfl) ?_
          refine zr_icmp_le (tgt := 123) hx hb dX6_readsNumber_88 (by decide) (by omega) (by omega) (fun c15 => ?_) (fun c15 => ?_)
          · refine zr_iconst hx hb dX6_readsNumber_123 ?_
            have e9 : zFE f xtl (xpl + zMin f xtl xpl) = (xpl + zMin f xtl xpl) + xj := zFE_eq jj jf (fun _ => by first | assumption | omega)
            have e8 : zNm f (xpl + zMin f xtl xpl) (zFE f xtl (xpl + zMin f xtl xpl) - (xpl + zMin f xtl xpl)).toNat = xz := by rw [e9, jz]; exact congrArg (fun k : Int => zNm f (xpl + zMin f xtl xpl) k.toNat) (by omega)
            have e7 : zFE f xtl (xpl + zMin f xtl xpl) + zB (zRok f xtl xk (xpl + zMin f xtl xpl)) = (xpl + zMin f xtl xpl) + xj := by first | (rw [zRk9 e9, e9, zB_f (by omega), Int.add_zero]; done) | (rw [zRk9 e9, e9]; congr 1; exact zB_congr (by omega))
            have e6 : zSg (zMin f xtl xpl) xz = xz := by first | exact if_pos (by omega) | exact if_neg (by omega)
            have hP8 : va_P D vwCl (zmod cs o A S T xsm xth xam f xtl (zFE f xtl (xpl + zMin f xtl xpl) + zB (zRok f xtl xk (xpl + zMin f xtl xpl))) (zU g xk (zSg (zMin f xtl xpl) (zNm f (xpl + zMin f xtl xpl) (zFE f xtl (xpl + zMin f xtl xpl) - (xpl + zMin f xtl xpl)).toNat)))) H := by rw [e8, e7, e6]; exact hP
            have hP9 : va_P D vwCl (zmod cs o A S T xsm xth xam f xtl (zFE f xtl (xpl + zMin f xtl xpl) + zB (zRok f xtl xk (xpl + zMin f xtl xpl))) (zU g xk (zSg (zMin f xtl xpl) (zNm f (xpl + zMin f xtl xpl) (zFE f xtl (xpl + zMin f xtl xpl) - (xpl + zMin f xtl xpl)).toNat)))) H := hP8
            have hD9 : va_D A0 (zmod cs o A S T xsm xth xam f xtl (zFE f xtl (xpl + zMin f xtl xpl) + zB (zRok f xtl xk (xpl + zMin f xtl xpl))) (zU g xk (zSg (zMin f xtl xpl) (zNm f (xpl + zMin f xtl xpl) (zFE f xtl (xpl + zMin f xtl xpl) - (xpl + zMin f xtl xpl)).toNat)))) := zD_addr hD rfl
            subst hAe
            exact W.zret hx hb hr (zbool_n (by first | decide | exact zB_r _)) (fun t ht hW => ⟨⟨_, (), rfl, (congrArg zI (show 0 = zB (zRok f xtl xk (xpl + zMin f xtl xpl)) from by rw [zRk9 e9]; first | exact (zB_t (by omega)).symm | exact (zB_f (by omega)).symm)), by rw [ht]; exact hP9, hD9⟩, hS.F ht⟩) hS.2.2 dX6_readsNumber_124
          · refine lv_aload_n hx hb dX6_readsNumber_91 rfl (lv_at hl 3 rfl) ?_
            refine zc_ri (va_runV (As := []) (rest := []) ⟨hx, hb, hml, hown, hts⟩ (met_X6_isFigure l D cs o A S T xsm xth xam f xtl ((xpl + zMin f xtl xpl) + xj) (zU g xk xz) (by first | assumption | omega) (by first | assumption | omega) (by first | assumption | omega)) (cwV 0 hts gX6_readsNumber_X6_isFigure rfl rfl rfl (by decide +kernel) ⟨Nat.le_of_ble_eq_true rfl, Nat.le_of_ble_eq_true rfl⟩) ⟨zPre.blind, va_recv hK hP (ci := 6) (q0 := 0) rfl rfl, fun U hU hW => zp_R hP hK hD hN hU hW⟩ rfl rfl hl.1 rfl (lv_room (Nat.le_of_ble_eq_true rfl)) dX6_readsNumber_92 ⟨Nat.le_of_ble_eq_true rfl, Nat.le_of_ble_eq_true rfl⟩) ?_
            refine zr_ifb_ne (tgt := 123) hx hb dX6_readsNumber_95 (by decide) (fun c16 => ?_) (fun c16 => ?_)
            · refine zr_iconst hx hb dX6_readsNumber_123 ?_
              have e9 : zFE f xtl (xpl + zMin f xtl xpl) = (xpl + zMin f xtl xpl) + xj := zFE_eq jj jf (fun _ => by first | assumption | omega)
              have e8 : zNm f (xpl + zMin f xtl xpl) (zFE f xtl (xpl + zMin f xtl xpl) - (xpl + zMin f xtl xpl)).toNat = xz := by rw [e9, jz]; exact congrArg (fun k : Int => zNm f (xpl + zMin f xtl xpl) k.toNat) (by omega)
              have e7 : zFE f xtl (xpl + zMin f xtl xpl) + zB (zRok f xtl xk (xpl + zMin f xtl xpl)) = (xpl + zMin f xtl xpl) + xj := by first | (rw [zRk9 e9, e9, zB_f (by omega), Int.add_zero]; done) | (rw [zRk9 e9, e9]; congr 1; exact zB_congr (by omega))
              have e6 : zSg (zMin f xtl xpl) xz = xz := by first | exact if_pos (by omega) | exact if_neg (by omega)
              have hP8 : va_P D vwCl (zmod cs o A S T xsm xth xam f xtl (zFE f xtl (xpl + zMin f xtl xpl) + zB (zRok f xtl xk (xpl + zMin f xtl xpl))) (zU g xk (zSg (zMin f xtl xpl) (zNm f (xpl + zMin f xtl xpl) (zFE f xtl (xpl + zMin f xtl xpl) - (xpl + zMin f xtl xpl)).toNat)))) H := by rw [e8, e7, e6]; exact hP
              have hP9 : va_P D vwCl (zmod cs o A S T xsm xth xam f xtl (zFE f xtl (xpl + zMin f xtl xpl) + zB (zRok f xtl xk (xpl + zMin f xtl xpl))) (zU g xk (zSg (zMin f xtl xpl) (zNm f (xpl + zMin f xtl xpl) (zFE f xtl (xpl + zMin f xtl xpl) - (xpl + zMin f xtl xpl)).toNat)))) H := hP8
              have hD9 : va_D A0 (zmod cs o A S T xsm xth xam f xtl (zFE f xtl (xpl + zMin f xtl xpl) + zB (zRok f xtl xk (xpl + zMin f xtl xpl))) (zU g xk (zSg (zMin f xtl xpl) (zNm f (xpl + zMin f xtl xpl) (zFE f xtl (xpl + zMin f xtl xpl) - (xpl + zMin f xtl xpl)).toNat)))) := zD_addr hD rfl
              subst hAe
              exact W.zret hx hb hr (zbool_n (by first | decide | exact zB_r _)) (fun t ht hW => ⟨⟨_, (), rfl, (congrArg zI (show 0 = zB (zRok f xtl xk (xpl + zMin f xtl xpl)) from by rw [zRk9 e9]; first | exact (zB_t (by omega)).symm | exact (zB_f (by omega)).symm)), by rw [ht]; exact hP9, hD9⟩, hS.F ht⟩) hS.2.2 dX6_readsNumber_124
            · refine lv_aload_n hx hb dX6_readsNumber_98 rfl (lv_at hl 3 rfl) ?_
              refine lv_iload_n hx hb dX6_readsNumber_99 rfl (lv_at hl 4 rfl) ?_
              refine zr_iconst hx hb dX6_readsNumber_100 ?_
              refine zr_irem hx hb dX6_readsNumber_101 (by omega) (by decide) ?_
              refine zr_iconst hx hb dX6_readsNumber_102 ?_
              refine zr_icmp_ne (tgt := 111) hx hb dX6_readsNumber_103 (by decide) (by omega) (by decide) (fun c17 => ?_) (fun c17 => ?_)
              · refine zr_bipush hx hb dX6_readsNumber_111 (by decide) ?_
                refine zc_i (va_runV (As := [.int (zI 44)]) (rest := []) ⟨hx, hb, hml, hown, hts⟩ (met_X6_passes l D cs o H.size A S T xsm xth xam f xtl ((xpl + zMin f xtl xpl) + xj) (zU g xk xz) 44 (by first | assumption | omega) (by first | assumption | omega) (by first | assumption | omega) (by first | decide | omega)) (cwV 1 hts gX6_readsNumber_X6_passes rfl rfl rfl (by decide +kernel) ⟨Nat.le_of_ble_eq_true rfl, Nat.le_of_ble_eq_true rfl⟩) ⟨zPreZ.blind, va_recv hK hP (ci := 6) (q0 := 0) rfl rfl, fun U hU hW => zp_Z hP hK hD hN hU hW⟩ rfl rfl hl.1 rfl (lv_room (Nat.le_of_ble_eq_true rfl)) dX6_readsNumber_113 ⟨Nat.le_of_ble_eq_true rfl, Nat.le_of_ble_eq_true rfl⟩) hS hD hA (fun H locs hP hD hS => ?_)
                refine zr_ifb_eq (tgt := 123) hx hb dX6_readsNumber_116 (by decide) (fun c18 => ?_) (fun c18 => ?_)
                · refine zr_iconst hx hb dX6_readsNumber_123 ?_
                  have e9 : zFE f xtl (xpl + zMin f xtl xpl) = (xpl + zMin f xtl xpl) + xj := zFE_eq jj jf (fun _ => by first | assumption | omega)
                  have e8 : zNm f (xpl + zMin f xtl xpl) (zFE f xtl (xpl + zMin f xtl xpl) - (xpl + zMin f xtl xpl)).toNat = xz := by rw [e9, jz]; exact congrArg (fun k : Int => zNm f (xpl + zMin f xtl xpl) k.toNat) (by omega)
                  have e7 : zFE f xtl (xpl + zMin f xtl xpl) + zB (zRok f xtl xk (xpl + zMin f xtl xpl)) = ((xpl + zMin f xtl xpl) + xj) + zB (((xpl + zMin f xtl xpl) + xj) < xtl ∧ f ((xpl + zMin f xtl xpl) + xj) = 44) := by first | (rw [zRk9 e9, e9, zB_f (by omega), Int.add_zero]; done) | (rw [zRk9 e9, e9]; congr 1; exact zB_congr (by omega))
                  have e6 : zSg (zMin f xtl xpl) xz = xz := by first | exact if_pos (by omega) | exact if_neg (by omega)
                  have hP8 : va_P D vwCl (zmod cs o A S T xsm xth xam f xtl (zFE f xtl (xpl + zMin f xtl xpl) + zB (zRok f xtl xk (xpl + zMin f xtl xpl))) (zU g xk (zSg (zMin f xtl xpl) (zNm f (xpl + zMin f xtl xpl) (zFE f xtl (xpl + zMin f xtl xpl) - (xpl + zMin f xtl xpl)).toNat)))) H := by rw [e8, e7, e6]; exact hP
                  have hP9 : va_P D vwCl (zmod cs o A S T xsm xth xam f xtl (zFE f xtl (xpl + zMin f xtl xpl) + zB (zRok f xtl xk (xpl + zMin f xtl xpl))) (zU g xk (zSg (zMin f xtl xpl) (zNm f (xpl + zMin f xtl xpl) (zFE f xtl (xpl + zMin f xtl xpl) - (xpl + zMin f xtl xpl)).toNat)))) H := hP8
                  have hD9 : va_D A0 (zmod cs o A S T xsm xth xam f xtl (zFE f xtl (xpl + zMin f xtl xpl) + zB (zRok f xtl xk (xpl + zMin f xtl xpl))) (zU g xk (zSg (zMin f xtl xpl) (zNm f (xpl + zMin f xtl xpl) (zFE f xtl (xpl + zMin f xtl xpl) - (xpl + zMin f xtl xpl)).toNat)))) := zD_addr hD rfl
                  subst hAe
                  exact W.zret hx hb hr (zbool_n (by first | decide | exact zB_r _)) (fun t ht hW => ⟨⟨_, (), rfl, (congrArg zI (show 0 = zB (zRok f xtl xk (xpl + zMin f xtl xpl)) from by rw [zRk9 e9]; first | exact (zB_t (by omega)).symm | exact (zB_f (by omega)).symm)), by rw [ht]; exact hP9, hD9⟩, hS.F ht⟩) hS.2.2 dX6_readsNumber_124
                · refine zr_iconst hx hb dX6_readsNumber_119 ?_
                  refine lv_goto (tgt := 124) hx hb dX6_readsNumber_120 (by decide) ?_
                  have e9 : zFE f xtl (xpl + zMin f xtl xpl) = (xpl + zMin f xtl xpl) + xj := zFE_eq jj jf (fun _ => by first | assumption | omega)
                  have e8 : zNm f (xpl + zMin f xtl xpl) (zFE f xtl (xpl + zMin f xtl xpl) - (xpl + zMin f xtl xpl)).toNat = xz := by rw [e9, jz]; exact congrArg (fun k : Int => zNm f (xpl + zMin f xtl xpl) k.toNat) (by omega)
                  have e7 : zFE f xtl (xpl + zMin f xtl xpl) + zB (zRok f xtl xk (xpl + zMin f xtl xpl)) = ((xpl + zMin f xtl xpl) + xj) + zB (((xpl + zMin f xtl xpl) + xj) < xtl ∧ f ((xpl + zMin f xtl xpl) + xj) = 44) := by first | (rw [zRk9 e9, e9, zB_f (by omega), Int.add_zero]; done) | (rw [zRk9 e9, e9]; congr 1; exact zB_congr (by omega))
                  have e6 : zSg (zMin f xtl xpl) xz = xz := by first | exact if_pos (by omega) | exact if_neg (by omega)
                  have hP8 : va_P D vwCl (zmod cs o A S T xsm xth xam f xtl (zFE f xtl (xpl + zMin f xtl xpl) + zB (zRok f xtl xk (xpl + zMin f xtl xpl))) (zU g xk (zSg (zMin f xtl xpl) (zNm f (xpl + zMin f xtl xpl) (zFE f xtl (xpl + zMin f xtl xpl) - (xpl + zMin f xtl xpl)).toNat)))) H := by rw [e8, e7, e6]; exact hP
                  have hP9 : va_P D vwCl (zmod cs o A S T xsm xth xam f xtl (zFE f xtl (xpl + zMin f xtl xpl) + zB (zRok f xtl xk (xpl + zMin f xtl xpl))) (zU g xk (zSg (zMin f xtl xpl) (zNm f (xpl + zMin f xtl xpl) (zFE f xtl (xpl + zMin f xtl xpl) - (xpl + zMin f xtl xpl)).toNat)))) H := hP8
                  have hD9 : va_D A0 (zmod cs o A S T xsm xth xam f xtl (zFE f xtl (xpl + zMin f xtl xpl) + zB (zRok f xtl xk (xpl + zMin f xtl xpl))) (zU g xk (zSg (zMin f xtl xpl) (zNm f (xpl + zMin f xtl xpl) (zFE f xtl (xpl + zMin f xtl xpl) - (xpl + zMin f xtl xpl)).toNat)))) := zD_addr hD rfl
                  subst hAe
                  exact W.zret hx hb hr (zbool_n (by first | decide | exact zB_r _)) (fun t ht hW => ⟨⟨_, (), rfl, (congrArg zI (show 1 = zB (zRok f xtl xk (xpl + zMin f xtl xpl)) from by rw [zRk9 e9]; first | exact (zB_t (by omega)).symm | exact (zB_f (by omega)).symm)), by rw [ht]; exact hP9, hD9⟩, hS.F ht⟩) hS.2.2 dX6_readsNumber_124
              · refine zr_bipush hx hb dX6_readsNumber_106 (by decide) ?_
                refine lv_goto (tgt := 113) hx hb dX6_readsNumber_108 (by decide) ?_
                refine zc_i (va_runV (As := [.int (zI 59)]) (rest := []) ⟨hx, hb, hml, hown, hts⟩ (met_X6_passes l D cs o H.size A S T xsm xth xam f xtl ((xpl + zMin f xtl xpl) + xj) (zU g xk xz) 59 (by first | assumption | omega) (by first | assumption | omega) (by first | assumption | omega) (by first | decide | omega)) (cwV 1 hts gX6_readsNumber_X6_passes rfl rfl rfl (by decide +kernel) ⟨Nat.le_of_ble_eq_true rfl, Nat.le_of_ble_eq_true rfl⟩) ⟨zPreZ.blind, va_recv hK hP (ci := 6) (q0 := 0) rfl rfl, fun U hU hW => zp_Z hP hK hD hN hU hW⟩ rfl rfl hl.1 rfl (lv_room (Nat.le_of_ble_eq_true rfl)) dX6_readsNumber_113 ⟨Nat.le_of_ble_eq_true rfl, Nat.le_of_ble_eq_true rfl⟩) hS hD hA (fun H locs hP hD hS => ?_)
                refine zr_ifb_eq (tgt := 123) hx hb dX6_readsNumber_116 (by decide) (fun c19 => ?_) (fun c19 => ?_)
                · refine zr_iconst hx hb dX6_readsNumber_123 ?_
                  have e9 : zFE f xtl (xpl + zMin f xtl xpl) = (xpl + zMin f xtl xpl) + xj := zFE_eq jj jf (fun _ => by first | assumption | omega)
                  have e8 : zNm f (xpl + zMin f xtl xpl) (zFE f xtl (xpl + zMin f xtl xpl) - (xpl + zMin f xtl xpl)).toNat = xz := by rw [e9, jz]; exact congrArg (fun k : Int => zNm f (xpl + zMin f xtl xpl) k.toNat) (by omega)
                  have e7 : zFE f xtl (xpl + zMin f xtl xpl) + zB (zRok f xtl xk (xpl + zMin f xtl xpl)) = ((xpl + zMin f xtl xpl) + xj) + zB (((xpl + zMin f xtl xpl) + xj) < xtl ∧ f ((xpl + zMin f xtl xpl) + xj) = 59) := by first | (rw [zRk9 e9, e9, zB_f (by omega), Int.add_zero]; done) | (rw [zRk9 e9, e9]; congr 1; exact zB_congr (by omega))
                  have e6 : zSg (zMin f xtl xpl) xz = xz := by first | exact if_pos (by omega) | exact if_neg (by omega)
                  have hP8 : va_P D vwCl (zmod cs o A S T xsm xth xam f xtl (zFE f xtl (xpl + zMin f xtl xpl) + zB (zRok f xtl xk (xpl + zMin f xtl xpl))) (zU g xk (zSg (zMin f xtl xpl) (zNm f (xpl + zMin f xtl xpl) (zFE f xtl (xpl + zMin f xtl xpl) - (xpl + zMin f xtl xpl)).toNat)))) H := by rw [e8, e7, e6]; exact hP
                  have hP9 : va_P D vwCl (zmod cs o A S T xsm xth xam f xtl (zFE f xtl (xpl + zMin f xtl xpl) + zB (zRok f xtl xk (xpl + zMin f xtl xpl))) (zU g xk (zSg (zMin f xtl xpl) (zNm f (xpl + zMin f xtl xpl) (zFE f xtl (xpl + zMin f xtl xpl) - (xpl + zMin f xtl xpl)).toNat)))) H := hP8
                  have hD9 : va_D A0 (zmod cs o A S T xsm xth xam f xtl (zFE f xtl (xpl + zMin f xtl xpl) + zB (zRok f xtl xk (xpl + zMin f xtl xpl))) (zU g xk (zSg (zMin f xtl xpl) (zNm f (xpl + zMin f xtl xpl) (zFE f xtl (xpl + zMin f xtl xpl) - (xpl + zMin f xtl xpl)).toNat)))) := zD_addr hD rfl
                  subst hAe
                  exact W.zret hx hb hr (zbool_n (by first | decide | exact zB_r _)) (fun t ht hW => ⟨⟨_, (), rfl, (congrArg zI (show 0 = zB (zRok f xtl xk (xpl + zMin f xtl xpl)) from by rw [zRk9 e9]; first | exact (zB_t (by omega)).symm | exact (zB_f (by omega)).symm)), by rw [ht]; exact hP9, hD9⟩, hS.F ht⟩) hS.2.2 dX6_readsNumber_124
                · refine zr_iconst hx hb dX6_readsNumber_119 ?_
                  refine lv_goto (tgt := 124) hx hb dX6_readsNumber_120 (by decide) ?_
                  have e9 : zFE f xtl (xpl + zMin f xtl xpl) = (xpl + zMin f xtl xpl) + xj := zFE_eq jj jf (fun _ => by first | assumption | omega)
                  have e8 : zNm f (xpl + zMin f xtl xpl) (zFE f xtl (xpl + zMin f xtl xpl) - (xpl + zMin f xtl xpl)).toNat = xz := by rw [e9, jz]; exact congrArg (fun k : Int => zNm f (xpl + zMin f xtl xpl) k.toNat) (by omega)
                  have e7 : zFE f xtl (xpl + zMin f xtl xpl) + zB (zRok f xtl xk (xpl + zMin f xtl xpl)) = ((xpl + zMin f xtl xpl) + xj) + zB (((xpl + zMin f xtl xpl) + xj) < xtl ∧ f ((xpl + zMin f xtl xpl) + xj) = 59) := by first | (rw [zRk9 e9, e9, zB_f (by omega), Int.add_zero]; done) | (rw [zRk9 e9, e9]; congr 1; exact zB_congr (by omega))
                  have e6 : zSg (zMin f xtl xpl) xz = xz := by first | exact if_pos (by omega) | exact if_neg (by omega)
                  have hP8 : va_P D vwCl (zmod cs o A S T xsm xth xam f xtl (zFE f xtl (xpl + zMin f xtl xpl) + zB (zRok f xtl xk (xpl + zMin f xtl xpl))) (zU g xk (zSg (zMin f xtl xpl) (zNm f (xpl + zMin f xtl xpl) (zFE f xtl (xpl + zMin f xtl xpl) - (xpl + zMin f xtl xpl)).toNat)))) H := by rw [e8, e7, e6]; exact hP
                  have hP9 : va_P D vwCl (zmod cs o A S T xsm xth xam f xtl (zFE f xtl (xpl + zMin f xtl xpl) + zB (zRok f xtl xk (xpl + zMin f xtl xpl))) (zU g xk (zSg (zMin f xtl xpl) (zNm f (xpl + zMin f xtl xpl) (zFE f xtl (xpl + zMin f xtl xpl) - (xpl + zMin f xtl xpl)).toNat)))) H := hP8
                  have hD9 : va_D A0 (zmod cs o A S T xsm xth xam f xtl (zFE f xtl (xpl + zMin f xtl xpl) + zB (zRok f xtl xk (xpl + zMin f xtl xpl))) (zU g xk (zSg (zMin f xtl xpl) (zNm f (xpl + zMin f xtl xpl) (zFE f xtl (xpl + zMin f xtl xpl) - (xpl + zMin f xtl xpl)).toNat)))) := zD_addr hD rfl
                  subst hAe
                  exact W.zret hx hb hr (zbool_n (by first | decide | exact zB_r _)) (fun t ht hW => ⟨⟨_, (), rfl, (congrArg zI (show 1 = zB (zRok f xtl xk (xpl + zMin f xtl xpl)) from by rw [zRk9 e9]; first | exact (zB_t (by omega)).symm | exact (zB_f (by omega)).symm)), by rw [ht]; exact hP9, hD9⟩, hS.F ht⟩) hS.2.2 dX6_readsNumber_124
        · refine lv_iload hx hb dX6_readsNumber_74 (lv_at hl 2 rfl) ?_
          refine zr_ineg hx hb dX6_readsNumber_76 ?_
          refine lv_goto (tgt := 82) hx hb dX6_readsNumber_77 (by decide) ?_
          refine zr_iast (D := D) (g := g) hx hb hK hP hD hS 5 0 rfl rfl (by decide) (by omega) dX6_readsNumber_82 (fun H locs hP hD hS => ?_)
          have hP : va_P D vwCl (zmod cs o A S T xsm xth xam f xtl ((xpl + zMin f xtl xpl) + xj) (zU g xk (-xz))) H := hP
          have hD : va_D A0 (zmod cs o A S T xsm xth xam f xtl ((xpl + zMin f xtl xpl) + xj) (zU g xk (-xz))) := zD_addr hD rfl
          refine lv_aload_n hx hb dX6_readsNumber_83 rfl (lv_at hl 3 rfl) ?_
          refine va_get (D := D) (ci := 6) (v := .int (zI ((xpl + zMin f xtl xpl) + xj))) (C := RX6) (T := TX6) (N := 10) hx hb hts hiX6 hown hK hP 0 rfl rfl 8 (by decide) (hts (.fieldLink RX6 240 "ChargeEstimatorModel" "place" "I") (List.mem_of_getElem? (i := 1) rfl)) (fun _ h9 => h9) rfl dX6_readsNumber_84 ?_
          refine lv_iload_n hx hb dX6_readsNumber_87 rfl (lv_at hl 1 rfl) ?_
          refine zr_icmp_le (tgt := 123) hx hb dX6_readsNumber_88 (by decide) (by omega) (by omega) (fun c20 => ?_) (fun c20 => ?_)
          · refine zr_iconst hx hb dX6_readsNumber_123 ?_
            have e9 : zFE f xtl (xpl + zMin f xtl xpl) = (xpl + zMin f xtl xpl) + xj := zFE_eq jj jf (fun _ => by first | assumption | omega)
            have e8 : zNm f (xpl + zMin f xtl xpl) (zFE f xtl (xpl + zMin f xtl xpl) - (xpl + zMin f xtl xpl)).toNat = xz := by rw [e9, jz]; exact congrArg (fun k : Int => zNm f (xpl + zMin f xtl xpl) k.toNat) (by omega)
            have e7 : zFE f xtl (xpl + zMin f xtl xpl) + zB (zRok f xtl xk (xpl + zMin f xtl xpl)) = (xpl + zMin f xtl xpl) + xj := by first | (rw [zRk9 e9, e9, zB_f (by omega), Int.add_zero]; done) | (rw [zRk9 e9, e9]; congr 1; exact zB_congr (by omega))
            have e6 : zSg (zMin f xtl xpl) xz = (-xz) := by first | exact if_pos (by omega) | exact if_neg (by omega)
            have hP8 : va_P D vwCl (zmod cs o A S T xsm xth xam f xtl (zFE f xtl (xpl + zMin f xtl xpl) + zB (zRok f xtl xk (xpl + zMin f xtl xpl))) (zU g xk (zSg (zMin f xtl xpl) (zNm f (xpl + zMin f xtl xpl) (zFE f xtl (xpl + zMin f xtl xpl) - (xpl + zMin f xtl xpl)).toNat)))) H := by rw [e8, e7, e6]; exact hP
            have hP9 : va_P D vwCl (zmod cs o A S T xsm xth xam f xtl (zFE f xtl (xpl + zMin f xtl xpl) + zB (zRok f xtl xk (xpl + zMin f xtl xpl))) (zU g xk (zSg (zMin f xtl xpl) (zNm f (xpl + zMin f xtl xpl) (zFE f xtl (xpl + zMin f xtl xpl) - (xpl + zMin f xtl xpl)).toNat)))) H := hP8
            have hD9 : va_D A0 (zmod cs o A S T xsm xth xam f xtl (zFE f xtl (xpl + zMin f xtl xpl) + zB (zRok f xtl xk (xpl + zMin f xtl xpl))) (zU g xk (zSg (zMin f xtl xpl) (zNm f (xpl + zMin f xtl xpl) (zFE f xtl (xpl + zMin f xtl xpl) - (xpl + zMin f xtl xpl)).toNat)))) := zD_addr hD rfl
            subst hAe
            exact W.zret hx hb hr (zbool_n (by first | decide | exact zB_r _)) (fun t ht hW => ⟨⟨_, (), rfl, (congrArg zI (show 0 = zB (zRok f xtl xk (xpl + zMin f xtl xpl)) from by rw [zRk9 e9]; first | exact (zB_t (by omega)).symm | exact (zB_f (by omega)).symm)), by rw [ht]; exact hP9, hD9⟩, hS.F ht⟩) hS.2.2 dX6_readsNumber_124
          · refine lv_aload_n hx hb dX6_readsNumber_91 rfl (lv_at hl 3 rfl) ?_
            refine zc_ri (va_runV (As := []) (rest := []) ⟨hx, hb, hml, hown, hts⟩ (met_X6_isFigure l D cs o A S T xsm xth xam f xtl ((xpl + zMin f xtl xpl) + xj) (zU g xk (-xz)) (by first | assumption | omega) (by first | assumption | omega) (by first | assumption | omega)) (cwV 0 hts gX6_readsNumber_X6_isFigure rfl rfl rfl (by decide +kernel) ⟨Nat.le_of_ble_eq_true rfl, Nat.le_of_ble_eq_true rfl⟩) ⟨zPre.blind, va_recv hK hP (ci := 6) (q0 := 0) rfl rfl, fun U hU hW => zp_R hP hK hD hN hU hW⟩ rfl rfl hl.1 rfl (lv_room (Nat.le_of_ble_eq_true rfl)) dX6_readsNumber_92 ⟨Nat.le_of_ble_eq_true rfl, Nat.le_of_ble_eq_true rfl⟩) ?_
            refine zr_ifb_ne (tgt := 123) hx hb dX6_readsNumber_95 (by decide) (fun c21 => ?_) (fun c21 => ?_)
            · refine zr_iconst hx hb dX6_readsNumber_123 ?_
              have e9 : zFE f xtl (xpl + zMin f xtl xpl) = (xpl + zMin f xtl xpl) + xj := zFE_eq jj jf (fun _ => by first | assumption | omega)
              have e8 : zNm f (xpl + zMin f xtl xpl) (zFE f xtl (xpl + zMin f xtl xpl) - (xpl + zMin f xtl xpl)).toNat = xz := by rw [e9, jz]; exact congrArg (fun k : Int => zNm f (xpl + zMin f xtl xpl) k.toNat) (by omega)
              have e7 : zFE f xtl (xpl + zMin f xtl xpl) + zB (zRok f xtl xk (xpl + zMin f xtl xpl)) = (xpl + zMin f xtl xpl) + xj := by first | (rw [zRk9 e9, e9, zB_f (by omega), Int.add_zero]; done) | (rw [zRk9 e9, e9]; congr 1; exact zB_congr (by omega))
              have e6 : zSg (zMin f xtl xpl) xz = (-xz) := by first | exact if_pos (by omega) | exact if_neg (by omega)
              have hP8 : va_P D vwCl (zmod cs o A S T xsm xth xam f xtl (zFE f xtl (xpl + zMin f xtl xpl) + zB (zRok f xtl xk (xpl + zMin f xtl xpl))) (zU g xk (zSg (zMin f xtl xpl) (zNm f (xpl + zMin f xtl xpl) (zFE f xtl (xpl + zMin f xtl xpl) - (xpl + zMin f xtl xpl)).toNat)))) H := by rw [e8, e7, e6]; exact hP
              have hP9 : va_P D vwCl (zmod cs o A S T xsm xth xam f xtl (zFE f xtl (xpl + zMin f xtl xpl) + zB (zRok f xtl xk (xpl + zMin f xtl xpl))) (zU g xk (zSg (zMin f xtl xpl) (zNm f (xpl + zMin f xtl xpl) (zFE f xtl (xpl + zMin f xtl xpl) - (xpl + zMin f xtl xpl)).toNat)))) H := hP8
              have hD9 : va_D A0 (zmod cs o A S T xsm xth xam f xtl (zFE f xtl (xpl + zMin f xtl xpl) + zB (zRok f xtl xk (xpl + zMin f xtl xpl))) (zU g xk (zSg (zMin f xtl xpl) (zNm f (xpl + zMin f xtl xpl) (zFE f xtl (xpl + zMin f xtl xpl) - (xpl + zMin f xtl xpl)).toNat)))) := zD_addr hD rfl
              subst hAe
              exact W.zret hx hb hr (zbool_n (by first | decide | exact zB_r _)) (fun t ht hW => ⟨⟨_, (), rfl, (congrArg zI (show 0 = zB (zRok f xtl xk (xpl + zMin f xtl xpl)) from by rw [zRk9 e9]; first | exact (zB_t (by omega)).symm | exact (zB_f (by omega)).symm)), by rw [ht]; exact hP9, hD9⟩, hS.F ht⟩) hS.2.2 dX6_readsNumber_124
            · refine lv_aload_n hx hb dX6_readsNumber_98 rfl (lv_at hl 3 rfl) ?_
              refine lv_iload_n hx hb dX6_readsNumber_99 rfl (lv_at hl 4 rfl) ?_
              refine zr_iconst hx hb dX6_readsNumber_100 ?_
              refine zr_irem hx hb dX6_readsNumber_101 (by omega) (by decide) ?_
              refine zr_iconst hx hb dX6_readsNumber_102 ?_
              refine zr_icmp_ne (tgt := 111) hx hb dX6_readsNumber_103 (by decide) (by omega) (by decide) (fun c22 => ?_) (fun c22 => ?_)
              · refine zr_bipush hx hb dX6_readsNumber_111 (by decide) ?_
                refine zc_i (va_runV (As := [.int (zI 44)]) (rest := []) ⟨hx, hb, hml, hown, hts⟩ (met_X6_passes l D cs o H.size A S T xsm xth xam f xtl ((xpl + zMin f xtl xpl) + xj) (zU g xk (-xz)) 44 (by first | assumption | omega) (by first | assumption | omega) (by first | assumption | omega) (by first | decide | omega)) (cwV 1 hts gX6_readsNumber_X6_passes rfl rfl rfl (by decide +kernel) ⟨Nat.le_of_ble_eq_true rfl, Nat.le_of_ble_eq_true rfl⟩) ⟨zPreZ.blind, va_recv hK hP (ci := 6) (q0 := 0) rfl rfl, fun U hU hW => zp_Z hP hK hD hN hU hW⟩ rfl rfl hl.1 rfl (lv_room (Nat.le_of_ble_eq_true rfl)) dX6_readsNumber_113 ⟨Nat.le_of_ble_eq_true rfl, Nat.le_of_ble_eq_true rfl⟩) hS hD hA (fun H locs hP hD hS => ?_)
                refine zr_ifb_eq (tgt := 123) hx hb dX6_readsNumber_116 (by decide) (fun c23 => ?_) (fun c23 => ?_)
                · refine zr_iconst hx hb dX6_readsNumber_123 ?_
                  have e9 : zFE f xtl (xpl + zMin f xtl xpl) = (xpl + zMin f xtl xpl) + xj := zFE_eq jj jf (fun _ => by first | assumption | omega)
                  have e8 : zNm f (xpl + zMin f xtl xpl) (zFE f xtl (xpl + zMin f xtl xpl) - (xpl + zMin f xtl xpl)).toNat = xz := by rw [e9, jz]; exact congrArg (fun k : Int => zNm f (xpl + zMin f xtl xpl) k.toNat) (by omega)
                  have e7 : zFE f xtl (xpl + zMin f xtl xpl) + zB (zRok f xtl xk (xpl + zMin f xtl xpl)) = ((xpl + zMin f xtl xpl) + xj) + zB (((xpl + zMin f xtl xpl) + xj) < xtl ∧ f ((xpl + zMin f xtl xpl) + xj) = 44) := by first | (rw [zRk9 e9, e9, zB_f (by omega), Int.add_zero]; done) | (rw [zRk9 e9, e9]; congr 1; exact zB_congr (by omega))
                  have e6 : zSg (zMin f xtl xpl) xz = (-xz) := by first | exact if_pos (by omega) | exact if_neg (by omega)
                  have hP8 : va_P D vwCl (zmod cs o A S T xsm xth xam f xtl (zFE f xtl (xpl + zMin f xtl xpl) + zB (zRok f xtl xk (xpl + zMin f xtl xpl))) (zU g xk (zSg (zMin f xtl xpl) (zNm f (xpl + zMin f xtl xpl) (zFE f xtl (xpl + zMin f xtl xpl) - (xpl + zMin f xtl xpl)).toNat)))) H := by rw [e8, e7, e6]; exact hP
                  have hP9 : va_P D vwCl (zmod cs o A S T xsm xth xam f xtl (zFE f xtl (xpl + zMin f xtl xpl) + zB (zRok f xtl xk (xpl + zMin f xtl xpl))) (zU g xk (zSg (zMin f xtl xpl) (zNm f (xpl + zMin f xtl xpl) (zFE f xtl (xpl + zMin f xtl xpl) - (xpl + zMin f xtl xpl)).toNat)))) H := hP8
                  have hD9 : va_D A0 (zmod cs o A S T xsm xth xam f xtl (zFE f xtl (xpl + zMin f xtl xpl) + zB (zRok f xtl xk (xpl + zMin f xtl xpl))) (zU g xk (zSg (zMin f xtl xpl) (zNm f (xpl + zMin f xtl xpl) (zFE f xtl (xpl + zMin f xtl xpl) - (xpl + zMin f xtl xpl)).toNat)))) := zD_addr hD rfl
                  subst hAe
                  exact W.zret hx hb hr (zbool_n (by first | decide | exact zB_r _)) (fun t ht hW => ⟨⟨_, (), rfl, (congrArg zI (show 0 = zB (zRok f xtl xk (xpl + zMin f xtl xpl)) from by rw [zRk9 e9]; first | exact (zB_t (by omega)).symm | exact (zB_f (by omega)).symm)), by rw [ht]; exact hP9, hD9⟩, hS.F ht⟩) hS.2.2 dX6_readsNumber_124
                · refine zr_iconst hx hb dX6_readsNumber_119 ?_
                  refine lv_goto (tgt := 124) hx hb dX6_readsNumber_120 (by decide) ?_
                  have e9 : zFE f xtl (xpl + zMin f xtl xpl) = (xpl + zMin f xtl xpl) + xj := zFE_eq jj jf (fun _ => by first | assumption | omega)
                  have e8 : zNm f (xpl + zMin f xtl xpl) (zFE f xtl (xpl + zMin f xtl xpl) - (xpl + zMin f xtl xpl)).toNat = xz := by rw [e9, jz]; exact congrArg (fun k : Int => zNm f (xpl + zMin f xtl xpl) k.toNat) (by omega)
                  have e7 : zFE f xtl (xpl + zMin f xtl xpl) + zB (zRok f xtl xk (xpl + zMin f xtl xpl)) = ((xpl + zMin f xtl xpl) + xj) + zB (((xpl + zMin f xtl xpl) + xj) < xtl ∧ f ((xpl + zMin f xtl xpl) + xj) = 44) := by first | (rw [zRk9 e9, e9, zB_f (by omega), Int.add_zero]; done) | (rw [zRk9 e9, e9]; congr 1; exact zB_congr (by omega))
                  have e6 : zSg (zMin f xtl xpl) xz = (-xz) := by first | exact if_pos (by omega) | exact if_neg (by omega)
                  have hP8 : va_P D vwCl (zmod cs o A S T xsm xth xam f xtl (zFE f xtl (xpl + zMin f xtl xpl) + zB (zRok f xtl xk (xpl + zMin f xtl xpl))) (zU g xk (zSg (zMin f xtl xpl) (zNm f (xpl + zMin f xtl xpl) (zFE f xtl (xpl + zMin f xtl xpl) - (xpl + zMin f xtl xpl)).toNat)))) H := by rw [e8, e7, e6]; exact hP
                  have hP9 : va_P D vwCl (zmod cs o A S T xsm xth xam f xtl (zFE f xtl (xpl + zMin f xtl xpl) + zB (zRok f xtl xk (xpl + zMin f xtl xpl))) (zU g xk (zSg (zMin f xtl xpl) (zNm f (xpl + zMin f xtl xpl) (zFE f xtl (xpl + zMin f xtl xpl) - (xpl + zMin f xtl xpl)).toNat)))) H := hP8
                  have hD9 : va_D A0 (zmod cs o A S T xsm xth xam f xtl (zFE f xtl (xpl + zMin f xtl xpl) + zB (zRok f xtl xk (xpl + zMin f xtl xpl))) (zU g xk (zSg (zMin f xtl xpl) (zNm f (xpl + zMin f xtl xpl) (zFE f xtl (xpl + zMin f xtl xpl) - (xpl + zMin f xtl xpl)).toNat)))) := zD_addr hD rfl
                  subst hAe
                  exact W.zret hx hb hr (zbool_n (by first | decide | exact zB_r _)) (fun t ht hW => ⟨⟨_, (), rfl, (congrArg zI (show 1 = zB (zRok f xtl xk (xpl + zMin f xtl xpl)) from by rw [zRk9 e9]; first | exact (zB_t (by omega)).symm | exact (zB_f (by omega)).symm)), by rw [ht]; exact hP9, hD9⟩, hS.F ht⟩) hS.2.2 dX6_readsNumber_124
              · refine zr_bipush hx hb dX6_readsNumber_106 (by decide) ?_
                refine lv_goto (tgt := 113) hx hb dX6_readsNumber_108 (by decide) ?_
                refine zc_i (va_runV (As := [.int (zI 59)]) (rest := []) ⟨hx, hb, hml, hown, hts⟩ (met_X6_passes l D cs o H.size A S T xsm xth xam f xtl ((xpl + zMin f xtl xpl) + xj) (zU g xk (-xz)) 59 (by first | assumption | omega) (by first | assumption | omega) (by first | assumption | omega) (by first | decide | omega)) (cwV 1 hts gX6_readsNumber_X6_passes rfl rfl rfl (by decide +kernel) ⟨Nat.le_of_ble_eq_true rfl, Nat.le_of_ble_eq_true rfl⟩) ⟨zPreZ.blind, va_recv hK hP (ci := 6) (q0 := 0) rfl rfl, fun U hU hW => zp_Z hP hK hD hN hU hW⟩ rfl rfl hl.1 rfl (lv_room (Nat.le_of_ble_eq_true rfl)) dX6_readsNumber_113 ⟨Nat.le_of_ble_eq_true rfl, Nat.le_of_ble_eq_true rfl⟩) hS hD hA (fun H locs hP hD hS => ?_)
                refine zr_ifb_eq (tgt := 123) hx hb dX6_readsNumber_116 (by decide) (fun c24 => ?_) (fun c24 => ?_)
                · refine zr_iconst hx hb dX6_readsNumber_123 ?_
                  have e9 : zFE f xtl (xpl + zMin f xtl xpl) = (xpl + zMin f xtl xpl) + xj := zFE_eq jj jf (fun _ => by first | assumption | omega)
                  have e8 : zNm f (xpl + zMin f xtl xpl) (zFE f xtl (xpl + zMin f xtl xpl) - (xpl + zMin f xtl xpl)).toNat = xz := by rw [e9, jz]; exact congrArg (fun k : Int => zNm f (xpl + zMin f xtl xpl) k.toNat) (by omega)
                  have e7 : zFE f xtl (xpl + zMin f xtl xpl) + zB (zRok f xtl xk (xpl + zMin f xtl xpl)) = ((xpl + zMin f xtl xpl) + xj) + zB (((xpl + zMin f xtl xpl) + xj) < xtl ∧ f ((xpl + zMin f xtl xpl) + xj) = 59) := by first | (rw [zRk9 e9, e9, zB_f (by omega), Int.add_zero]; done) | (rw [zRk9 e9, e9]; congr 1; exact zB_congr (by omega))
                  have e6 : zSg (zMin f xtl xpl) xz = (-xz) := by first | exact if_pos (by omega) | exact if_neg (by omega)
                  have hP8 : va_P D vwCl (zmod cs o A S T xsm xth xam f xtl (zFE f xtl (xpl + zMin f xtl xpl) + zB (zRok f xtl xk (xpl + zMin f xtl xpl))) (zU g xk (zSg (zMin f xtl xpl) (zNm f (xpl + zMin f xtl xpl) (zFE f xtl (xpl + zMin f xtl xpl) - (xpl + zMin f xtl xpl)).toNat)))) H := by rw [e8, e7, e6]; exact hP
                  have hP9 : va_P D vwCl (zmod cs o A S T xsm xth xam f xtl (zFE f xtl (xpl + zMin f xtl xpl) + zB (zRok f xtl xk (xpl + zMin f xtl xpl))) (zU g xk (zSg (zMin f xtl xpl) (zNm f (xpl + zMin f xtl xpl) (zFE f xtl (xpl + zMin f xtl xpl) - (xpl + zMin f xtl xpl)).toNat)))) H := hP8
                  have hD9 : va_D A0 (zmod cs o A S T xsm xth xam f xtl (zFE f xtl (xpl + zMin f xtl xpl) + zB (zRok f xtl xk (xpl + zMin f xtl xpl))) (zU g xk (zSg (zMin f xtl xpl) (zNm f (xpl + zMin f xtl xpl) (zFE f xtl (xpl + zMin f xtl xpl) - (xpl + zMin f xtl xpl)).toNat)))) := zD_addr hD rfl
                  subst hAe
                  exact W.zret hx hb hr (zbool_n (by first | decide | exact zB_r _)) (fun t ht hW => ⟨⟨_, (), rfl, (congrArg zI (show 0 = zB (zRok f xtl xk (xpl + zMin f xtl xpl)) from by rw [zRk9 e9]; first | exact (zB_t (by omega)).symm | exact (zB_f (by omega)).symm)), by rw [ht]; exact hP9, hD9⟩, hS.F ht⟩) hS.2.2 dX6_readsNumber_124
                · refine zr_iconst hx hb dX6_readsNumber_119 ?_
                  refine lv_goto (tgt := 124) hx hb dX6_readsNumber_120 (by decide) ?_
                  have e9 : zFE f xtl (xpl + zMin f xtl xpl) = (xpl + zMin f xtl xpl) + xj := zFE_eq jj jf (fun _ => by first | assumption | omega)
                  have e8 : zNm f (xpl + zMin f xtl xpl) (zFE f xtl (xpl + zMin f xtl xpl) - (xpl + zMin f xtl xpl)).toNat = xz := by rw [e9, jz]; exact congrArg (fun k : Int => zNm f (xpl + zMin f xtl xpl) k.toNat) (by omega)
                  have e7 : zFE f xtl (xpl + zMin f xtl xpl) + zB (zRok f xtl xk (xpl + zMin f xtl xpl)) = ((xpl + zMin f xtl xpl) + xj) + zB (((xpl + zMin f xtl xpl) + xj) < xtl ∧ f ((xpl + zMin f xtl xpl) + xj) = 59) := by first | (rw [zRk9 e9, e9, zB_f (by omega), Int.add_zero]; done) | (rw [zRk9 e9, e9]; congr 1; exact zB_congr (by omega))
                  have e6 : zSg (zMin f xtl xpl) xz = (-xz) := by first | exact if_pos (by omega) | exact if_neg (by omega)
                  have hP8 : va_P D vwCl (zmod cs o A S T xsm xth xam f xtl (zFE f xtl (xpl + zMin f xtl xpl) + zB (zRok f xtl xk (xpl + zMin f xtl xpl))) (zU g xk (zSg (zMin f xtl xpl) (zNm f (xpl + zMin f xtl xpl) (zFE f xtl (xpl + zMin f xtl xpl) - (xpl + zMin f xtl xpl)).toNat)))) H := by rw [e8, e7, e6]; exact hP
                  have hP9 : va_P D vwCl (zmod cs o A S T xsm xth xam f xtl (zFE f xtl (xpl + zMin f xtl xpl) + zB (zRok f xtl xk (xpl + zMin f xtl xpl))) (zU g xk (zSg (zMin f xtl xpl) (zNm f (xpl + zMin f xtl xpl) (zFE f xtl (xpl + zMin f xtl xpl) - (xpl + zMin f xtl xpl)).toNat)))) H := hP8
                  have hD9 : va_D A0 (zmod cs o A S T xsm xth xam f xtl (zFE f xtl (xpl + zMin f xtl xpl) + zB (zRok f xtl xk (xpl + zMin f xtl xpl))) (zU g xk (zSg (zMin f xtl xpl) (zNm f (xpl + zMin f xtl xpl) (zFE f xtl (xpl + zMin f xtl xpl) - (xpl + zMin f xtl xpl)).toNat)))) := zD_addr hD rfl
                  subst hAe
                  exact W.zret hx hb hr (zbool_n (by first | decide | exact zB_r _)) (fun t ht hW => ⟨⟨_, (), rfl, (congrArg zI (show 1 = zB (zRok f xtl xk (xpl + zMin f xtl xpl)) from by rw [zRk9 e9]; first | exact (zB_t (by omega)).symm | exact (zB_f (by omega)).symm)), by rw [ht]; exact hP9, hD9⟩, hS.F ht⟩) hS.2.2 dX6_readsNumber_124
      · refine zr_bipush hx hb dX6_readsNumber_32 (by decide) ?_
        refine lv_iload hx hb dX6_readsNumber_34 (lv_at hl 2 rfl) ?_
        refine zr_imul hx hb dX6_readsNumber_36 ?_
        refine lv_aload_n hx hb dX6_readsNumber_37 rfl (lv_at hl 3 rfl) ?_
        refine va_get (D := D) (ci := 6) (v := .ref (o 4)) (C := RX6) (T := TX6) (N := 10) hx hb hts hiX6 hown hK hP 0 rfl rfl 6 (by decide) (hts (.fieldLink RX6 19 "ChargeEstimatorModel" "text" "[I") (List.mem_of_getElem? (i := 2) rfl)) (fun _ h9 => h9) rfl dX6_readsNumber_38 ?_
        refine lv_aload_n hx hb dX6_readsNumber_41 rfl (lv_at hl 3 rfl) ?_
        refine va_get (D := D) (ci := 6) (v := .int (zI ((xpl + zMin f xtl xpl) + xj))) (C := RX6) (T := TX6) (N := 10) hx hb hts hiX6 hown hK hP 0 rfl rfl 8 (by decide) (hts (.fieldLink RX6 240 "ChargeEstimatorModel" "place" "I") (List.mem_of_getElem? (i := 1) rfl)) (fun _ h9 => h9) rfl dX6_readsNumber_42 ?_
        refine zr_iald (D := D) (g := f) hx hb hK hP 4 0 rfl rfl (by decide) (by omega) dX6_readsNumber_45 ?_
        refine zr_iadd hx hb dX6_readsNumber_46 ?_
        refine zr_bipush hx hb dX6_readsNumber_47 (by decide) ?_
        refine zr_isub hx hb dX6_readsNumber_49 ?_
        refine lv_istore (lv' := [(4, .int (zI (((10 * xz) + (f ((xpl + zMin f xtl xpl) + xj))) - 48))), (2, .int (zI (zMin f xtl xpl))), (3, .int (zI (xpl + zMin f xtl xpl))), (0, .ref (o 0)), (1, .int (zI xk))]) hx hb dX6_readsNumber_50 hl (by decide) rfl (fun ls hl => ?_)
        refine lv_aload_n hx hb dX6_readsNumber_52 rfl (lv_at hl 3 rfl) ?_
        refine lv_dup hx hb dX6_readsNumber_53 rfl ?_
        refine va_get (D := D) (ci := 6) (v := .int (zI ((xpl + zMin f xtl xpl) + xj))) (C := RX6) (T := TX6) (N := 10) hx hb hts hiX6 hown hK hP 0 rfl rfl 8 (by decide) (hts (.fieldLink RX6 240 "ChargeEstimatorModel" "place" "I") (List.mem_of_getElem? (i := 1) rfl)) (fun _ h9 => h9) rfl dX6_readsNumber_54 ?_
        refine zr_iconst hx hb dX6_readsNumber_57 ?_
        refine zr_iadd hx hb dX6_readsNumber_58 ?_
        refine va_put (D := D) (ci := 6) (v := .int (zI (((xpl + zMin f xtl xpl) + xj) + 1))) (ty := .int) (C := RX6) (T := TX6) (N := 10) hx hb hts hiX6 tyX6 tyX6_ok nmX6 hown hK hP hD hS 0 rfl rfl 8 (by decide) (hts (.fieldLink RX6 240 "ChargeEstimatorModel" "place" "I") (List.mem_of_getElem? (i := 1) rfl)) (fun _ h9 => h9) rfl (by decide +kernel) rfl rfl (Nat.le_of_ble_eq_true rfl) dX6_readsNumber_59 (fun H locs hP hD hS => ?_)
        have hP : va_P D vwCl (zmod cs o A S T xsm xth xam f xtl (((xpl + zMin f xtl xpl) + xj) + 1) g) H := hP
        have hD : va_D A0 (zmod cs o A S T xsm xth xam f xtl (((xpl + zMin f xtl xpl) + xj) + 1) g) := zD_addr hD rfl
        refine lv_goto (tgt := 15) hx hb dX6_readsNumber_62 (by decide) ?_
        exact ih (xj + 1) (((10 * xz) + (f ((xpl + zMin f xtl xpl) + xj))) - 48) (by first | rfl | (rw [zNm_s _ _ jj.1, ← jz]; done) | (rw [zNm_s _ _ jj.1, ← jz]; omega)) (by omega) (by first | (intro k a b; omega) | (intro k a b; rcases Int.lt_or_le k ((xpl + zMin f xtl xpl) + xj) with q9 | q9; (exact jf k a q9); (rw [show k = (xpl + zMin f xtl xpl) + xj by omega]; assumption))) (by omega) _ _ (by rw [← Int.add_assoc]; exact hP) (zD_addr hD rfl) hS _ (lv_sub hl [1, 2, 0, 3, 4] rfl)
