/-! anchors, and the whole measurement -/
def zLogG (A : Int → Int) (k s t c : Int) : Int → Int :=
  zU (zU (zU (zU (zU (zLogS A) (53 + 4 * zLogS A 52) k) (53 + (4 * zLogS A 52 + 1)) s) (53 + (4 * zLogS A 52 + 2)) t) (53 + (4 * zLogS A 52 + 3)) c) 52 (zLogS A 52 + 1)
theorem zLogG_e (A : Int → Int) (k s : Int) : zLogG A k s (A 42) (A 37) = zLog A k s := by
  unfold zLogG zLog
  rw [Int.add_assoc 53 _ 1, Int.add_assoc 53 _ 2, Int.add_assoc 53 _ 3]
theorem zLogS_t {A : Int → Int} (h : A 52 = 40) : zLogS A = zU (zC A A 57 53 156) 52 39 := by unfold zLogS; rw [if_pos h]
theorem zLogS_f {A : Int → Int} (h : A 52 ≠ 40) : zLogS A = A := by unfold zLogS; rw [if_neg h]
theorem zBnd_t {A : Int → Int} {s0 s1 : Int} (h : A 37 * s1 / 10000 < A 35 ∨ A 36 < A 37 * s0 / 10000) : zBnd A s0 s1 = zU (zU (zU A 50 (A 50 + 1)) 35 (A 37 * s0 / 10000)) 36 (A 37 * s1 / 10000) := by unfold zBnd; rw [if_pos h]
theorem zBnd_f {A : Int → Int} {s0 s1 : Int} (h : ¬ (A 37 * s1 / 10000 < A 35 ∨ A 36 < A 37 * s0 / 10000)) : zBnd A s0 s1 = zU (zU A 35 (max (A 35) (A 37 * s0 / 10000))) 36 (min (A 36) (A 37 * s1 / 10000)) := by unfold zBnd; rw [if_neg h]
set_option maxHeartbeats 4000000 in
set_option maxRecDepth 100000 in
theorem met_X0_add (l : Launch) (D : va_G) (cs : Nat → ClassId) (q : Nat → Nat) (sz : Nat) (A : Int → Int) (xk xs xt xc : Int) (kmany : 0 ≤ A 52 ∧ A 52 ≤ 40) : Met l yX0_add wsX0_add ({ frames := 1, cells := 0, slots := 0, locals := 18 }) (va_Pc [.ref (q 5), .int (zI xk), .int (zI xs), .int (zI xt), .int (zI xc)] (zPreZ D (zTy cs) (zbat cs q A) sz)) (zQv D (zbat cs q A) sz (zbat cs q (zLogG A xk xs xt xc))) 0 0 (va_A (zbat cs q A) sz) := by
  refine Met.ofW (cc := cX0_add) (maxL := 6) (ret := none) (by decide) rfl ?_
  intro p e s m args below meth c s₁ B hml hv
  obtain ⟨rfl, hsz, hP, hK, hD0, hN⟩ := hv
  have hx := B.exec
  have hb := B.bytes
  have hr := B.returns
  have hts := atoms_spec (ws := wsX0_add) B.pre
  have hown : s.vm.findClass RX0 = some m.cls := findClass_of_methodNamed B.named
  have hlocks := B.notSynchronized
  subst hsz
  obtain ⟨A0, hAe⟩ : ∃ A0, A0 = va_A (zbat cs q A) s.heap.size := ⟨_, rfl⟩
  have hD := hD0.self (sz := s.heap.size)
  rw [← hAe] at hD
  have hA : ∀ q : Nat, s.heap.size ≤ q → A0 q := fun q h => by rw [hAe]; exact Or.inr h
  have hS : va_S A0 s.heap s.heap [] := va_S.rf
  have hP : va_P D vwCl (zbat cs q A) s.heap := hP
  have hl := lv_entry ([.ref (q 5), .int (zI xk), .int (zI xs), .int (zI xt), .int (zI xc)]) (n := 6) (Nat.le_of_ble_eq_true rfl)
  rw [lg_entry_eq]
  generalize (lg_sl ([.ref (q 5), .int (zI xk), .int (zI xs), .int (zI xt), .int (zI xc)]) ++ List.replicate (6 - (lg_sl ([.ref (q 5), .int (zI xk), .int (zI xs), .int (zI xt), .int (zI xc)])).length) Slot.unset).toArray = ls at hl ⊢
  have hl : lv_has ls 6 [(0, .ref (q 5)), (1, .int (zI xk)), (2, .int (zI xs)), (3, .int (zI xt)), (4, .int (zI xc))] := hl
  have hiX0 : ∀ w ∈ wsX00, w ∈ wsX0_add := by decide +kernel
  have hf : (zU (zC A A 57 53 156) 52 39) 52 = 39 := rfl
  refine lv_aload_n hx hb dX0_add_0 rfl (lv_at hl 0 rfl) ?_
  refine va_get (D := D) (ci := 0) (v := .int (zI (A 52))) (C := RX0) (T := TX0) (N := 2) hx hb hts hiX0 hown hK hP 5 rfl rfl 1 (by decide) (hts (.fieldLink RX0 15 "ChargeEstimator$AnchorLog" "size" "I") (List.mem_of_getElem? (i := 1) rfl)) (fun _ h9 => h9) rfl dX0_add_1 ?_
  refine zr_bipush hx hb dX0_add_4 (by decide) ?_
  refine zr_icmp_lt (tgt := 35) hx hb dX0_add_6 (by decide) (by omega) (by decide) (fun c1 => ?_) (fun c1 => ?_)
  · refine lv_aload_n hx hb dX0_add_35 rfl (lv_at hl 0 rfl) ?_
    refine va_get (D := D) (ci := 0) (v := .int (zI (A 52))) (C := RX0) (T := TX0) (N := 2) hx hb hts hiX0 hown hK hP 5 rfl rfl 1 (by decide) (hts (.fieldLink RX0 15 "ChargeEstimator$AnchorLog" "size" "I") (List.mem_of_getElem? (i := 1) rfl)) (fun _ h9 => h9) rfl dX0_add_36 ?_
    refine zr_iconst hx hb dX0_add_39 ?_
    refine zr_imul hx hb dX0_add_40 ?_
    refine zr_topi (b := 4 * (A 52)) (by omega) ?_
    refine lv_istore (lv' := [(5, .int (zI (4 * (A 52)))), (0, .ref (q 5)), (1, .int (zI xk)), (2, .int (zI xs)), (3, .int (zI xt)), (4, .int (zI xc))]) hx hb dX0_add_41 hl (by decide) rfl (fun ls hl => ?_)
    refine lv_aload_n hx hb dX0_add_43 rfl (lv_at hl 1 rfl) ?_
    refine va_get (D := D) (ci := 0) (v := .ref (q 6)) (C := RX0) (T := TX0) (N := 2) hx hb hts hiX0 hown hK hP 5 rfl rfl 0 (by decide) (hts (.fieldLink RX0 11 "ChargeEstimator$AnchorLog" "rows" "[I") (List.mem_of_getElem? (i := 2) rfl)) (fun _ h9 => h9) rfl dX0_add_44 ?_
    refine lv_iload hx hb dX0_add_47 (lv_at hl 0 rfl) ?_
    refine lv_iload_n hx hb dX0_add_49 rfl (lv_at hl 2 rfl) ?_
    refine zr_iast (D := D) (g := (zO A 53)) hx hb hK hP hD hS 6 0 rfl rfl (by decide) (by omega) dX0_add_50 (fun H locs hP hD hS => ?_)
    have hP : va_P D vwCl (zbat cs q (zU A (53 + (4 * (A 52))) xk)) H := zba_6 (by omega) hP
    have hD : va_D A0 (zbat cs q (zU A (53 + (4 * (A 52))) xk)) := zD_addr hD rfl
    refine lv_aload_n hx hb dX0_add_51 rfl (lv_at hl 1 rfl) ?_
    refine va_get (D := D) (ci := 0) (v := .ref (q 6)) (C := RX0) (T := TX0) (N := 2) hx hb hts hiX0 hown hK hP 5 rfl rfl 0 (by decide) (hts (.fieldLink RX0 11 "ChargeEstimator$AnchorLog" "rows" "[I") (List.mem_of_getElem? (i := 2) rfl)) (fun _ h9 => h9) rfl dX0_add_52 ?_
    refine lv_iload hx hb dX0_add_55 (lv_at hl 0 rfl) ?_
    refine zr_iconst hx hb dX0_add_57 ?_
    refine zr_iadd hx hb dX0_add_58 ?_
    refine lv_iload_n hx hb dX0_add_59 rfl (lv_at hl 3 rfl) ?_
    refine zr_iast (D := D) (g := (zO (zU A (53 + (4 * (A 52))) xk) 53)) hx hb hK hP hD hS 6 0 rfl rfl (by decide) (by omega) dX0_add_60 (fun H locs hP hD hS => ?_)
    have hP : va_P D vwCl (zbat cs q (zU (zU A (53 + (4 * (A 52))) xk) (53 + ((4 * (A 52)) + 1)) xs)) H := zba_6 (by omega) hP
    have hD : va_D A0 (zbat cs q (zU (zU A (53 + (4 * (A 52))) xk) (53 + ((4 * (A 52)) + 1)) xs)) := zD_addr hD rfl
    refine lv_aload_n hx hb dX0_add_61 rfl (lv_at hl 1 rfl) ?_
    refine va_get (D := D) (ci := 0) (v := .ref (q 6)) (C := RX0) (T := TX0) (N := 2) hx hb hts hiX0 hown hK hP 5 rfl rfl 0 (by decide) (hts (.fieldLink RX0 11 "ChargeEstimator$AnchorLog" "rows" "[I") (List.mem_of_getElem? (i := 2) rfl)) (fun _ h9 => h9) rfl dX0_add_62 ?_
    refine lv_iload hx hb dX0_add_65 (lv_at hl 0 rfl) ?_
    refine zr_iconst hx hb dX0_add_67 ?_
    refine zr_iadd hx hb dX0_add_68 ?_
    refine lv_iload_n hx hb dX0_add_69 rfl (lv_at hl 4 rfl) ?_
    refine zr_iast (D := D) (g := (zO (zU (zU A (53 + (4 * (A 52))) xk) (53 + ((4 * (A 52)) + 1)) xs) 53)) hx hb hK hP hD hS 6 0 rfl rfl (by decide) (by omega) dX0_add_70 (fun H locs hP hD hS => ?_)
    have hP : va_P D vwCl (zbat cs q (zU (zU (zU A (53 + (4 * (A 52))) xk) (53 + ((4 * (A 52)) + 1)) xs) (53 + ((4 * (A 52)) + 2)) xt)) H := zba_6 (by omega) hP
    have hD : va_D A0 (zbat cs q (zU (zU (zU A (53 + (4 * (A 52))) xk) (53 + ((4 * (A 52)) + 1)) xs) (53 + ((4 * (A 52)) + 2)) xt)) := zD_addr hD rfl
    refine lv_aload_n hx hb dX0_add_71 rfl (lv_at hl 1 rfl) ?_
    refine va_get (D := D) (ci := 0) (v := .ref (q 6)) (C := RX0) (T := TX0) (N := 2) hx hb hts hiX0 hown hK hP 5 rfl rfl 0 (by decide) (hts (.fieldLink RX0 11 "ChargeEstimator$AnchorLog" "rows" "[I") (List.mem_of_getElem? (i := 2) rfl)) (fun _ h9 => h9) rfl dX0_add_72 ?_
    refine lv_iload hx hb dX0_add_75 (lv_at hl 0 rfl) ?_
    refine zr_iconst hx hb dX0_add_77 ?_
    refine zr_iadd hx hb dX0_add_78 ?_
    refine lv_iload hx hb dX0_add_79 (lv_at hl 5 rfl) ?_
    refine zr_iast (D := D) (g := (zO (zU (zU (zU A (53 + (4 * (A 52))) xk) (53 + ((4 * (A 52)) + 1)) xs) (53 + ((4 * (A 52)) + 2)) xt) 53)) hx hb hK hP hD hS 6 0 rfl rfl (by decide) (by omega) dX0_add_81 (fun H locs hP hD hS => ?_)
    have hP : va_P D vwCl (zbat cs q (zU (zU (zU (zU A (53 + (4 * (A 52))) xk) (53 + ((4 * (A 52)) + 1)) xs) (53 + ((4 * (A 52)) + 2)) xt) (53 + ((4 * (A 52)) + 3)) xc)) H := zba_6 (by omega) hP
    have hD : va_D A0 (zbat cs q (zU (zU (zU (zU A (53 + (4 * (A 52))) xk) (53 + ((4 * (A 52)) + 1)) xs) (53 + ((4 * (A 52)) + 2)) xt) (53 + ((4 * (A 52)) + 3)) xc)) := zD_addr hD rfl
    refine lv_aload_n hx hb dX0_add_82 rfl (lv_at hl 1 rfl) ?_
    refine lv_dup hx hb dX0_add_83 rfl ?_
    refine va_get (D := D) (ci := 0) (v := .int (zI ((zU (zU (zU (zU A (53 + (4 * (A 52))) xk) (53 + ((4 * (A 52)) + 1)) xs) (53 + ((4 * (A 52)) + 2)) xt) (53 + ((4 * (A 52)) + 3)) xc) 52))) (C := RX0) (T := TX0) (N := 2) hx hb hts hiX0 hown hK hP 5 rfl rfl 1 (by decide) (hts (.fieldLink RX0 15 "ChargeEstimator$AnchorLog" "size" "I") (List.mem_of_getElem? (i := 1) rfl)) (fun _ h9 => h9) rfl dX0_add_84 ?_
    refine zr_topi (b := A 52) (by rw [zU_ne _ _ (by omega), zU_ne _ _ (by omega), zU_ne _ _ (by omega), zU_ne _ _ (by omega)]; first | done | rfl) ?_
    refine zr_iconst hx hb dX0_add_87 ?_
    refine zr_iadd hx hb dX0_add_88 ?_
    refine va_put (D := D) (ci := 0) (v := .int (zI ((A 52) + 1))) (ty := .int) (C := RX0) (T := TX0) (N := 2) hx hb hts hiX0 tyX0 tyX0_ok nmX0 hown hK hP hD hS 5 rfl rfl 1 (by decide) (hts (.fieldLink RX0 15 "ChargeEstimator$AnchorLog" "size" "I") (List.mem_of_getElem? (i := 1) rfl)) (fun _ h9 => h9) rfl (by decide +kernel) rfl rfl (Nat.le_of_ble_eq_true rfl) dX0_add_89 (fun H locs hP hD hS => ?_)
    have hP : va_P D vwCl (zbat cs q (zU (zU (zU (zU (zU A (53 + (4 * (A 52))) xk) (53 + ((4 * (A 52)) + 1)) xs) (53 + ((4 * (A 52)) + 2)) xt) (53 + ((4 * (A 52)) + 3)) xc) 52 ((A 52) + 1))) H := zbp_52 hP
    have hD : va_D A0 (zbat cs q (zU (zU (zU (zU (zU A (53 + (4 * (A 52))) xk) (53 + ((4 * (A 52)) + 1)) xs) (53 + ((4 * (A 52)) + 2)) xt) (53 + ((4 * (A 52)) + 3)) xc) 52 ((A 52) + 1))) := zD_addr hD rfl
    have hP8 : va_P D vwCl (zbat cs q (zLogG A xk xs xt xc)) H := by unfold zLogG; first | (rw [zLogS_t (by omega)]; exact hP) | (rw [zLogS_f (by omega)]; exact hP)
    have hP9 : va_P D vwCl (zbat cs q (zLogG A xk xs xt xc)) H := hP8
    have hD9 : va_D A0 (zbat cs q (zLogG A xk xs xt xc)) := zD_addr hD rfl
    subst hAe
    exact W.vret hx hb hr (fun t ht hW => ⟨⟨(), rfl, trivial, by rw [ht]; exact hP9, hD9⟩, hS.F ht⟩) hS.2.2 dX0_add_92
  · refine lv_aload_n hx hb dX0_add_9 rfl (lv_at hl 0 rfl) ?_
    refine va_get (D := D) (ci := 0) (v := .ref (q 6)) (C := RX0) (T := TX0) (N := 2) hx hb hts hiX0 hown hK hP 5 rfl rfl 0 (by decide) (hts (.fieldLink RX0 11 "ChargeEstimator$AnchorLog" "rows" "[I") (List.mem_of_getElem? (i := 2) rfl)) (fun _ h9 => h9) rfl dX0_add_10 ?_
    refine zr_iconst hx hb dX0_add_13 ?_
    refine lv_aload_n hx hb dX0_add_14 rfl (lv_at hl 0 rfl) ?_
    refine va_get (D := D) (ci := 0) (v := .ref (q 6)) (C := RX0) (T := TX0) (N := 2) hx hb hts hiX0 hown hK hP 5 rfl rfl 0 (by decide) (hts (.fieldLink RX0 11 "ChargeEstimator$AnchorLog" "rows" "[I") (List.mem_of_getElem? (i := 2) rfl)) (fun _ h9 => h9) rfl dX0_add_15 ?_
    refine zr_iconst hx hb dX0_add_18 ?_
    refine lv_aload_n hx hb dX0_add_19 rfl (lv_at hl 0 rfl) ?_
    refine va_get (D := D) (ci := 0) (v := .ref (q 6)) (C := RX0) (T := TX0) (N := 2) hx hb hts hiX0 hown hK hP 5 rfl rfl 0 (by decide) (hts (.fieldLink RX0 11 "ChargeEstimator$AnchorLog" "rows" "[I") (List.mem_of_getElem? (i := 2) rfl)) (fun _ h9 => h9) rfl dX0_add_20 ?_
    refine va_alen (v := zI 160) hx hb hK hP 6 rfl (t0 := 0) rfl rfl dX0_add_23 ?_
    refine zr_iconst hx hb dX0_add_24 ?_
    refine zr_isub hx hb dX0_add_25 ?_
    refine zr_topi (b := 156) (by decide) ?_
    refine zr_topi (b := 156) (by omega) ?_
    refine zr_copy (D := D) (f := (zO A 53)) (g := (zO A 53)) hx hb (hml.trans hl.1.symm) hown (hts (.methodLink RX0 23 arraycopyName) (List.mem_of_getElem? (i := 3) rfl)) (hts (.native arraycopyName) (List.mem_of_getElem? (i := 4) rfl)) (hts (.static arraycopyName) (List.mem_of_getElem? (i := 5) rfl)) (hts (.initialized "java/lang/System") (List.mem_of_getElem? (i := 6) rfl)) hK hP hD hS 6 6 rfl rfl rfl rfl (by omega) (Nat.le_of_ble_eq_true rfl) (Nat.le_of_ble_eq_true rfl) dX0_add_26 (fun H locs hP hD hS => ?_)
    have hP : va_P D vwCl (zbat cs q (zC A A 57 53 156)) H := zbc_6 hP
    have hD : va_D A0 (zbat cs q (zC A A 57 53 156)) := zD_addr hD rfl
    refine lv_aload_n hx hb dX0_add_29 rfl (lv_at hl 0 rfl) ?_
    refine zr_bipush hx hb dX0_add_30 (by decide) ?_
    refine va_put (D := D) (ci := 0) (v := .int (zI 39)) (ty := .int) (C := RX0) (T := TX0) (N := 2) hx hb hts hiX0 tyX0 tyX0_ok nmX0 hown hK hP hD hS 5 rfl rfl 1 (by decide) (hts (.fieldLink RX0 15 "ChargeEstimator$AnchorLog" "size" "I") (List.mem_of_getElem? (i := 1) rfl)) (fun _ h9 => h9) rfl (by decide +kernel) rfl rfl (Nat.le_of_ble_eq_true rfl) dX0_add_32 (fun H locs hP hD hS => ?_)
    have hP : va_P D vwCl (zbat cs q (zU (zC A A 57 53 156) 52 39)) H := zbp_52 hP
    have hD : va_D A0 (zbat cs q (zU (zC A A 57 53 156) 52 39)) := zD_addr hD rfl
    refine lv_aload_n hx hb dX0_add_35 rfl (lv_at hl 0 rfl) ?_
    refine va_get (D := D) (ci := 0) (v := .int (zI 39)) (C := RX0) (T := TX0) (N := 2) hx hb hts hiX0 hown hK hP 5 rfl rfl 1 (by decide) (hts (.fieldLink RX0 15 "ChargeEstimator$AnchorLog" "size" "I") (List.mem_of_getElem? (i := 1) rfl)) (fun _ h9 => h9) rfl dX0_add_36 ?_
    refine zr_iconst hx hb dX0_add_39 ?_
    refine zr_imul hx hb dX0_add_40 ?_
    refine zr_topi (b := 156) (by decide) ?_
    refine zr_topi (b := 4 * 39) (by decide) ?_
    refine lv_istore (lv' := [(5, .int (zI (4 * 39))), (0, .ref (q 5)), (1, .int (zI xk)), (2, .int (zI xs)), (3, .int (zI xt)), (4, .int (zI xc))]) hx hb dX0_add_41 hl (by decide) rfl (fun ls hl => ?_)
    refine lv_aload_n hx hb dX0_add_43 rfl (lv_at hl 1 rfl) ?_
    refine va_get (D := D) (ci := 0) (v := .ref (q 6)) (C := RX0) (T := TX0) (N := 2) hx hb hts hiX0 hown hK hP 5 rfl rfl 0 (by decide) (hts (.fieldLink RX0 11 "ChargeEstimator$AnchorLog" "rows" "[I") (List.mem_of_getElem? (i := 2) rfl)) (fun _ h9 => h9) rfl dX0_add_44 ?_
    refine lv_iload hx hb dX0_add_47 (lv_at hl 0 rfl) ?_
    refine lv_iload_n hx hb dX0_add_49 rfl (lv_at hl 2 rfl) ?_
    refine zr_iast (D := D) (g := (zO (zU (zC A A 57 53 156) 52 39) 53)) hx hb hK hP hD hS 6 0 rfl rfl (by decide) (by omega) dX0_add_50 (fun H locs hP hD hS => ?_)
    have hP : va_P D vwCl (zbat cs q (zU (zU (zC A A 57 53 156) 52 39) (53 + (4 * 39)) xk)) H := zba_6 (by omega) hP
    have hD : va_D A0 (zbat cs q (zU (zU (zC A A 57 53 156) 52 39) (53 + (4 * 39)) xk)) := zD_addr hD rfl
    refine lv_aload_n hx hb dX0_add_51 rfl (lv_at hl 1 rfl) ?_
    refine va_get (D := D) (ci := 0) (v := .ref (q 6)) (C := RX0) (T := TX0) (N := 2) hx hb hts hiX0 hown hK hP 5 rfl rfl 0 (by decide) (hts (.fieldLink RX0 11 "ChargeEstimator$AnchorLog" "rows" "[I") (List.mem_of_getElem? (i := 2) rfl)) (fun _ h9 => h9) rfl dX0_add_52 ?_
    refine lv_iload hx hb dX0_add_55 (lv_at hl 0 rfl) ?_
    refine zr_iconst hx hb dX0_add_57 ?_
    refine zr_iadd hx hb dX0_add_58 ?_
    refine lv_iload_n hx hb dX0_add_59 rfl (lv_at hl 3 rfl) ?_
    refine zr_iast (D := D) (g := (zO (zU (zU (zC A A 57 53 156) 52 39) (53 + (4 * 39)) xk) 53)) hx hb hK hP hD hS 6 0 rfl rfl (by decide) (by omega) dX0_add_60 (fun H locs hP hD hS => ?_)
    have hP : va_P D vwCl (zbat cs q (zU (zU (zU (zC A A 57 53 156) 52 39) (53 + (4 * 39)) xk) (53 + ((4 * 39) + 1)) xs)) H := zba_6 (by omega) hP
    have hD : va_D A0 (zbat cs q (zU (zU (zU (zC A A 57 53 156) 52 39) (53 + (4 * 39)) xk) (53 + ((4 * 39) + 1)) xs)) := zD_addr hD rfl
    refine lv_aload_n hx hb dX0_add_61 rfl (lv_at hl 1 rfl) ?_
    refine va_get (D := D) (ci := 0) (v := .ref (q 6)) (C := RX0) (T := TX0) (N := 2) hx hb hts hiX0 hown hK hP 5 rfl rfl 0 (by decide) (hts (.fieldLink RX0 11 "ChargeEstimator$AnchorLog" "rows" "[I") (List.mem_of_getElem? (i := 2) rfl)) (fun _ h9 => h9) rfl dX0_add_62 ?_
    refine lv_iload hx hb dX0_add_65 (lv_at hl 0 rfl) ?_
    refine zr_iconst hx hb dX0_add_67 ?_
    refine zr_iadd hx hb dX0_add_68 ?_
    refine lv_iload_n hx hb dX0_add_69 rfl (lv_at hl 4 rfl) ?_
    refine zr_iast (D := D) (g := (zO (zU (zU (zU (zC A A 57 53 156) 52 39) (53 + (4 * 39)) xk) (53 + ((4 * 39) + 1)) xs) 53)) hx hb hK hP hD hS 6 0 rfl rfl (by decide) (by omega) dX0_add_70 (fun H locs hP hD hS => ?_)
    have hP : va_P D vwCl (zbat cs q (zU (zU (zU (zU (zC A A 57 53 156) 52 39) (53 + (4 * 39)) xk) (53 + ((4 * 39) + 1)) xs) (53 + ((4 * 39) + 2)) xt)) H := zba_6 (by omega) hP
    have hD : va_D A0 (zbat cs q (zU (zU (zU (zU (zC A A 57 53 156) 52 39) (53 + (4 * 39)) xk) (53 + ((4 * 39) + 1)) xs) (53 + ((4 * 39) + 2)) xt)) := zD_addr hD rfl
    refine lv_aload_n hx hb dX0_add_71 rfl (lv_at hl 1 rfl) ?_
    refine va_get (D := D) (ci := 0) (v := .ref (q 6)) (C := RX0) (T := TX0) (N := 2) hx hb hts hiX0 hown hK hP 5 rfl rfl 0 (by decide) (hts (.fieldLink RX0 11 "ChargeEstimator$AnchorLog" "rows" "[I") (List.mem_of_getElem? (i := 2) rfl)) (fun _ h9 => h9) rfl dX0_add_72 ?_
    refine lv_iload hx hb dX0_add_75 (lv_at hl 0 rfl) ?_
    refine zr_iconst hx hb dX0_add_77 ?_
    refine zr_iadd hx hb dX0_add_78 ?_
    refine lv_iload hx hb dX0_add_79 (lv_at hl 5 rfl) ?_
    refine zr_iast (D := D) (g := (zO (zU (zU (zU (zU (zC A A 57 53 156) 52 39) (53 + (4 * 39)) xk) (53 + ((4 * 39) + 1)) xs) (53 + ((4 * 39) + 2)) xt) 53)) hx hb hK hP hD hS 6 0 rfl rfl (by decide) (by omega) dX0_add_81 (fun H locs hP hD hS => ?_)
    have hP : va_P D vwCl (zbat cs q (zU (zU (zU (zU (zU (zC A A 57 53 156) 52 39) (53 + (4 * 39)) xk) (53 + ((4 * 39) + 1)) xs) (53 + ((4 * 39) + 2)) xt) (53 + ((4 * 39) + 3)) xc)) H := zba_6 (by omega) hP
    have hD : va_D A0 (zbat cs q (zU (zU (zU (zU (zU (zC A A 57 53 156) 52 39) (53 + (4 * 39)) xk) (53 + ((4 * 39) + 1)) xs) (53 + ((4 * 39) + 2)) xt) (53 + ((4 * 39) + 3)) xc)) := zD_addr hD rfl
    refine lv_aload_n hx hb dX0_add_82 rfl (lv_at hl 1 rfl) ?_
    refine lv_dup hx hb dX0_add_83 rfl ?_
    refine va_get (D := D) (ci := 0) (v := .int (zI ((zU (zU (zU (zU (zU (zC A A 57 53 156) 52 39) (53 + (4 * 39)) xk) (53 + ((4 * 39) + 1)) xs) (53 + ((4 * 39) + 2)) xt) (53 + ((4 * 39) + 3)) xc) 52))) (C := RX0) (T := TX0) (N := 2) hx hb hts hiX0 hown hK hP 5 rfl rfl 1 (by decide) (hts (.fieldLink RX0 15 "ChargeEstimator$AnchorLog" "size" "I") (List.mem_of_getElem? (i := 1) rfl)) (fun _ h9 => h9) rfl dX0_add_84 ?_
    refine zr_topi (b := 39) (by rw [zU_ne _ _ (by omega), zU_ne _ _ (by omega), zU_ne _ _ (by omega), zU_ne _ _ (by omega)]; first | done | rfl) ?_
    refine zr_iconst hx hb dX0_add_87 ?_
    refine zr_iadd hx hb dX0_add_88 ?_
    refine zr_topi (b := 40) (by decide) ?_
    refine va_put (D := D) (ci := 0) (v := .int (zI 40)) (ty := .int) (C := RX0) (T := TX0) (N := 2) hx hb hts hiX0 tyX0 tyX0_ok nmX0 hown hK hP hD hS 5 rfl rfl 1 (by decide) (hts (.fieldLink RX0 15 "ChargeEstimator$AnchorLog" "size" "I") (List.mem_of_getElem? (i := 1) rfl)) (fun _ h9 => h9) rfl (by decide +kernel) rfl rfl (Nat.le_of_ble_eq_true rfl) dX0_add_89 (fun H locs hP hD hS => ?_)
    have hP : va_P D vwCl (zbat cs q (zU (zU (zU (zU (zU (zU (zC A A 57 53 156) 52 39) (53 + (4 * 39)) xk) (53 + ((4 * 39) + 1)) xs) (53 + ((4 * 39) + 2)) xt) (53 + ((4 * 39) + 3)) xc) 52 40)) H := zbp_52 hP
    have hD : va_D A0 (zbat cs q (zU (zU (zU (zU (zU (zU (zC A A 57 53 156) 52 39) (53 + (4 * 39)) xk) (53 + ((4 * 39) + 1)) xs) (53 + ((4 * 39) + 2)) xt) (53 + ((4 * 39) + 3)) xc) 52 40)) := zD_addr hD rfl
    have hP8 : va_P D vwCl (zbat cs q (zLogG A xk xs xt xc)) H := by unfold zLogG; first | (rw [zLogS_t (by omega)]; exact hP) | (rw [zLogS_f (by omega)]; exact hP)
    have hP9 : va_P D vwCl (zbat cs q (zLogG A xk xs xt xc)) H := hP8
    have hD9 : va_D A0 (zbat cs q (zLogG A xk xs xt xc)) := zD_addr hD rfl
    subst hAe
    exact W.vret hx hb hr (fun t ht hW => ⟨⟨(), rfl, trivial, by rw [ht]; exact hP9, hD9⟩, hS.F ht⟩) hS.2.2 dX0_add_92
set_option maxHeartbeats 4000000 in
set_option maxRecDepth 100000 in
theorem met_X0_empty (l : Launch) (D : va_G) (cs : Nat → ClassId) (q : Nat → Nat) (sz : Nat) (A : Int → Int)  : Met l yX0_empty wsX0_empty ({ frames := 0, cells := 0, slots := 0, locals := 0 }) (va_Pc [.ref (q 5)] (zPreZ D (zTy cs) (zbat cs q A) sz)) (zQv D (zbat cs q A) sz (zbat cs q (zU A 52 0))) 0 0 (va_A (zbat cs q A) sz) := by
  refine Met.ofW (cc := cX0_empty) (maxL := 1) (ret := none) (by decide) rfl ?_
  intro p e s m args below meth c s₁ B hml hv
  obtain ⟨rfl, hsz, hP, hK, hD0, hN⟩ := hv
  have hx := B.exec
  have hb := B.bytes
  have hr := B.returns
  have hts := atoms_spec (ws := wsX0_empty) B.pre
  have hown : s.vm.findClass RX0 = some m.cls := findClass_of_methodNamed B.named
  have hlocks := B.notSynchronized
  subst hsz
  obtain ⟨A0, hAe⟩ : ∃ A0, A0 = va_A (zbat cs q A) s.heap.size := ⟨_, rfl⟩
  have hD := hD0.self (sz := s.heap.size)
  rw [← hAe] at hD
  have hA : ∀ q : Nat, s.heap.size ≤ q → A0 q := fun q h => by rw [hAe]; exact Or.inr h
  have hS : va_S A0 s.heap s.heap [] := va_S.rf
  have hP : va_P D vwCl (zbat cs q A) s.heap := hP
  have hl := lv_entry ([.ref (q 5)]) (n := 1) (Nat.le_of_ble_eq_true rfl)
  rw [lg_entry_eq]
  generalize (lg_sl ([.ref (q 5)]) ++ List.replicate (1 - (lg_sl ([.ref (q 5)])).length) Slot.unset).toArray = ls at hl ⊢
  have hl : lv_has ls 1 [(0, .ref (q 5))] := hl
  have hiX0 : ∀ w ∈ wsX00, w ∈ wsX0_empty := by decide +kernel
  refine lv_aload_n hx hb dX0_empty_0 rfl (lv_at hl 0 rfl) ?_
  refine zr_iconst hx hb dX0_empty_1 ?_
  refine va_put (D := D) (ci := 0) (v := .int (zI 0)) (ty := .int) (C := RX0) (T := TX0) (N := 2) hx hb hts hiX0 tyX0 tyX0_ok nmX0 hown hK hP hD hS 5 rfl rfl 1 (by decide) (hts (.fieldLink RX0 15 "ChargeEstimator$AnchorLog" "size" "I") (List.mem_of_getElem? (i := 1) rfl)) (fun _ h9 => h9) rfl (by decide +kernel) rfl rfl (Nat.le_of_ble_eq_true rfl) dX0_empty_2 (fun H locs hP hD hS => ?_)
  have hP : va_P D vwCl (zbat cs q (zU A 52 0)) H := zbp_52 hP
  have hD : va_D A0 (zbat cs q (zU A 52 0)) := zD_addr hD rfl
  have hP9 : va_P D vwCl (zbat cs q (zU A 52 0)) H := hP
  have hD9 : va_D A0 (zbat cs q (zU A 52 0)) := zD_addr hD rfl
  subst hAe
  exact W.vret hx hb hr (fun t ht hW => ⟨⟨(), rfl, trivial, by rw [ht]; exact hP9, hD9⟩, hS.F ht⟩) hS.2.2 dX0_empty_5
set_option maxHeartbeats 4000000 in
set_option maxRecDepth 100000 in
theorem met_X1_addAnchor (l : Launch) (D : va_G) (cs : Nat → ClassId) (q : Nat → Nat) (sz : Nat) (n : Int) (A : Int → Int) (xk xs x0 x1 : Int) (hI : zOK n A) (hn : 0 ≤ n ∧ n ≤ 3100000) (kn9 : n ≤ 3099990) (kxk : 0 ≤ xk ∧ xk ≤ 2) (kxs : 0 ≤ xs ∧ xs ≤ 10000) (kx0 : 0 ≤ x0 ∧ x0 ≤ x1 ∧ x1 ≤ 10000) : Met l yX1_addAnchor wsX1_addAnchor ({ frames := 3, cells := 0, slots := 0, locals := 69 }) (va_Pc [.ref (q 0), .int (zI xk), .int (zI xs), .int (zI x0), .int (zI x1)] (zPreZ D (zTy cs) (zbat cs q A) sz)) (zQv D (zbat cs q A) sz (zbat cs q (zAnc A xk xs x0 x1))) 0 0 (va_A (zbat cs q A) sz) := by
  refine Met.ofW (cc := cX1_addAnchor) (maxL := 9) (ret := none) (by decide) rfl ?_
  intro p e s m args below meth c s₁ B hml hv
  obtain ⟨rfl, hsz, hP, hK, hD0, hN⟩ := hv
  have hx := B.exec
  have hb := B.bytes
  have hr := B.returns
  have hts := atoms_spec (ws := wsX1_addAnchor) B.pre
  have hown : s.vm.findClass RX1 = some m.cls := findClass_of_methodNamed B.named
  have hlocks := B.notSynchronized
  subst hsz
  obtain ⟨A0, hAe⟩ : ∃ A0, A0 = va_A (zbat cs q A) s.heap.size := ⟨_, rfl⟩
  have hD := hD0.self (sz := s.heap.size)
  rw [← hAe] at hD
  have hA : ∀ q : Nat, s.heap.size ≤ q → A0 q := fun q h => by rw [hAe]; exact Or.inr h
  have hS : va_S A0 s.heap s.heap [] := va_S.rf
  have hP : va_P D vwCl (zbat cs q A) s.heap := hP
  have hl := lv_entry ([.ref (q 0), .int (zI xk), .int (zI xs), .int (zI x0), .int (zI x1)]) (n := 9) (Nat.le_of_ble_eq_true rfl)
  rw [lg_entry_eq]
  generalize (lg_sl ([.ref (q 0), .int (zI xk), .int (zI xs), .int (zI x0), .int (zI x1)]) ++ List.replicate (9 - (lg_sl ([.ref (q 0), .int (zI xk), .int (zI xs), .int (zI x0), .int (zI x1)])).length) Slot.unset).toArray = ls at hl ⊢
  have hl : lv_has ls 9 [(0, .ref (q 0)), (1, .int (zI xk)), (2, .int (zI xs)), (3, .int (zI x0)), (4, .int (zI x1))] := hl
  have hiX1 : ∀ w ∈ wsX10, w ∈ wsX1_addAnchor := by decide +kernel
  have hB := zOK_lrn hI xs
  have hE := zOK_bnd hB kx0
  obtain ⟨qN, qC, qQ, qL, qH, q40, q41, q42, q43, q44, q45, q46, q47, q48, q49, q50, q51, q52, qhad, qlast, qrow⟩ := zOK_q hB
  have hC := zOK_C hB
  obtain ⟨eN, eC, eQ, eL, eH, e40, e41, e42, e43, e44, e45, e46, e47, e48, e49, e50, e51, e52, ehad, elast, erow⟩ := zOK_q hE
  have hCe := zOK_C hE
  have b0 := zscap (C := zLrn A xs 37) (s := x0) (by omega) (by omega)
  have b1 := zscap (C := zLrn A xs 37) (s := x1) (by omega) (by omega)
  refine lv_aload_n hx hb dX1_addAnchor_0 rfl (lv_at hl 0 rfl) ?_
  refine lv_iload_n hx hb dX1_addAnchor_1 rfl (lv_at hl 2 rfl) ?_
  refine zc_v (va_runV (As := [.int (zI xs)]) (rest := []) ⟨hx, hb, hml, hown, hts⟩ (met_X1_learnCapacity l D cs q s.heap.size _ A xs (by assumption) (by assumption) (by first | assumption | omega)) (cwV 1 hts gX1_addAnchor_X1_learnCapacity rfl rfl rfl (by decide +kernel) ⟨Nat.le_of_ble_eq_true rfl, Nat.le_of_ble_eq_true rfl⟩) ⟨zPreZ.blind, va_recv hK hP (ci := 1) (q0 := 0) rfl rfl, fun U hU hW => zp_Z hP hK hD hN hU hW⟩ rfl rfl hl.1 rfl (lv_room (Nat.le_of_ble_eq_true rfl)) dX1_addAnchor_2 ⟨Nat.le_of_ble_eq_true rfl, Nat.le_of_ble_eq_true rfl⟩) hS hD hA (fun H locs hP hD hS => ?_)
  refine lv_aload_n hx hb dX1_addAnchor_5 rfl (lv_at hl 0 rfl) ?_
  refine lv_iload_n hx hb dX1_addAnchor_6 rfl (lv_at hl 3 rfl) ?_
  refine zc_rl (va_runV (As := [.int (zI x0)]) (rest := []) ⟨hx, hb, hml, hown, hts⟩ (met_X1_chargeAt l D cs q _ (zLrn A xs) x0 (by exact hB) (by omega) (by first | assumption | omega)) (cwV 1 hts gX1_addAnchor_X1_chargeAt rfl rfl rfl (by decide +kernel) ⟨Nat.le_of_ble_eq_true rfl, Nat.le_of_ble_eq_true rfl⟩) ⟨zPre.blind, va_recv hK hP (ci := 1) (q0 := 0) rfl rfl, fun U hU hW => zp_R hP hK hD hN hU hW⟩ rfl rfl hl.1 rfl (lv_room (Nat.le_of_ble_eq_true rfl)) dX1_addAnchor_7 ⟨Nat.le_of_ble_eq_true rfl, Nat.le_of_ble_eq_true rfl⟩) ?_
  refine lv_lstore (lv' := [(5, .long (zL ((zLrn A xs) 37 * x0 / 10000))), (0, .ref (q 0)), (1, .int (zI xk)), (2, .int (zI xs)), (3, .int (zI x0)), (4, .int (zI x1))]) hx hb dX1_addAnchor_10 hl (by decide) rfl (fun ls hl => ?_)
  refine lv_aload_n hx hb dX1_addAnchor_12 rfl (lv_at hl 1 rfl) ?_
  refine lv_iload hx hb dX1_addAnchor_13 (lv_at hl 5 rfl) ?_
  refine zc_rl (va_runV (As := [.int (zI x1)]) (rest := []) ⟨hx, hb, hml, hown, hts⟩ (met_X1_chargeAt l D cs q _ (zLrn A xs) x1 (by exact hB) (by omega) (by first | assumption | omega)) (cwV 1 hts gX1_addAnchor_X1_chargeAt rfl rfl rfl (by decide +kernel) ⟨Nat.le_of_ble_eq_true rfl, Nat.le_of_ble_eq_true rfl⟩) ⟨zPre.blind, va_recv hK hP (ci := 1) (q0 := 0) rfl rfl, fun U hU hW => zp_R hP hK hD hN hU hW⟩ rfl rfl hl.1 rfl (lv_room (Nat.le_of_ble_eq_true rfl)) dX1_addAnchor_15 ⟨Nat.le_of_ble_eq_true rfl, Nat.le_of_ble_eq_true rfl⟩) ?_
  refine lv_lstore (lv' := [(7, .long (zL ((zLrn A xs) 37 * x1 / 10000))), (5, .long (zL ((zLrn A xs) 37 * x0 / 10000))), (0, .ref (q 0)), (1, .int (zI xk)), (2, .int (zI xs)), (3, .int (zI x0)), (4, .int (zI x1))]) hx hb dX1_addAnchor_18 hl (by decide) rfl (fun ls hl => ?_)
  refine lv_lload hx hb dX1_addAnchor_20 (lv_at hl 0 rfl) ?_
  refine lv_aload_n hx hb dX1_addAnchor_22 rfl (lv_at hl 2 rfl) ?_
  refine va_get (D := D) (ci := 1) (v := .long (zL ((zLrn A xs) 35))) (C := RX1) (T := TX1) (N := 18) hx hb hts hiX1 hown hK hP 0 rfl rfl 6 (by decide) (hts (.fieldLink RX1 56 "ChargeEstimator$Battery" "low" "J") (List.mem_of_getElem? (i := 1) rfl)) (fun _ h9 => h9) rfl dX1_addAnchor_23 ?_
  refine zr_lcmp_lt (tgt := 40) hx hb dX1_addAnchor_26 dX1_addAnchor_27 (by decide) (by omega) (by omega) (fun c1 => ?_) (fun c1 => ?_)
  · refine lv_aload_n hx hb dX1_addAnchor_40 rfl (lv_at hl 2 rfl) ?_
    refine lv_dup hx hb dX1_addAnchor_41 rfl ?_
    refine va_get (D := D) (ci := 1) (v := .int (zI ((zLrn A xs) 50))) (C := RX1) (T := TX1) (N := 18) hx hb hts hiX1 hown hK hP 0 rfl rfl 14 (by decide) (hts (.fieldLink RX1 81 "ChargeEstimator$Battery" "conflicts" "I") (List.mem_of_getElem? (i := 3) rfl)) (fun _ h9 => h9) rfl dX1_addAnchor_42 ?_
    refine zr_iconst hx hb dX1_addAnchor_45 ?_
    refine zr_iadd hx hb dX1_addAnchor_46 ?_
    refine va_put (D := D) (ci := 1) (v := .int (zI (((zLrn A xs) 50) + 1))) (ty := .int) (C := RX1) (T := TX1) (N := 18) hx hb hts hiX1 tyX1 tyX1_ok nmX1 hown hK hP hD hS 0 rfl rfl 14 (by decide) (hts (.fieldLink RX1 81 "ChargeEstimator$Battery" "conflicts" "I") (List.mem_of_getElem? (i := 3) rfl)) (fun _ h9 => h9) rfl (by decide +kernel) rfl rfl (Nat.le_of_ble_eq_true rfl) dX1_addAnchor_47 (fun H locs hP hD hS => ?_)
    have hP : va_P D vwCl (zbat cs q (zU (zLrn A xs) 50 (((zLrn A xs) 50) + 1))) H := zbp_50 hP
    have hD : va_D A0 (zbat cs q (zU (zLrn A xs) 50 (((zLrn A xs) 50) + 1))) := zD_addr hD rfl
    refine lv_aload_n hx hb dX1_addAnchor_50 rfl (lv_at hl 2 rfl) ?_
    refine lv_lload hx hb dX1_addAnchor_51 (lv_at hl 1 rfl) ?_
    refine va_put (D := D) (ci := 1) (v := .long (zL ((zLrn A xs) 37 * x0 / 10000))) (ty := .long) (C := RX1) (T := TX1) (N := 18) hx hb hts hiX1 tyX1 tyX1_ok nmX1 hown hK hP hD hS 0 rfl rfl 6 (by decide) (hts (.fieldLink RX1 56 "ChargeEstimator$Battery" "low" "J") (List.mem_of_getElem? (i := 1) rfl)) (fun _ h9 => h9) rfl (by decide +kernel) rfl rfl (Nat.le_of_ble_eq_true rfl) dX1_addAnchor_53 (fun H locs hP hD hS => ?_)
    have hP : va_P D vwCl (zbat cs q (zU (zU (zLrn A xs) 50 (((zLrn A xs) 50) + 1)) 35 ((zLrn A xs) 37 * x0 / 10000))) H := zbp_35 hP
    have hD : va_D A0 (zbat cs q (zU (zU (zLrn A xs) 50 (((zLrn A xs) 50) + 1)) 35 ((zLrn A xs) 37 * x0 / 10000))) := zD_addr hD rfl
    refine lv_aload_n hx hb dX1_addAnchor_56 rfl (lv_at hl 2 rfl) ?_
    refine lv_lload hx hb dX1_addAnchor_57 (lv_at hl 0 rfl) ?_
    refine va_put (D := D) (ci := 1) (v := .long (zL ((zLrn A xs) 37 * x1 / 10000))) (ty := .long) (C := RX1) (T := TX1) (N := 18) hx hb hts hiX1 tyX1 tyX1_ok nmX1 hown hK hP hD hS 0 rfl rfl 7 (by decide) (hts (.fieldLink RX1 59 "ChargeEstimator$Battery" "high" "J") (List.mem_of_getElem? (i := 2) rfl)) (fun _ h9 => h9) rfl (by decide +kernel) rfl rfl (Nat.le_of_ble_eq_true rfl) dX1_addAnchor_59 (fun H locs hP hD hS => ?_)
    have hP : va_P D vwCl (zbat cs q (zU (zU (zU (zLrn A xs) 50 (((zLrn A xs) 50) + 1)) 35 ((zLrn A xs) 37 * x0 / 10000)) 36 ((zLrn A xs) 37 * x1 / 10000))) H := zbp_36 hP
    have hD : va_D A0 (zbat cs q (zU (zU (zU (zLrn A xs) 50 (((zLrn A xs) 50) + 1)) 35 ((zLrn A xs) 37 * x0 / 10000)) 36 ((zLrn A xs) 37 * x1 / 10000))) := zD_addr hD rfl
    refine lv_goto (tgt := 91) hx hb dX1_addAnchor_62 (by decide) ?_
    have hP : va_P D vwCl (zbat cs q (zBnd (zLrn A xs) x0 x1)) H := by first | (rw [zBnd_t (by omega)]; exact hP) | (rw [zBnd_f (by omega)]; exact hP)
    have hD : va_D A0 (zbat cs q (zBnd (zLrn A xs) x0 x1)) := zD_addr hD rfl
    refine lv_aload_n hx hb dX1_addAnchor_91 rfl (lv_at hl 2 rfl) ?_
    refine lv_aload_n hx hb dX1_addAnchor_92 rfl (lv_at hl 2 rfl) ?_
    refine va_get (D := D) (ci := 1) (v := .long (zL ((zBnd (zLrn A xs) x0 x1) 34))) (C := RX1) (T := TX1) (N := 18) hx hb hts hiX1 hown hK hP 0 rfl rfl 5 (by decide) (hts (.fieldLink RX1 53 "ChargeEstimator$Battery" "estimate" "J") (List.mem_of_getElem? (i := 11) rfl)) (fun _ h9 => h9) rfl dX1_addAnchor_93 ?_
    refine lv_aload_n hx hb dX1_addAnchor_96 rfl (lv_at hl 2 rfl) ?_
    refine va_get (D := D) (ci := 1) (v := .long (zL ((zBnd (zLrn A xs) x0 x1) 35))) (C := RX1) (T := TX1) (N := 18) hx hb hts hiX1 hown hK hP 0 rfl rfl 6 (by decide) (hts (.fieldLink RX1 56 "ChargeEstimator$Battery" "low" "J") (List.mem_of_getElem? (i := 1) rfl)) (fun _ h9 => h9) rfl dX1_addAnchor_97 ?_
    refine lv_aload_n hx hb dX1_addAnchor_100 rfl (lv_at hl 2 rfl) ?_
    refine va_get (D := D) (ci := 1) (v := .long (zL ((zBnd (zLrn A xs) x0 x1) 36))) (C := RX1) (T := TX1) (N := 18) hx hb hts hiX1 hown hK hP 0 rfl rfl 7 (by decide) (hts (.fieldLink RX1 59 "ChargeEstimator$Battery" "high" "J") (List.mem_of_getElem? (i := 2) rfl)) (fun _ h9 => h9) rfl dX1_addAnchor_101 ?_
    refine zc_rl (va_runSN (As := [.long (zL ((zBnd (zLrn A xs) x0 x1) 34)), .long (zL ((zBnd (zLrn A xs) x0 x1) 35)), .long (zL ((zBnd (zLrn A xs) x0 x1) 36))]) (rest := [.ref (q 0)]) ⟨hx, hb, hml, hown, hts⟩ (met_X5_clamp l ((zBnd (zLrn A xs) x0 x1) 34) ((zBnd (zLrn A xs) x0 x1) 35) ((zBnd (zLrn A xs) x0 x1) 36) (by first | assumption | omega) (by first | assumption | omega) (by first | assumption | omega) (by first | assumption | omega)) ⟨va_cnB 3 hts gX1_addAnchor_X5_clamp_n141 rfl rfl rfl (zn_RX1_141 hN) (hts (.initialized RX5) (List.mem_of_getElem? (i := 64) rfl)) (by decide +kernel) ⟨Nat.le_of_ble_eq_true rfl, Nat.le_of_ble_eq_true rfl⟩, (hts (.static yX5_clamp) (List.mem_of_getElem? (i := 63) rfl)), trivial⟩ ⟨zTrue.blind, fun U hU hW => ⟨rfl, trivial⟩⟩ rfl rfl hl.1 rfl (lv_room (Nat.le_of_ble_eq_true rfl)) dX1_addAnchor_104 ⟨Nat.le_of_ble_eq_true rfl, Nat.le_of_ble_eq_true rfl⟩) ?_
    refine va_put (D := D) (ci := 1) (v := .long (zL (zclamp ((zBnd (zLrn A xs) x0 x1) 34) ((zBnd (zLrn A xs) x0 x1) 35) ((zBnd (zLrn A xs) x0 x1) 36)))) (ty := .long) (C := RX1) (T := TX1) (N := 18) hx hb hts hiX1 tyX1 tyX1_ok nmX1 hown hK hP hD hS 0 rfl rfl 5 (by decide) (hts (.fieldLink RX1 53 "ChargeEstimator$Battery" "estimate" "J") (List.mem_of_getElem? (i := 11) rfl)) (fun _ h9 => h9) rfl (by decide +kernel) rfl rfl (Nat.le_of_ble_eq_true rfl) dX1_addAnchor_107 (fun H locs hP hD hS => ?_)
    have hP : va_P D vwCl (zbat cs q (zU (zBnd (zLrn A xs) x0 x1) 34 (zclamp ((zBnd (zLrn A xs) x0 x1) 34) ((zBnd (zLrn A xs) x0 x1) 35) ((zBnd (zLrn A xs) x0 x1) 36)))) H := zbp_34 hP
    have hD : va_D A0 (zbat cs q (zU (zBnd (zLrn A xs) x0 x1) 34 (zclamp ((zBnd (zLrn A xs) x0 x1) 34) ((zBnd (zLrn A xs) x0 x1) 35) ((zBnd (zLrn A xs) x0 x1) 36)))) := zD_addr hD rfl
    refine lv_aload_n hx hb dX1_addAnchor_110 rfl (lv_at hl 2 rfl) ?_
    refine zr_lconst0 hx hb dX1_addAnchor_111 ?_
    refine va_put (D := D) (ci := 1) (v := .long (zL 0)) (ty := .long) (C := RX1) (T := TX1) (N := 18) hx hb hts hiX1 tyX1 tyX1_ok nmX1 hown hK hP hD hS 0 rfl rfl 10 (by decide) (hts (.fieldLink RX1 68 "ChargeEstimator$Battery" "counted" "J") (List.mem_of_getElem? (i := 12) rfl)) (fun _ h9 => h9) rfl (by decide +kernel) rfl rfl (Nat.le_of_ble_eq_true rfl) dX1_addAnchor_112 (fun H locs hP hD hS => ?_)
    have hP : va_P D vwCl (zbat cs q (zU (zU (zBnd (zLrn A xs) x0 x1) 34 (zclamp ((zBnd (zLrn A xs) x0 x1) 34) ((zBnd (zLrn A xs) x0 x1) 35) ((zBnd (zLrn A xs) x0 x1) 36))) 40 0)) H := zbp_40 hP
    have hD : va_D A0 (zbat cs q (zU (zU (zBnd (zLrn A xs) x0 x1) 34 (zclamp ((zBnd (zLrn A xs) x0 x1) 34) ((zBnd (zLrn A xs) x0 x1) 35) ((zBnd (zLrn A xs) x0 x1) 36))) 40 0)) := zD_addr hD rfl
    have hP : va_P D vwCl (zbat cs q (zQcl (zBnd (zLrn A xs) x0 x1) xs)) H := zb_ext (fun k _ _ _ _ h48 h49 => ((zU_ne _ _ h49).trans (zU_ne _ _ h48)).symm) rfl hP
    have hD : va_D A0 (zbat cs q (zQcl (zBnd (zLrn A xs) x0 x1) xs)) := zD_addr hD rfl
    refine lv_aload_n hx hb dX1_addAnchor_115 rfl (lv_at hl 2 rfl) ?_
    refine va_get (D := D) (ci := 1) (v := .ref (q 5)) (C := RX1) (T := TX1) (N := 18) hx hb hts hiX1 hown hK hP 0 rfl rfl 2 (by decide) (hts (.fieldLink RX1 25 "ChargeEstimator$Battery" "log" "LChargeEstimator$AnchorLog;") (List.mem_of_getElem? (i := 13) rfl)) (fun _ h9 => h9) rfl dX1_addAnchor_116 ?_
    refine lv_iload_n hx hb dX1_addAnchor_119 rfl (lv_at hl 3 rfl) ?_
    refine lv_iload_n hx hb dX1_addAnchor_120 rfl (lv_at hl 4 rfl) ?_
    refine lv_aload_n hx hb dX1_addAnchor_121 rfl (lv_at hl 2 rfl) ?_
    refine va_get (D := D) (ci := 1) (v := .int (zI ((zQcl (zBnd (zLrn A xs) x0 x1) xs) 42))) (C := RX1) (T := TX1) (N := 18) hx hb hts hiX1 hown hK hP 0 rfl rfl 11 (by decide) (hts (.fieldLink RX1 71 "ChargeEstimator$Battery" "time" "I") (List.mem_of_getElem? (i := 14) rfl)) (fun _ h9 => h9) rfl dX1_addAnchor_122 ?_
    refine lv_aload_n hx hb dX1_addAnchor_125 rfl (lv_at hl 2 rfl) ?_
    refine va_get (D := D) (ci := 1) (v := .long (zL ((zQcl (zBnd (zLrn A xs) x0 x1) xs) 37))) (C := RX1) (T := TX1) (N := 18) hx hb hts hiX1 hown hK hP 0 rfl rfl 4 (by decide) (hts (.fieldLink RX1 48 "ChargeEstimator$Battery" "capacity" "J") (List.mem_of_getElem? (i := 15) rfl)) (fun _ h9 => h9) rfl dX1_addAnchor_126 ?_
    refine zr_l2i hx hb dX1_addAnchor_129 ?_
    refine zc_v (va_runV (As := [.int (zI xk), .int (zI xs), .int (zI ((zQcl (zBnd (zLrn A xs) x0 x1) xs) 42)), .int (zI ((zQcl (zBnd (zLrn A xs) x0 x1) xs) 37))]) (rest := []) ⟨hx, hb, hml, hown, hts⟩ (met_X0_add l D cs q H.size (zQcl (zBnd (zLrn A xs) x0 x1) xs) xk xs ((zQcl (zBnd (zLrn A xs) x0 x1) xs) 42) ((zQcl (zBnd (zLrn A xs) x0 x1) xs) 37) (by first | assumption | omega)) (cwV 4 hts gX1_addAnchor_X0_add rfl rfl rfl (by decide +kernel) ⟨Nat.le_of_ble_eq_true rfl, Nat.le_of_ble_eq_true rfl⟩) ⟨zPreZ.blind, va_recv hK hP (ci := 0) (q0 := 5) rfl rfl, fun U hU hW => zp_Z hP hK hD hN hU hW⟩ rfl rfl hl.1 rfl (lv_room (Nat.le_of_ble_eq_true rfl)) dX1_addAnchor_130 ⟨Nat.le_of_ble_eq_true rfl, Nat.le_of_ble_eq_true rfl⟩) hS hD hA (fun H locs hP hD hS => ?_)
    have hP8 : va_P D vwCl (zbat cs q (zAnc A xk xs x0 x1)) H := by unfold zAnc; rw [← zLogG_e]; exact hP
    have hP9 : va_P D vwCl (zbat cs q (zAnc A xk xs x0 x1)) H := hP8
    have hD9 : va_D A0 (zbat cs q (zAnc A xk xs x0 x1)) := zD_addr hD rfl
    subst hAe
    exact W.vret hx hb hr (fun t ht hW => ⟨⟨(), rfl, trivial, by rw [ht]; exact hP9, hD9⟩, hS.F ht⟩) hS.2.2 dX1_addAnchor_133
  · refine lv_lload hx hb dX1_addAnchor_30 (lv_at hl 1 rfl) ?_
    refine lv_aload_n hx hb dX1_addAnchor_32 rfl (lv_at hl 2 rfl) ?_
    refine va_get (D := D) (ci := 1) (v := .long (zL ((zLrn A xs) 36))) (C := RX1) (T := TX1) (N := 18) hx hb hts hiX1 hown hK hP 0 rfl rfl 7 (by decide) (hts (.fieldLink RX1 59 "ChargeEstimator$Battery" "high" "J") (List.mem_of_getElem? (i := 2) rfl)) (fun _ h9 => h9) rfl dX1_addAnchor_33 ?_
    refine zr_lcmp_le (tgt := 65) hx hb dX1_addAnchor_36 dX1_addAnchor_37 (by decide) (by omega) (by omega) (fun c2 => ?_) (fun c2 => ?_)
    · refine lv_aload_n hx hb dX1_addAnchor_65 rfl (lv_at hl 2 rfl) ?_
      refine lv_aload_n hx hb dX1_addAnchor_66 rfl (lv_at hl 2 rfl) ?_
      refine va_get (D := D) (ci := 1) (v := .long (zL ((zLrn A xs) 35))) (C := RX1) (T := TX1) (N := 18) hx hb hts hiX1 hown hK hP 0 rfl rfl 6 (by decide) (hts (.fieldLink RX1 56 "ChargeEstimator$Battery" "low" "J") (List.mem_of_getElem? (i := 1) rfl)) (fun _ h9 => h9) rfl dX1_addAnchor_67 ?_
      refine lv_lload hx hb dX1_addAnchor_70 (lv_at hl 1 rfl) ?_
      refine zm_maxL hx hb (hml.trans hl.1.symm) hown (hts (.methodLink RX1 202 Lib.MathLoose.max_long.x) (List.mem_of_getElem? (i := 4) rfl)) (hts (.static Lib.MathLoose.max_long.x) (List.mem_of_getElem? (i := 5) rfl)) (hts (.initialized "java/lang/Math") (List.mem_of_getElem? (i := 6) rfl)) (hts (.code Lib.MathLoose.max_long.x Lib.MathLoose.max_long.code 4 (some .long)) (List.mem_of_getElem? (i := 7) rfl)) (Nat.le_of_ble_eq_true rfl) (Nat.le_of_ble_eq_true rfl) (Nat.le_of_ble_eq_true rfl) (Nat.le_of_ble_eq_true rfl) dX1_addAnchor_72 (by omega) (by omega) ?_
      refine va_put (D := D) (ci := 1) (v := .long (zL (max ((zLrn A xs) 35) ((zLrn A xs) 37 * x0 / 10000)))) (ty := .long) (C := RX1) (T := TX1) (N := 18) hx hb hts hiX1 tyX1 tyX1_ok nmX1 hown hK hP hD hS 0 rfl rfl 6 (by decide) (hts (.fieldLink RX1 56 "ChargeEstimator$Battery" "low" "J") (List.mem_of_getElem? (i := 1) rfl)) (fun _ h9 => h9) rfl (by decide +kernel) rfl rfl (Nat.le_of_ble_eq_true rfl) dX1_addAnchor_75 (fun H locs hP hD hS => ?_)
      have hP : va_P D vwCl (zbat cs q (zU (zLrn A xs) 35 (max ((zLrn A xs) 35) ((zLrn A xs) 37 * x0 / 10000)))) H := zbp_35 hP
      have hD : va_D A0 (zbat cs q (zU (zLrn A xs) 35 (max ((zLrn A xs) 35) ((zLrn A xs) 37 * x0 / 10000)))) := zD_addr hD rfl
      refine lv_aload_n hx hb dX1_addAnchor_78 rfl (lv_at hl 2 rfl) ?_
      refine lv_aload_n hx hb dX1_addAnchor_79 rfl (lv_at hl 2 rfl) ?_
      refine va_get (D := D) (ci := 1) (v := .long (zL ((zLrn A xs) 36))) (C := RX1) (T := TX1) (N := 18) hx hb hts hiX1 hown hK hP 0 rfl rfl 7 (by decide) (hts (.fieldLink RX1 59 "ChargeEstimator$Battery" "high" "J") (List.mem_of_getElem? (i := 2) rfl)) (fun _ h9 => h9) rfl dX1_addAnchor_80 ?_
      refine lv_lload hx hb dX1_addAnchor_83 (lv_at hl 0 rfl) ?_
      refine zm_minL hx hb (hml.trans hl.1.symm) hown (hts (.methodLink RX1 112 Lib.MathLoose.min_long.x) (List.mem_of_getElem? (i := 8) rfl)) (hts (.static Lib.MathLoose.min_long.x) (List.mem_of_getElem? (i := 9) rfl)) (hts (.initialized "java/lang/Math") (List.mem_of_getElem? (i := 6) rfl)) (hts (.code Lib.MathLoose.min_long.x Lib.MathLoose.min_long.code 4 (some .long)) (List.mem_of_getElem? (i := 10) rfl)) (Nat.le_of_ble_eq_true rfl) (Nat.le_of_ble_eq_true rfl) (Nat.le_of_ble_eq_true rfl) (Nat.le_of_ble_eq_true rfl) dX1_addAnchor_85 (by omega) (by omega) ?_
      refine va_put (D := D) (ci := 1) (v := .long (zL (min ((zLrn A xs) 36) ((zLrn A xs) 37 * x1 / 10000)))) (ty := .long) (C := RX1) (T := TX1) (N := 18) hx hb hts hiX1 tyX1 tyX1_ok nmX1 hown hK hP hD hS 0 rfl rfl 7 (by decide) (hts (.fieldLink RX1 59 "ChargeEstimator$Battery" "high" "J") (List.mem_of_getElem? (i := 2) rfl)) (fun _ h9 => h9) rfl (by decide +kernel) rfl rfl (Nat.le_of_ble_eq_true rfl) dX1_addAnchor_88 (fun H locs hP hD hS => ?_)
      have hP : va_P D vwCl (zbat cs q (zU (zU (zLrn A xs) 35 (max ((zLrn A xs) 35) ((zLrn A xs) 37 * x0 / 10000))) 36 (min ((zLrn A xs) 36) ((zLrn A xs) 37 * x1 / 10000)))) H := zbp_36 hP
      have hD : va_D A0 (zbat cs q (zU (zU (zLrn A xs) 35 (max ((zLrn A xs) 35) ((zLrn A xs) 37 * x0 / 10000))) 36 (min ((zLrn A xs) 36) ((zLrn A xs) 37 * x1 / 10000)))) := zD_addr hD rfl
      have hP : va_P D vwCl (zbat cs q (zBnd (zLrn A xs) x0 x1)) H := by first | (rw [zBnd_t (by omega)]; exact hP) | (rw [zBnd_f (by omega)]; exact hP)
      have hD : va_D A0 (zbat cs q (zBnd (zLrn A xs) x0 x1)) := zD_addr hD rfl
      refine lv_aload_n hx hb dX1_addAnchor_91 rfl (lv_at hl 2 rfl) ?_
      refine lv_aload_n hx hb dX1_addAnchor_92 rfl (lv_at hl 2 rfl) ?_
      refine va_get (D := D) (ci := 1) (v := .long (zL ((zBnd (zLrn A xs) x0 x1) 34))) (C := RX1) (T := TX1) (N := 18) hx hb hts hiX1 hown hK hP 0 rfl rfl 5 (by decide) (hts (.fieldLink RX1 53 "ChargeEstimator$Battery" "estimate" "J") (List.mem_of_getElem? (i := 11) rfl)) (fun _ h9 => h9) rfl dX1_addAnchor_93 ?_
      refine lv_aload_n hx hb dX1_addAnchor_96 rfl (lv_at hl 2 rfl) ?_
      refine va_get (D := D) (ci := 1) (v := .long (zL ((zBnd (zLrn A xs) x0 x1) 35))) (C := RX1) (T := TX1) (N := 18) hx hb hts hiX1 hown hK hP 0 rfl rfl 6 (by decide) (hts (.fieldLink RX1 56 "ChargeEstimator$Battery" "low" "J") (List.mem_of_getElem? (i := 1) rfl)) (fun _ h9 => h9) rfl dX1_addAnchor_97 ?_
      refine lv_aload_n hx hb dX1_addAnchor_100 rfl (lv_at hl 2 rfl) ?_
      refine va_get (D := D) (ci := 1) (v := .long (zL ((zBnd (zLrn A xs) x0 x1) 36))) (C := RX1) (T := TX1) (N := 18) hx hb hts hiX1 hown hK hP 0 rfl rfl 7 (by decide) (hts (.fieldLink RX1 59 "ChargeEstimator$Battery" "high" "J") (List.mem_of_getElem? (i := 2) rfl)) (fun _ h9 => h9) rfl dX1_addAnchor_101 ?_
      refine zc_rl (va_runSN (As := [.long (zL ((zBnd (zLrn A xs) x0 x1) 34)), .long (zL ((zBnd (zLrn A xs) x0 x1) 35)), .long (zL ((zBnd (zLrn A xs) x0 x1) 36))]) (rest := [.ref (q 0)]) ⟨hx, hb, hml, hown, hts⟩ (met_X5_clamp l ((zBnd (zLrn A xs) x0 x1) 34) ((zBnd (zLrn A xs) x0 x1) 35) ((zBnd (zLrn A xs) x0 x1) 36) (by first | assumption | omega) (by first | assumption | omega) (by first | assumption | omega) (by first | assumption | omega)) ⟨va_cnB 3 hts gX1_addAnchor_X5_clamp_n141 rfl rfl rfl (zn_RX1_141 hN) (hts (.initialized RX5) (List.mem_of_getElem? (i := 64) rfl)) (by decide +kernel) ⟨Nat.le_of_ble_eq_true rfl, Nat.le_of_ble_eq_true rfl⟩, (hts (.static yX5_clamp) (List.mem_of_getElem? (i := 63) rfl)), trivial⟩ ⟨zTrue.blind, fun U hU hW => ⟨rfl, trivial⟩⟩ rfl rfl hl.1 rfl (lv_room (Nat.le_of_ble_eq_true rfl)) dX1_addAnchor_104 ⟨Nat.le_of_ble_eq_true rfl, Nat.le_of_ble_eq_true rfl⟩) ?_
      refine va_put (D := D) (ci := 1) (v := .long (zL (zclamp ((zBnd (zLrn A xs) x0 x1) 34) ((zBnd (zLrn A xs) x0 x1) 35) ((zBnd (zLrn A xs) x0 x1) 36)))) (ty := .long) (C := RX1) (T := TX1) (N := 18) hx hb hts hiX1 tyX1 tyX1_ok nmX1 hown hK hP hD hS 0 rfl rfl 5 (by decide) (hts (.fieldLink RX1 53 "ChargeEstimator$Battery" "estimate" "J") (List.mem_of_getElem? (i := 11) rfl)) (fun _ h9 => h9) rfl (by decide +kernel) rfl rfl (Nat.le_of_ble_eq_true rfl) dX1_addAnchor_107 (fun H locs hP hD hS => ?_)
      have hP : va_P D vwCl (zbat cs q (zU (zBnd (zLrn A xs) x0 x1) 34 (zclamp ((zBnd (zLrn A xs) x0 x1) 34) ((zBnd (zLrn A xs) x0 x1) 35) ((zBnd (zLrn A xs) x0 x1) 36)))) H := zbp_34 hP
      have hD : va_D A0 (zbat cs q (zU (zBnd (zLrn A xs) x0 x1) 34 (zclamp ((zBnd (zLrn A xs) x0 x1) 34) ((zBnd (zLrn A xs) x0 x1) 35) ((zBnd (zLrn A xs) x0 x1) 36)))) := zD_addr hD rfl
      refine lv_aload_n hx hb dX1_addAnchor_110 rfl (lv_at hl 2 rfl) ?_
      refine zr_lconst0 hx hb dX1_addAnchor_111 ?_
      refine va_put (D := D) (ci := 1) (v := .long (zL 0)) (ty := .long) (C := RX1) (T := TX1) (N := 18) hx hb hts hiX1 tyX1 tyX1_ok nmX1 hown hK hP hD hS 0 rfl rfl 10 (by decide) (hts (.fieldLink RX1 68 "ChargeEstimator$Battery" "counted" "J") (List.mem_of_getElem? (i := 12) rfl)) (fun _ h9 => h9) rfl (by decide +kernel) rfl rfl (Nat.le_of_ble_eq_true rfl) dX1_addAnchor_112 (fun H locs hP hD hS => ?_)
      have hP : va_P D vwCl (zbat cs q (zU (zU (zBnd (zLrn A xs) x0 x1) 34 (zclamp ((zBnd (zLrn A xs) x0 x1) 34) ((zBnd (zLrn A xs) x0 x1) 35) ((zBnd (zLrn A xs) x0 x1) 36))) 40 0)) H := zbp_40 hP
      have hD : va_D A0 (zbat cs q (zU (zU (zBnd (zLrn A xs) x0 x1) 34 (zclamp ((zBnd (zLrn A xs) x0 x1) 34) ((zBnd (zLrn A xs) x0 x1) 35) ((zBnd (zLrn A xs) x0 x1) 36))) 40 0)) := zD_addr hD rfl
      have hP : va_P D vwCl (zbat cs q (zQcl (zBnd (zLrn A xs) x0 x1) xs)) H := zb_ext (fun k _ _ _ _ h48 h49 => ((zU_ne _ _ h49).trans (zU_ne _ _ h48)).symm) rfl hP
      have hD : va_D A0 (zbat cs q (zQcl (zBnd (zLrn A xs) x0 x1) xs)) := zD_addr hD rfl
      refine lv_aload_n hx hb dX1_addAnchor_115 rfl (lv_at hl 2 rfl) ?_
      refine va_get (D := D) (ci := 1) (v := .ref (q 5)) (C := RX1) (T := TX1) (N := 18) hx hb hts hiX1 hown hK hP 0 rfl rfl 2 (by decide) (hts (.fieldLink RX1 25 "ChargeEstimator$Battery" "log" "LChargeEstimator$AnchorLog;") (List.mem_of_getElem? (i := 13) rfl)) (fun _ h9 => h9) rfl dX1_addAnchor_116 ?_
      refine lv_iload_n hx hb dX1_addAnchor_119 rfl (lv_at hl 3 rfl) ?_
      refine lv_iload_n hx hb dX1_addAnchor_120 rfl (lv_at hl 4 rfl) ?_
      refine lv_aload_n hx hb dX1_addAnchor_121 rfl (lv_at hl 2 rfl) ?_
      refine va_get (D := D) (ci := 1) (v := .int (zI ((zQcl (zBnd (zLrn A xs) x0 x1) xs) 42))) (C := RX1) (T := TX1) (N := 18) hx hb hts hiX1 hown hK hP 0 rfl rfl 11 (by decide) (hts (.fieldLink RX1 71 "ChargeEstimator$Battery" "time" "I") (List.mem_of_getElem? (i := 14) rfl)) (fun _ h9 => h9) rfl dX1_addAnchor_122 ?_
      refine lv_aload_n hx hb dX1_addAnchor_125 rfl (lv_at hl 2 rfl) ?_
      refine va_get (D := D) (ci := 1) (v := .long (zL ((zQcl (zBnd (zLrn A xs) x0 x1) xs) 37))) (C := RX1) (T := TX1) (N := 18) hx hb hts hiX1 hown hK hP 0 rfl rfl 4 (by decide) (hts (.fieldLink RX1 48 "ChargeEstimator$Battery" "capacity" "J") (List.mem_of_getElem? (i := 15) rfl)) (fun _ h9 => h9) rfl dX1_addAnchor_126 ?_
      refine zr_l2i hx hb dX1_addAnchor_129 ?_
      refine zc_v (va_runV (As := [.int (zI xk), .int (zI xs), .int (zI ((zQcl (zBnd (zLrn A xs) x0 x1) xs) 42)), .int (zI ((zQcl (zBnd (zLrn A xs) x0 x1) xs) 37))]) (rest := []) ⟨hx, hb, hml, hown, hts⟩ (met_X0_add l D cs q H.size (zQcl (zBnd (zLrn A xs) x0 x1) xs) xk xs ((zQcl (zBnd (zLrn A xs) x0 x1) xs) 42) ((zQcl (zBnd (zLrn A xs) x0 x1) xs) 37) (by first | assumption | omega)) (cwV 4 hts gX1_addAnchor_X0_add rfl rfl rfl (by decide +kernel) ⟨Nat.le_of_ble_eq_true rfl, Nat.le_of_ble_eq_true rfl⟩) ⟨zPreZ.blind, va_recv hK hP (ci := 0) (q0 := 5) rfl rfl, fun U hU hW => zp_Z hP hK hD hN hU hW⟩ rfl rfl hl.1 rfl (lv_room (Nat.le_of_ble_eq_true rfl)) dX1_addAnchor_130 ⟨Nat.le_of_ble_eq_true rfl, Nat.le_of_ble_eq_true rfl⟩) hS hD hA (fun H locs hP hD hS => ?_)
      have hP8 : va_P D vwCl (zbat cs q (zAnc A xk xs x0 x1)) H := by unfold zAnc; rw [← zLogG_e]; exact hP
      have hP9 : va_P D vwCl (zbat cs q (zAnc A xk xs x0 x1)) H := hP8
      have hD9 : va_D A0 (zbat cs q (zAnc A xk xs x0 x1)) := zD_addr hD rfl
      subst hAe
      exact W.vret hx hb hr (fun t ht hW => ⟨⟨(), rfl, trivial, by rw [ht]; exact hP9, hD9⟩, hS.F ht⟩) hS.2.2 dX1_addAnchor_133
    · refine lv_aload_n hx hb dX1_addAnchor_40 rfl (lv_at hl 2 rfl) ?_
      refine lv_dup hx hb dX1_addAnchor_41 rfl ?_
      refine va_get (D := D) (ci := 1) (v := .int (zI ((zLrn A xs) 50))) (C := RX1) (T := TX1) (N := 18) hx hb hts hiX1 hown hK hP 0 rfl rfl 14 (by decide) (hts (.fieldLink RX1 81 "ChargeEstimator$Battery" "conflicts" "I") (List.mem_of_getElem? (i := 3) rfl)) (fun _ h9 => h9) rfl dX1_addAnchor_42 ?_
      refine zr_iconst hx hb dX1_addAnchor_45 ?_
      refine zr_iadd hx hb dX1_addAnchor_46 ?_
      refine va_put (D := D) (ci := 1) (v := .int (zI (((zLrn A xs) 50) + 1))) (ty := .int) (C := RX1) (T := TX1) (N := 18) hx hb hts hiX1 tyX1 tyX1_ok nmX1 hown hK hP hD hS 0 rfl rfl 14 (by decide) (hts (.fieldLink RX1 81 "ChargeEstimator$Battery" "conflicts" "I") (List.mem_of_getElem? (i := 3) rfl)) (fun _ h9 => h9) rfl (by decide +kernel) rfl rfl (Nat.le_of_ble_eq_true rfl) dX1_addAnchor_47 (fun H locs hP hD hS => ?_)
      have hP : va_P D vwCl (zbat cs q (zU (zLrn A xs) 50 (((zLrn A xs) 50) + 1))) H := zbp_50 hP
      have hD : va_D A0 (zbat cs q (zU (zLrn A xs) 50 (((zLrn A xs) 50) + 1))) := zD_addr hD rfl
      refine lv_aload_n hx hb dX1_addAnchor_50 rfl (lv_at hl 2 rfl) ?_
      refine lv_lload hx hb dX1_addAnchor_51 (lv_at hl 1 rfl) ?_
      refine va_put (D := D) (ci := 1) (v := .long (zL ((zLrn A xs) 37 * x0 / 10000))) (ty := .long) (C := RX1) (T := TX1) (N := 18) hx hb hts hiX1 tyX1 tyX1_ok nmX1 hown hK hP hD hS 0 rfl rfl 6 (by decide) (hts (.fieldLink RX1 56 "ChargeEstimator$Battery" "low" "J") (List.mem_of_getElem? (i := 1) rfl)) (fun _ h9 => h9) rfl (by decide +kernel) rfl rfl (Nat.le_of_ble_eq_true rfl) dX1_addAnchor_53 (fun H locs hP hD hS => ?_)
      have hP : va_P D vwCl (zbat cs q (zU (zU (zLrn A xs) 50 (((zLrn A xs) 50) + 1)) 35 ((zLrn A xs) 37 * x0 / 10000))) H := zbp_35 hP
      have hD : va_D A0 (zbat cs q (zU (zU (zLrn A xs) 50 (((zLrn A xs) 50) + 1)) 35 ((zLrn A xs) 37 * x0 / 10000))) := zD_addr hD rfl
      refine lv_aload_n hx hb dX1_addAnchor_56 rfl (lv_at hl 2 rfl) ?_
      refine lv_lload hx hb dX1_addAnchor_57 (lv_at hl 0 rfl) ?_
      refine va_put (D := D) (ci := 1) (v := .long (zL ((zLrn A xs) 37 * x1 / 10000))) (ty := .long) (C := RX1) (T := TX1) (N := 18) hx hb hts hiX1 tyX1 tyX1_ok nmX1 hown hK hP hD hS 0 rfl rfl 7 (by decide) (hts (.fieldLink RX1 59 "ChargeEstimator$Battery" "high" "J") (List.mem_of_getElem? (i := 2) rfl)) (fun _ h9 => h9) rfl (by decide +kernel) rfl rfl (Nat.le_of_ble_eq_true rfl) dX1_addAnchor_59 (fun H locs hP hD hS => ?_)
      have hP : va_P D vwCl (zbat cs q (zU (zU (zU (zLrn A xs) 50 (((zLrn A xs) 50) + 1)) 35 ((zLrn A xs) 37 * x0 / 10000)) 36 ((zLrn A xs) 37 * x1 / 10000))) H := zbp_36 hP
      have hD : va_D A0 (zbat cs q (zU (zU (zU (zLrn A xs) 50 (((zLrn A xs) 50) + 1)) 35 ((zLrn A xs) 37 * x0 / 10000)) 36 ((zLrn A xs) 37 * x1 / 10000))) := zD_addr hD rfl
      refine lv_goto (tgt := 91) hx hb dX1_addAnchor_62 (by decide) ?_
      have hP : va_P D vwCl (zbat cs q (zBnd (zLrn A xs) x0 x1)) H := by first | (rw [zBnd_t (by omega)]; exact hP) | (rw [zBnd_f (by omega)]; exact hP)
      have hD : va_D A0 (zbat cs q (zBnd (zLrn A xs) x0 x1)) := zD_addr hD rfl
      refine lv_aload_n hx hb dX1_addAnchor_91 rfl (lv_at hl 2 rfl) ?_
      refine lv_aload_n hx hb dX1_addAnchor_92 rfl (lv_at hl 2 rfl) ?_
      refine va_get (D := D) (ci := 1) (v := .long (zL ((zBnd (zLrn A xs) x0 x1) 34))) (C := RX1) (T := TX1) (N := 18) hx hb hts hiX1 hown hK hP 0 rfl rfl 5 (by decide) (hts (.fieldLink RX1 53 "ChargeEstimator$Battery" "estimate" "J") (List.mem_of_getElem? (i := 11) rfl)) (fun _ h9 => h9) rfl dX1_addAnchor_93 ?_
      refine lv_aload_n hx hb dX1_addAnchor_96 rfl (lv_at hl 2 rfl) ?_
      refine va_get (D := D) (ci := 1) (v := .long (zL ((zBnd (zLrn A xs) x0 x1) 35))) (C := RX1) (T := TX1) (N := 18) hx hb hts hiX1 hown hK hP 0 rfl rfl 6 (by decide) (hts (.fieldLink RX1 56 "ChargeEstimator$Battery" "low" "J") (List.mem_of_getElem? (i := 1) rfl)) (fun _ h9 => h9) rfl dX1_addAnchor_97 ?_
      refine lv_aload_n hx hb dX1_addAnchor_100 rfl (lv_at hl 2 rfl) ?_
      refine va_get (D := D) (ci := 1) (v := .long (zL ((zBnd (zLrn A xs) x0 x1) 36))) (C := RX1) (T := TX1) (N := 18) hx hb hts hiX1 hown hK hP 0 rfl rfl 7 (by decide) (hts (.fieldLink RX1 59 "ChargeEstimator$Battery" "high" "J") (List.mem_of_getElem? (i := 2) rfl)) (fun _ h9 => h9) rfl dX1_addAnchor_101 ?_
      refine zc_rl (va_runSN (As := [.long (zL ((zBnd (zLrn A xs) x0 x1) 34)), .long (zL ((zBnd (zLrn A xs) x0 x1) 35)), .long (zL ((zBnd (zLrn A xs) x0 x1) 36))]) (rest := [.ref (q 0)]) ⟨hx, hb, hml, hown, hts⟩ (met_X5_clamp l ((zBnd (zLrn A xs) x0 x1) 34) ((zBnd (zLrn A xs) x0 x1) 35) ((zBnd (zLrn A xs) x0 x1) 36) (by first | assumption | omega) (by first | assumption | omega) (by first | assumption | omega) (by first | assumption | omega)) ⟨va_cnB 3 hts gX1_addAnchor_X5_clamp_n141 rfl rfl rfl (zn_RX1_141 hN) (hts (.initialized RX5) (List.mem_of_getElem? (i := 64) rfl)) (by decide +kernel) ⟨Nat.le_of_ble_eq_true rfl, Nat.le_of_ble_eq_true rfl⟩, (hts (.static yX5_clamp) (List.mem_of_getElem? (i := 63) rfl)), trivial⟩ ⟨zTrue.blind, fun U hU hW => ⟨rfl, trivial⟩⟩ rfl rfl hl.1 rfl (lv_room (Nat.le_of_ble_eq_true rfl)) dX1_addAnchor_104 ⟨Nat.le_of_ble_eq_true rfl, Nat.le_of_ble_eq_true rfl⟩) ?_
      refine va_put (D := D) (ci := 1) (v := .long (zL (zclamp ((zBnd (zLrn A xs) x0 x1) 34) ((zBnd (zLrn A xs) x0 x1) 35) ((zBnd (zLrn A xs) x0 x1) 36)))) (ty := .long) (C := RX1) (T := TX1) (N := 18) hx hb hts hiX1 tyX1 tyX1_ok nmX1 hown hK hP hD hS 0 rfl rfl 5 (by decide) (hts (.fieldLink RX1 53 "ChargeEstimator$Battery" "estimate" "J") (List.mem_of_getElem? (i := 11) rfl)) (fun _ h9 => h9) rfl (by decide +kernel) rfl rfl (Nat.le_of_ble_eq_true rfl) dX1_addAnchor_107 (fun H locs hP hD hS => ?_)
      have hP : va_P D vwCl (zbat cs q (zU (zBnd (zLrn A xs) x0 x1) 34 (zclamp ((zBnd (zLrn A xs) x0 x1) 34) ((zBnd (zLrn A xs) x0 x1) 35) ((zBnd (zLrn A xs) x0 x1) 36)))) H := zbp_34 hP
      have hD : va_D A0 (zbat cs q (zU (zBnd (zLrn A xs) x0 x1) 34 (zclamp ((zBnd (zLrn A xs) x0 x1) 34) ((zBnd (zLrn A xs) x0 x1) 35) ((zBnd (zLrn A xs) x0 x1) 36)))) := zD_addr hD rfl
      refine lv_aload_n hx hb dX1_addAnchor_110 rfl (lv_at hl 2 rfl) ?_
      refine zr_lconst0 hx hb dX1_addAnchor_111 ?_
      refine va_put (D := D) (ci := 1) (v := .long (zL 0)) (ty := .long) (C := RX1) (T := TX1) (N := 18) hx hb hts hiX1 tyX1 tyX1_ok nmX1 hown hK hP hD hS 0 rfl rfl 10 (by decide) (hts (.fieldLink RX1 68 "ChargeEstimator$Battery" "counted" "J") (List.mem_of_getElem? (i := 12) rfl)) (fun _ h9 => h9) rfl (by decide +kernel) rfl rfl (Nat.le_of_ble_eq_true rfl) dX1_addAnchor_112 (fun H locs hP hD hS => ?_)
      have hP : va_P D vwCl (zbat cs q (zU (zU (zBnd (zLrn A xs) x0 x1) 34 (zclamp ((zBnd (zLrn A xs) x0 x1) 34) ((zBnd (zLrn A xs) x0 x1) 35) ((zBnd (zLrn A xs) x0 x1) 36))) 40 0)) H := zbp_40 hP
      have hD : va_D A0 (zbat cs q (zU (zU (zBnd (zLrn A xs) x0 x1) 34 (zclamp ((zBnd (zLrn A xs) x0 x1) 34) ((zBnd (zLrn A xs) x0 x1) 35) ((zBnd (zLrn A xs) x0 x1) 36))) 40 0)) := zD_addr hD rfl
      have hP : va_P D vwCl (zbat cs q (zQcl (zBnd (zLrn A xs) x0 x1) xs)) H := zb_ext (fun k _ _ _ _ h48 h49 => ((zU_ne _ _ h49).trans (zU_ne _ _ h48)).symm) rfl hP
      have hD : va_D A0 (zbat cs q (zQcl (zBnd (zLrn A xs) x0 x1) xs)) := zD_addr hD rfl
      refine lv_aload_n hx hb dX1_addAnchor_115 rfl (lv_at hl 2 rfl) ?_
      refine va_get (D := D) (ci := 1) (v := .ref (q 5)) (C := RX1) (T := TX1) (N := 18) hx hb hts hiX1 hown hK hP 0 rfl rfl 2 (by decide) (hts (.fieldLink RX1 25 "ChargeEstimator$Battery" "log" "LChargeEstimator$AnchorLog;") (List.mem_of_getElem? (i := 13) rfl)) (fun _ h9 => h9) rfl dX1_addAnchor_116 ?_
      refine lv_iload_n hx hb dX1_addAnchor_119 rfl (lv_at hl 3 rfl) ?_
      refine lv_iload_n hx hb dX1_addAnchor_120 rfl (lv_at hl 4 rfl) ?_
      refine lv_aload_n hx hb dX1_addAnchor_121 rfl (lv_at hl 2 rfl) ?_
      refine va_get (D := D) (ci := 1) (v := .int (zI ((zQcl (zBnd (zLrn A xs) x0 x1) xs) 42))) (C := RX1) (T := TX1) (N := 18) hx hb hts hiX1 hown hK hP 0 rfl rfl 11 (by decide) (hts (.fieldLink RX1 71 "ChargeEstimator$Battery" "time" "I") (List.mem_of_getElem? (i := 14) rfl)) (fun _ h9 => h9) rfl dX1_addAnchor_122 ?_
      refine lv_aload_n hx hb dX1_addAnchor_125 rfl (lv_at hl 2 rfl) ?_
      refine va_get (D := D) (ci := 1) (v := .long (zL ((zQcl (zBnd (zLrn A xs) x0 x1) xs) 37))) (C := RX1) (T := TX1) (N := 18) hx hb hts hiX1 hown hK hP 0 rfl rfl 4 (by decide) (hts (.fieldLink RX1 48 "ChargeEstimator$Battery" "capacity" "J") (List.mem_of_getElem? (i := 15) rfl)) (fun _ h9 => h9) rfl dX1_addAnchor_126 ?_
      refine zr_l2i hx hb dX1_addAnchor_129 ?_
      refine zc_v (va_runV (As := [.int (zI xk), .int (zI xs), .int (zI ((zQcl (zBnd (zLrn A xs) x0 x1) xs) 42)), .int (zI ((zQcl (zBnd (zLrn A xs) x0 x1) xs) 37))]) (rest := []) ⟨hx, hb, hml, hown, hts⟩ (met_X0_add l D cs q H.size (zQcl (zBnd (zLrn A xs) x0 x1) xs) xk xs ((zQcl (zBnd (zLrn A xs) x0 x1) xs) 42) ((zQcl (zBnd (zLrn A xs) x0 x1) xs) 37) (by first | assumption | omega)) (cwV 4 hts gX1_addAnchor_X0_add rfl rfl rfl (by decide +kernel) ⟨Nat.le_of_ble_eq_true rfl, Nat.le_of_ble_eq_true rfl⟩) ⟨zPreZ.blind, va_recv hK hP (ci := 0) (q0 := 5) rfl rfl, fun U hU hW => zp_Z hP hK hD hN hU hW⟩ rfl rfl hl.1 rfl (lv_room (Nat.le_of_ble_eq_true rfl)) dX1_addAnchor_130 ⟨Nat.le_of_ble_eq_true rfl, Nat.le_of_ble_eq_true rfl⟩) hS hD hA (fun H locs hP hD hS => ?_)
      have hP8 : va_P D vwCl (zbat cs q (zAnc A xk xs x0 x1)) H := by unfold zAnc; rw [← zLogG_e]; exact hP
      have hP9 : va_P D vwCl (zbat cs q (zAnc A xk xs x0 x1)) H := hP8
      have hD9 : va_D A0 (zbat cs q (zAnc A xk xs x0 x1)) := zD_addr hD rfl
      subst hAe
      exact W.vret hx hb hr (fun t ht hW => ⟨⟨(), rfl, trivial, by rw [ht]; exact hP9, hD9⟩, hS.F ht⟩) hS.2.2 dX1_addAnchor_133
theorem zT3_t {A : Int → Int} {i v t : Int} (h : zP1 A i v t) : zT3 A i v t = zAnc (zT2 A i v t) 0 (zInv (zT2 A i v t) v (zHys (zT2 A i v t))) (zInv (zT2 A i v t) (v - zT2 A i v t 7) (zHys (zT2 A i v t))) (zInv (zT2 A i v t) (v + zT2 A i v t 7) (zHys (zT2 A i v t))) := by unfold zT3; rw [zS_ft h]
theorem zT3_f {A : Int → Int} {i v t : Int} (h : ¬ zP1 A i v t) : zT3 A i v t = zT2 A i v t := by unfold zT3; rw [zS_ff h]
theorem zT5_t {A : Int → Int} {i v t : Int} (h : zP2 A i v t) : zT5 A i v t = zAnc (zT4 A i v t) 1 10000 10000 10000 := by unfold zT5; rw [zS_ft h]
theorem zT5_f {A : Int → Int} {i v t : Int} (h : ¬ zP2 A i v t) : zT5 A i v t = zT4 A i v t := by unfold zT5; rw [zS_ff h]
theorem zT6_t {A : Int → Int} {i v t : Int} (h : zP3 A i v t) : zT6 A i v t = zAnc (zT5 A i v t) 2 0 0 0 := by unfold zT6; rw [zS_ft h]
theorem zT6_f {A : Int → Int} {i v t : Int} (h : ¬ zP3 A i v t) : zT6 A i v t = zT5 A i v t := by unfold zT6; rw [zS_ff h]
theorem zOK_T2 {n : Int} {A : Int → Int} (h : zOK n A) {i v t : Int} (hi : -50000 ≤ i ∧ i ≤ 50000) (ht : 1 ≤ t ∧ t ≤ 600) : zOK (n + 2) (zT2 A i v t) := by
  have := zOK_rst (v := v) (i := i) (zOK_cnt h hi ht) ht
  exact zOK_mono this (by omega)
theorem zOK_T3 {n : Int} {A : Int → Int} (h : zOK n A) (hn : 0 ≤ n ∧ n ≤ 3099900) {i v t : Int} (hi : -50000 ≤ i ∧ i ≤ 50000) (ht : 1 ≤ t ∧ t ≤ 600) : zOK (n + 4) (zT3 A i v t) := by
  have h2 := zOK_T2 (v := v) h hi ht
  by_cases hc : zP1 A i v t
  · rw [zT3_t hc]
    have s7 := (zOK_s h2).2.2.2.2.2.2.2.1
    have a := zInv_s (zT2 A i v t) v (zHys (zT2 A i v t))
    have b := zInv_s (zT2 A i v t) (v - zT2 A i v t 7) (zHys (zT2 A i v t))
    have c := zInv_s (zT2 A i v t) (v + zT2 A i v t 7) (zHys (zT2 A i v t))
    have d := zInv_mono (zT2 A i v t) (h := zHys (zT2 A i v t)) (show v - zT2 A i v t 7 ≤ v + zT2 A i v t 7 by omega)
    exact zOK_mono (zOK_anc h2 (by omega) (by decide) a.1 ⟨b.1.1, d, c.1.2⟩) (by omega)
  · rw [zT3_f hc]; exact zOK_mono h2 (by omega)
theorem zOK_T4 {n : Int} {A : Int → Int} (h : zOK n A) (hn : 0 ≤ n ∧ n ≤ 3099900) {i v t : Int} (hi : -50000 ≤ i ∧ i ≤ 50000) (ht : 1 ≤ t ∧ t ≤ 600) : zOK (n + 5) (zT4 A i v t) :=
  zOK_mono (zOK_ful (zOK_T3 (v := v) h hn hi ht) ht) (by omega)
theorem zOK_T5 {n : Int} {A : Int → Int} (h : zOK n A) (hn : 0 ≤ n ∧ n ≤ 3099900) {i v t : Int} (hi : -50000 ≤ i ∧ i ≤ 50000) (ht : 1 ≤ t ∧ t ≤ 600) : zOK (n + 7) (zT5 A i v t) := by
  have h2 := zOK_T4 (v := v) h hn hi ht
  by_cases hc : zP2 A i v t
  · rw [zT5_t hc]; exact zOK_mono (zOK_anc h2 (by omega) (by decide) (by decide) (by decide)) (by omega)
  · rw [zT5_f hc]; exact zOK_mono h2 (by omega)
theorem zOK_T6 {n : Int} {A : Int → Int} (h : zOK n A) (hn : 0 ≤ n ∧ n ≤ 3099900) {i v t : Int} (hi : -50000 ≤ i ∧ i ≤ 50000) (ht : 1 ≤ t ∧ t ≤ 600) : zOK (n + 9) (zT6 A i v t) := by
  have h2 := zOK_T5 (v := v) h hn hi ht
  by_cases hc : zP3 A i v t
  · rw [zT6_t hc]; exact zOK_mono (zOK_anc h2 (by omega) (by decide) (by decide) (by decide)) (by omega)
  · rw [zT6_f hc]; exact zOK_mono h2 (by omega)
theorem zOK_tr {n : Int} {A : Int → Int} (h : zOK n A) (hn : 0 ≤ n ∧ n ≤ 3099900) {i v t : Int} (hi : -50000 ≤ i ∧ i ≤ 50000) (hv : 0 ≤ v ∧ v ≤ 6000) (ht : 1 ≤ t ∧ t ≤ 600) : zOK (n + 12) (zTr A i v t) := by
  have h2 := zOK_T6 (v := v) h hn hi ht
  unfold zTr
  have h3 := zOK_u47 (x := zI_f (zEmpties (zT5 A i v t) i v) 1 0) h2 (by unfold zI_f; split <;> omega)
  exact zOK_mono (zOK_u46 (zOK_u45 h3 (x := 1) (by omega)) hv) (by omega)
/-- an anchor does not look at place 47 -/
theorem zU_out {g : Int → Int} {e x i : Int} (h : i ≠ 47) : zU (zU g 47 e) i x = zU (zU g i x) 47 e := by
  funext j
  simp only [zU]
  by_cases h1 : j = i <;> by_cases h2 : j = 47 <;> simp [h1, h2] <;> omega
theorem zLrn_47 (A : Int → Int) (e s : Int) : zLrn (zU A 47 e) s = zU (zLrn A s) 47 e := by
  by_cases h : zLearns A s
  · have h2 : zLearns (zU A 47 e) s := h
    rw [zLrn_t h, zLrn_t h2]
    show zU (zU (zU (zU (zU (zU (zU A 47 e) 37 (zCap A s)) 51 (A 51 + 1)) 34 (min (A 34) (zCap A s))) 35 (min (A 35) (zCap A s))) 36 (min (A 36) (zCap A s))) 39 (min (A 39) (zCap A s * A 3 / 100)) = zU (zLrn1 A s) 47 e
    unfold zLrn1
    rw [zU_out (by decide), zU_out (by decide), zU_out (by decide), zU_out (by decide), zU_out (by decide), zU_out (by decide)]
  · have h2 : ¬ zLearns (zU A 47 e) s := h
    rw [zLrn_f h, zLrn_f h2]
theorem zBnd_47 (A : Int → Int) (e s0 s1 : Int) : zBnd (zU A 47 e) s0 s1 = zU (zBnd A s0 s1) 47 e := by
  by_cases h : A 37 * s1 / 10000 < A 35 ∨ A 36 < A 37 * s0 / 10000
  · rw [zBnd_t h, zBnd_t (A := zU A 47 e) h]
    show zU (zU (zU (zU A 47 e) 50 (A 50 + 1)) 35 (A 37 * s0 / 10000)) 36 (A 37 * s1 / 10000) = _
    rw [zU_out (by decide), zU_out (by decide), zU_out (by decide)]
  · rw [zBnd_f h, zBnd_f (A := zU A 47 e) h]
    show zU (zU (zU A 47 e) 35 (max (A 35) (A 37 * s0 / 10000))) 36 (min (A 36) (A 37 * s1 / 10000)) = _
    rw [zU_out (by decide), zU_out (by decide)]
theorem zQcl_o47 (A : Int → Int) (e s : Int) : zQcl (zU A 47 e) s = zU (zQcl A s) 47 e := by
  show zU (zU (zU (zU (zU A 47 e) 34 (zclamp (A 34) (A 35) (A 36))) 40 0) 48 1) 49 s = _
  rw [zU_out (by decide), zU_out (by decide), zU_out (by decide), zU_out (by decide)]
  rfl
theorem zLogS_47 (A : Int → Int) (e : Int) : zLogS (zU A 47 e) = zU (zLogS A) 47 e := by
  by_cases h : A 52 = 40
  · rw [zLogS_t h, zLogS_t (A := zU A 47 e) h]
    have : zC (zU A 47 e) (zU A 47 e) 57 53 156 = zU (zC A A 57 53 156) 47 e := by
      funext j
      simp only [zC, zU]
      by_cases h1 : 53 ≤ j ∧ j < 53 + 156
      · rw [if_pos h1, if_neg (by omega), if_neg (by omega), if_pos h1]
      · rw [if_neg h1, if_neg h1]
    rw [this, zU_out (by decide)]
  · rw [zLogS_f h, zLogS_f (A := zU A 47 e) h]
theorem zLog_47 (A : Int → Int) (h : 0 ≤ A 52 ∧ A 52 ≤ 40) (e k s : Int) : zLog (zU A 47 e) k s = zU (zLog A k s) 47 e := by
  have hm := (zLogS_m A h).2
  unfold zLog
  rw [zLogS_47]
  show zU (zU (zU (zU (zU (zU (zLogS A) 47 e) (53 + 4 * zLogS A 52) k) (53 + 4 * zLogS A 52 + 1) s) (53 + 4 * zLogS A 52 + 2) (A 42)) (53 + 4 * zLogS A 52 + 3) (A 37)) 52 (zLogS A 52 + 1) = _
  rw [zU_out (by omega), zU_out (by omega), zU_out (by omega), zU_out (by omega), zU_out (by decide)]
theorem zAnc_47 {n : Int} {A : Int → Int} (h : zOK n A) (e k s s0 s1 : Int) (h0 : 0 ≤ s0 ∧ s0 ≤ s1 ∧ s1 ≤ 10000) : zAnc (zU A 47 e) k s s0 s1 = zU (zAnc A k s s0 s1) 47 e := by
  have h1 := (zOK_q (zOK_bnd (zOK_lrn h s) h0)).2.2.2.2.2.2.2.2.2.2.2.2.2.2.2.2.2.1
  unfold zAnc
  rw [zLrn_47, zBnd_47, zQcl_o47, zLog_47 (zQcl (zBnd (zLrn A s) s0 s1) s) h1]
set_option maxHeartbeats 4000000 in
set_option maxRecDepth 100000 in
theorem met_X1_treat (l : Launch) (D : va_G) (cs : Nat → ClassId) (q : Nat → Nat) (sz : Nat) (n : Int) (A : Int → Int) (xi xv xt : Int) (hI : zOK n A) (hn : 0 ≤ n ∧ n ≤ 3100000) (kn9 : n ≤ 3099900) (kxi : -50000 ≤ xi ∧ xi ≤ 50000) (kxv : 0 ≤ xv ∧ xv ≤ 6000) (kxt : 1 ≤ xt ∧ xt ≤ 600) : Met l yX1_treat wsX1_treat ({ frames := 4, cells := 0, slots := 0, locals := 97 }) (va_Pc [.ref (q 0), .int (zI xi), .int (zI xv), .int (zI xt)] (zPreZ D (zTy cs) (zbat cs q A) sz)) (zQi D (zbat cs q A) sz (zI (zBits A xi xv xt)) (zbat cs q (zTr A xi xv xt))) 0 0 (va_A (zbat cs q A) sz) := by
  refine Met.ofW (cc := cX1_treat) (maxL := 7) (ret := (some .int)) (by decide) rfl ?_
  intro p e s m args below meth c s₁ B hml hv
  obtain ⟨rfl, hsz, hP, hK, hD0, hN⟩ := hv
  have hx := B.exec
  have hb := B.bytes
  have hr := B.returns
  have hts := atoms_spec (ws := wsX1_treat) B.pre
  have hown : s.vm.findClass RX1 = some m.cls := findClass_of_methodNamed B.named
  have hlocks := B.notSynchronized
  subst hsz
  obtain ⟨A0, hAe⟩ : ∃ A0, A0 = va_A (zbat cs q A) s.heap.size := ⟨_, rfl⟩
  have hD := hD0.self (sz := s.heap.size)
  rw [← hAe] at hD
  have hA : ∀ q : Nat, s.heap.size ≤ q → A0 q := fun q h => by rw [hAe]; exact Or.inr h
  have hS : va_S A0 s.heap s.heap [] := va_S.rf
  have hP : va_P D vwCl (zbat cs q A) s.heap := hP
  have hl := lv_entry ([.ref (q 0), .int (zI xi), .int (zI xv), .int (zI xt)]) (n := 7) (Nat.le_of_ble_eq_true rfl)
  rw [lg_entry_eq]
  generalize (lg_sl ([.ref (q 0), .int (zI xi), .int (zI xv), .int (zI xt)]) ++ List.replicate (7 - (lg_sl ([.ref (q 0), .int (zI xi), .int (zI xv), .int (zI xt)])).length) Slot.unset).toArray = ls at hl ⊢
  have hl : lv_has ls 7 [(0, .ref (q 0)), (1, .int (zI xi)), (2, .int (zI xv)), (3, .int (zI xt))] := hl
  have hiX1 : ∀ w ∈ wsX10, w ∈ wsX1_treat := by decide +kernel
  have hc1 := zOK_cnt hI kxi kxt
  have h2 := zOK_T2 (v := xv) hI kxi kxt
  have h3 := zOK_T3 (v := xv) hI (by omega) kxi kxt
  have h4 := zOK_T4 (v := xv) hI (by omega) kxi kxt
  have h5 := zOK_T5 (v := xv) hI (by omega) kxi kxt
  have hE : zOK (n + 7 + 1) (zEmp (zT5 A xi xv xt) xi xv) := zOK_u47 h5 (by unfold zI_f; split <;> omega)
  have hH := zHys_r h2
  have s7 := (zOK_s h2).2.2.2.2.2.2.2.1
  have ia := zInv_s (zT2 A xi xv xt) xv (zHys (zT2 A xi xv xt))
  have ib := zInv_s (zT2 A xi xv xt) (xv - zT2 A xi xv xt 7) (zHys (zT2 A xi xv xt))
  have ic := zInv_s (zT2 A xi xv xt) (xv + zT2 A xi xv xt 7) (zHys (zT2 A xi xv xt))
  have id9 := zInv_mono (zT2 A xi xv xt) (h := zHys (zT2 A xi xv xt)) (show xv - zT2 A xi xv xt 7 ≤ xv + zT2 A xi xv xt 7 by omega)
  refine lv_aload_n hx hb dX1_treat_0 rfl (lv_at hl 0 rfl) ?_
  refine lv_iload_n hx hb dX1_treat_1 rfl (lv_at hl 1 rfl) ?_
  refine lv_iload_n hx hb dX1_treat_2 rfl (lv_at hl 3 rfl) ?_
  refine zc_v (va_runV (As := [.int (zI xi), .int (zI xt)]) (rest := []) ⟨hx, hb, hml, hown, hts⟩ (met_X1_countCharge l D cs q s.heap.size _ A xi xt (by assumption) (by assumption) (by first | assumption | omega) (by first | assumption | omega)) (cwV 2 hts gX1_treat_X1_countCharge rfl rfl rfl (by decide +kernel) ⟨Nat.le_of_ble_eq_true rfl, Nat.le_of_ble_eq_true rfl⟩) ⟨zPreZ.blind, va_recv hK hP (ci := 1) (q0 := 0) rfl rfl, fun U hU hW => zp_Z hP hK hD hN hU hW⟩ rfl rfl hl.1 rfl (lv_room (Nat.le_of_ble_eq_true rfl)) dX1_treat_3 ⟨Nat.le_of_ble_eq_true rfl, Nat.le_of_ble_eq_true rfl⟩) hS hD hA (fun H locs hP hD hS => ?_)
  refine zr_iconst hx hb dX1_treat_6 ?_
  refine lv_istore (lv' := [(4, .int (zI 0)), (0, .ref (q 0)), (1, .int (zI xi)), (2, .int (zI xv)), (3, .int (zI xt))]) hx hb dX1_treat_7 hl (by decide) rfl (fun ls hl => ?_)
  refine lv_aload_n hx hb dX1_treat_9 rfl (lv_at hl 1 rfl) ?_
  refine lv_iload_n hx hb dX1_treat_10 rfl (lv_at hl 2 rfl) ?_
  refine lv_iload_n hx hb dX1_treat_11 rfl (lv_at hl 3 rfl) ?_
  refine lv_iload_n hx hb dX1_treat_12 rfl (lv_at hl 4 rfl) ?_
  refine zc_i (va_runV (As := [.int (zI xi), .int (zI xv), .int (zI xt)]) (rest := []) ⟨hx, hb, hml, hown, hts⟩ (met_X1_restIsReached l D cs q H.size _ (zCnt A xi xt) xi xv xt (by exact hc1) (by omega) (by first | assumption | omega) (by first | assumption | omega) (by first | assumption | omega)) (cwV 3 hts gX1_treat_X1_restIsReached rfl rfl rfl (by decide +kernel) ⟨Nat.le_of_ble_eq_true rfl, Nat.le_of_ble_eq_true rfl⟩) ⟨zPreZ.blind, va_recv hK hP (ci := 1) (q0 := 0) rfl rfl, fun U hU hW => zp_Z hP hK hD hN hU hW⟩ rfl rfl hl.1 rfl (lv_room (Nat.le_of_ble_eq_true rfl)) dX1_treat_13 ⟨Nat.le_of_ble_eq_true rfl, Nat.le_of_ble_eq_true rfl⟩) hS hD hA (fun H locs hP hD hS => ?_)
  have hP : va_P D vwCl (zbat cs q (zT2 A xi xv xt)) H := hP
  have hD : va_D A0 (zbat cs q (zT2 A xi xv xt)) := zD_addr hD rfl
  refine zr_ifb_eq (tgt := 78) hx hb dX1_treat_16 (by decide) (fun c1 => ?_) (fun c1 => ?_)
  · have hP : va_P D vwCl (zbat cs q (zT3 A xi xv xt)) H := by first | (rw [zT3_t (by assumption)]; exact hP) | (rw [zT3_f (by assumption)]; exact hP)
    have hD : va_D A0 (zbat cs q (zT3 A xi xv xt)) := zD_addr hD rfl
    refine lv_aload_n hx hb dX1_treat_78 rfl (lv_at hl 1 rfl) ?_
    refine lv_iload_n hx hb dX1_treat_79 rfl (lv_at hl 2 rfl) ?_
    refine lv_iload_n hx hb dX1_treat_80 rfl (lv_at hl 3 rfl) ?_
    refine lv_iload_n hx hb dX1_treat_81 rfl (lv_at hl 4 rfl) ?_
    refine zc_i (va_runV (As := [.int (zI xi), .int (zI xv), .int (zI xt)]) (rest := []) ⟨hx, hb, hml, hown, hts⟩ (met_X1_fullIsReached l D cs q H.size _ (zT3 A xi xv xt) xi xv xt (by exact h3) (by omega) (by first | assumption | omega) (by first | assumption | omega) (by first | assumption | omega)) (cwV 3 hts gX1_treat_X1_fullIsReached rfl rfl rfl (by decide +kernel) ⟨Nat.le_of_ble_eq_true rfl, Nat.le_of_ble_eq_true rfl⟩) ⟨zPreZ.blind, va_recv hK hP (ci := 1) (q0 := 0) rfl rfl, fun U hU hW => zp_Z hP hK hD hN hU hW⟩ rfl rfl hl.1 rfl (lv_room (Nat.le_of_ble_eq_true rfl)) dX1_treat_82 ⟨Nat.le_of_ble_eq_true rfl, Nat.le_of_ble_eq_true rfl⟩) hS hD hA (fun H locs hP hD hS => ?_)
    have hP : va_P D vwCl (zbat cs q (zT4 A xi xv xt)) H := hP
    have hD : va_D A0 (zbat cs q (zT4 A xi xv xt)) := zD_addr hD rfl
    refine zr_ifb_eq (tgt := 105) hx hb dX1_treat_85 (by decide) (fun c2 => ?_) (fun c2 => ?_)
    · have hP : va_P D vwCl (zbat cs q (zT5 A xi xv xt)) H := by first | (rw [zT5_t (by assumption)]; exact hP) | (rw [zT5_f (by assumption)]; exact hP)
      have hD : va_D A0 (zbat cs q (zT5 A xi xv xt)) := zD_addr hD rfl
      refine lv_aload_n hx hb dX1_treat_105 rfl (lv_at hl 1 rfl) ?_
      refine lv_iload_n hx hb dX1_treat_106 rfl (lv_at hl 2 rfl) ?_
      refine lv_iload_n hx hb dX1_treat_107 rfl (lv_at hl 3 rfl) ?_
      refine zc_i (va_runV (As := [.int (zI xi), .int (zI xv)]) (rest := []) ⟨hx, hb, hml, hown, hts⟩ (met_X1_emptyIsReached l D cs q H.size _ (zT5 A xi xv xt) xi xv (by exact h5) (by omega) (by first | assumption | omega) (by first | assumption | omega)) (cwV 2 hts gX1_treat_X1_emptyIsReached rfl rfl rfl (by decide +kernel) ⟨Nat.le_of_ble_eq_true rfl, Nat.le_of_ble_eq_true rfl⟩) ⟨zPreZ.blind, va_recv hK hP (ci := 1) (q0 := 0) rfl rfl, fun U hU hW => zp_Z hP hK hD hN hU hW⟩ rfl rfl hl.1 rfl (lv_room (Nat.le_of_ble_eq_true rfl)) dX1_treat_108 ⟨Nat.le_of_ble_eq_true rfl, Nat.le_of_ble_eq_true rfl⟩) hS hD hA (fun H locs hP hD hS => ?_)
      refine zr_ifb_eq (tgt := 125) hx hb dX1_treat_111 (by decide) (fun c3 => ?_) (fun c3 => ?_)
      · have hP : va_P D vwCl (zbat cs q (zU (zT6 A xi xv xt) 47 (zI_f (zEmpties (zT5 A xi xv xt) xi xv) 1 0))) H := by first | (rw [zT6_t (by unfold zP3 zEmpties; omega), ← zAnc_47 h5 _ _ _ _ _ (by decide)]; exact hP) | (rw [zT6_f (by unfold zP3 zEmpties; omega)]; exact hP)
        have hD : va_D A0 (zbat cs q (zU (zT6 A xi xv xt) 47 (zI_f (zEmpties (zT5 A xi xv xt) xi xv) 1 0))) := zD_addr hD rfl
        refine lv_aload_n hx hb dX1_treat_125 rfl (lv_at hl 1 rfl) ?_
        refine lv_iload_n hx hb dX1_treat_126 rfl (lv_at hl 3 rfl) ?_
        refine va_put (D := D) (ci := 1) (v := .int (zI xv)) (ty := .int) (C := RX1) (T := TX1) (N := 18) hx hb hts hiX1 tyX1 tyX1_ok nmX1 hown hK hP hD hS 0 rfl rfl 16 (by decide) (hts (.fieldLink RX1 87 "ChargeEstimator$Battery" "lastVoltage" "I") (List.mem_of_getElem? (i := 3) rfl)) (fun _ h9 => h9) rfl (by decide +kernel) rfl rfl (Nat.le_of_ble_eq_true rfl) dX1_treat_127 (fun H locs hP hD hS => ?_)
        have hP : va_P D vwCl (zbat cs q (zU (zU (zU (zT6 A xi xv xt) 47 (zI_f (zEmpties (zT5 A xi xv xt) xi xv) 1 0)) 45 1) 46 xv)) H := zbp_lv hP
        have hD : va_D A0 (zbat cs q (zU (zU (zU (zT6 A xi xv xt) 47 (zI_f (zEmpties (zT5 A xi xv xt) xi xv) 1 0)) 45 1) 46 xv)) := zD_addr hD rfl
        refine lv_iload hx hb dX1_treat_130 (lv_at hl 0 rfl) ?_
        have hP9 : va_P D vwCl (zbat cs q (zTr A xi xv xt)) H := hP
        have hD9 : va_D A0 (zbat cs q (zTr A xi xv xt)) := zD_addr hD rfl
        subst hAe
        exact W.iret hx hb hr (fun t ht hW => ⟨⟨_, (), rfl, (congrArg zI (show 0 = zBits A xi xv xt from by unfold zBits; (first | rw [zI_ft (P := zP1 A xi xv xt) (by first | assumption | (unfold zP1 zEmpties; omega))] | rw [zI_ff (P := zP1 A xi xv xt) (by first | assumption | (unfold zP1 zEmpties; omega))]); (first | rw [zI_ft (P := zP2 A xi xv xt) (by first | assumption | (unfold zP2 zEmpties; omega))] | rw [zI_ff (P := zP2 A xi xv xt) (by first | assumption | (unfold zP2 zEmpties; omega))]); (first | rw [zI_ft (P := zP3 A xi xv xt) (by first | assumption | (unfold zP3 zEmpties; omega))] | rw [zI_ff (P := zP3 A xi xv xt) (by first | assumption | (unfold zP3 zEmpties; omega))]); (first | done | rfl))), by rw [ht]; exact hP9, hD9⟩, hS.F ht⟩) hS.2.2 dX1_treat_132
      · refine lv_aload_n hx hb dX1_treat_114 rfl (lv_at hl 1 rfl) ?_
        refine zr_iconst hx hb dX1_treat_115 ?_
        refine zr_iconst hx hb dX1_treat_116 ?_
        refine zr_iconst hx hb dX1_treat_117 ?_
        refine zr_iconst hx hb dX1_treat_118 ?_
        refine zc_v (va_runV (As := [.int (zI 2), .int (zI 0), .int (zI 0), .int (zI 0)]) (rest := []) ⟨hx, hb, hml, hown, hts⟩ (met_X1_addAnchor l D cs q H.size _ (zEmp (zT5 A xi xv xt) xi xv) 2 0 0 0 (by exact hE) (by omega) (by first | assumption | omega) (by first | assumption | omega) (by first | assumption | omega) (by first | assumption | omega)) (cwV 4 hts gX1_treat_X1_addAnchor rfl rfl rfl (by decide +kernel) ⟨Nat.le_of_ble_eq_true rfl, Nat.le_of_ble_eq_true rfl⟩) ⟨zPreZ.blind, va_recv hK hP (ci := 1) (q0 := 0) rfl rfl, fun U hU hW => zp_Z hP hK hD hN hU hW⟩ rfl rfl hl.1 rfl (lv_room (Nat.le_of_ble_eq_true rfl)) dX1_treat_119 ⟨Nat.le_of_ble_eq_true rfl, Nat.le_of_ble_eq_true rfl⟩) hS hD hA (fun H locs hP hD hS => ?_)
        refine zr_iinc (kk := 0) (lv' := [(4, .int (zI 4)), (0, .ref (q 0)), (1, .int (zI xi)), (2, .int (zI xv)), (3, .int (zI xt))]) hx hb dX1_treat_122 hl rfl (by decide) rfl (fun ls hl => ?_)
        have hP : va_P D vwCl (zbat cs q (zU (zT6 A xi xv xt) 47 (zI_f (zEmpties (zT5 A xi xv xt) xi xv) 1 0))) H := by first | (rw [zT6_t (by unfold zP3 zEmpties; omega), ← zAnc_47 h5 _ _ _ _ _ (by decide)]; exact hP) | (rw [zT6_f (by unfold zP3 zEmpties; omega)]; exact hP)
        have hD : va_D A0 (zbat cs q (zU (zT6 A xi xv xt) 47 (zI_f (zEmpties (zT5 A xi xv xt) xi xv) 1 0))) := zD_addr hD rfl
        refine lv_aload_n hx hb dX1_treat_125 rfl (lv_at hl 1 rfl) ?_
        refine lv_iload_n hx hb dX1_treat_126 rfl (lv_at hl 3 rfl) ?_
        refine va_put (D := D) (ci := 1) (v := .int (zI xv)) (ty := .int) (C := RX1) (T := TX1) (N := 18) hx hb hts hiX1 tyX1 tyX1_ok nmX1 hown hK hP hD hS 0 rfl rfl 16 (by decide) (hts (.fieldLink RX1 87 "ChargeEstimator$Battery" "lastVoltage" "I") (List.mem_of_getElem? (i := 3) rfl)) (fun _ h9 => h9) rfl (by decide +kernel) rfl rfl (Nat.le_of_ble_eq_true rfl) dX1_treat_127 (fun H locs hP hD hS => ?_)
        have hP : va_P D vwCl (zbat cs q (zU (zU (zU (zT6 A xi xv xt) 47 (zI_f (zEmpties (zT5 A xi xv xt) xi xv) 1 0)) 45 1) 46 xv)) H := zbp_lv hP
        have hD : va_D A0 (zbat cs q (zU (zU (zU (zT6 A xi xv xt) 47 (zI_f (zEmpties (zT5 A xi xv xt) xi xv) 1 0)) 45 1) 46 xv)) := zD_addr hD rfl
        refine lv_iload hx hb dX1_treat_130 (lv_at hl 0 rfl) ?_
        have hP9 : va_P D vwCl (zbat cs q (zTr A xi xv xt)) H := hP
        have hD9 : va_D A0 (zbat cs q (zTr A xi xv xt)) := zD_addr hD rfl
        subst hAe
        exact W.iret hx hb hr (fun t ht hW => ⟨⟨_, (), rfl, (congrArg zI (show 4 = zBits A xi xv xt from by unfold zBits; (first | rw [zI_ft (P := zP1 A xi xv xt) (by first | assumption | (unfold zP1 zEmpties; omega))] | rw [zI_ff (P := zP1 A xi xv xt) (by first | assumption | (unfold zP1 zEmpties; omega))]); (first | rw [zI_ft (P := zP2 A xi xv xt) (by first | assumption | (unfold zP2 zEmpties; omega))] | rw [zI_ff (P := zP2 A xi xv xt) (by first | assumption | (unfold zP2 zEmpties; omega))]); (first | rw [zI_ft (P := zP3 A xi xv xt) (by first | assumption | (unfold zP3 zEmpties; omega))] | rw [zI_ff (P := zP3 A xi xv xt) (by first | assumption | (unfold zP3 zEmpties; omega))]); (first | done | rfl))), by rw [ht]; exact hP9, hD9⟩, hS.F ht⟩) hS.2.2 dX1_treat_132
    · refine lv_aload_n hx hb dX1_treat_88 rfl (lv_at hl 1 rfl) ?_
      refine zr_iconst hx hb dX1_treat_89 ?_
      refine zr_sipush hx hb dX1_treat_90 (by decide) ?_
      refine zr_sipush hx hb dX1_treat_93 (by decide) ?_
      refine zr_sipush hx hb dX1_treat_96 (by decide) ?_
      refine zc_v (va_runV (As := [.int (zI 1), .int (zI 10000), .int (zI 10000), .int (zI 10000)]) (rest := []) ⟨hx, hb, hml, hown, hts⟩ (met_X1_addAnchor l D cs q H.size _ (zT4 A xi xv xt) 1 10000 10000 10000 (by exact h4) (by omega) (by first | assumption | omega) (by first | assumption | omega) (by first | assumption | omega) (by first | assumption | omega)) (cwV 4 hts gX1_treat_X1_addAnchor rfl rfl rfl (by decide +kernel) ⟨Nat.le_of_ble_eq_true rfl, Nat.le_of_ble_eq_true rfl⟩) ⟨zPreZ.blind, va_recv hK hP (ci := 1) (q0 := 0) rfl rfl, fun U hU hW => zp_Z hP hK hD hN hU hW⟩ rfl rfl hl.1 rfl (lv_room (Nat.le_of_ble_eq_true rfl)) dX1_treat_99 ⟨Nat.le_of_ble_eq_true rfl, Nat.le_of_ble_eq_true rfl⟩) hS hD hA (fun H locs hP hD hS => ?_)
      refine zr_iinc (kk := 0) (lv' := [(4, .int (zI 2)), (0, .ref (q 0)), (1, .int (zI xi)), (2, .int (zI xv)), (3, .int (zI xt))]) hx hb dX1_treat_102 hl rfl (by decide) rfl (fun ls hl => ?_)
      have hP : va_P D vwCl (zbat cs q (zT5 A xi xv xt)) H := by first | (rw [zT5_t (by assumption)]; exact hP) | (rw [zT5_f (by assumption)]; exact hP)
      have hD : va_D A0 (zbat cs q (zT5 A xi xv xt)) := zD_addr hD rfl
      refine lv_aload_n hx hb dX1_treat_105 rfl (lv_at hl 1 rfl) ?_
      refine lv_iload_n hx hb dX1_treat_106 rfl (lv_at hl 2 rfl) ?_
      refine lv_iload_n hx hb dX1_treat_107 rfl (lv_at hl 3 rfl) ?_
      refine zc_i (va_runV (As := [.int (zI xi), .int (zI xv)]) (rest := []) ⟨hx, hb, hml, hown, hts⟩ (met_X1_emptyIsReached l D cs q H.size _ (zT5 A xi xv xt) xi xv (by exact h5) (by omega) (by first | assumption | omega) (by first | assumption | omega)) (cwV 2 hts gX1_treat_X1_emptyIsReached rfl rfl rfl (by decide +kernel) ⟨Nat.le_of_ble_eq_true rfl, Nat.le_of_ble_eq_true rfl⟩) ⟨zPreZ.blind, va_recv hK hP (ci := 1) (q0 := 0) rfl rfl, fun U hU hW => zp_Z hP hK hD hN hU hW⟩ rfl rfl hl.1 rfl (lv_room (Nat.le_of_ble_eq_true rfl)) dX1_treat_108 ⟨Nat.le_of_ble_eq_true rfl, Nat.le_of_ble_eq_true rfl⟩) hS hD hA (fun H locs hP hD hS => ?_)
      refine zr_ifb_eq (tgt := 125) hx hb dX1_treat_111 (by decide) (fun c4 => ?_) (fun c4 => ?_)
      · have hP : va_P D vwCl (zbat cs q (zU (zT6 A xi xv xt) 47 (zI_f (zEmpties (zT5 A xi xv xt) xi xv) 1 0))) H := by first | (rw [zT6_t (by unfold zP3 zEmpties; omega), ← zAnc_47 h5 _ _ _ _ _ (by decide)]; exact hP) | (rw [zT6_f (by unfold zP3 zEmpties; omega)]; exact hP)
        have hD : va_D A0 (zbat cs q (zU (zT6 A xi xv xt) 47 (zI_f (zEmpties (zT5 A xi xv xt) xi xv) 1 0))) := zD_addr hD rfl
        refine lv_aload_n hx hb dX1_treat_125 rfl (lv_at hl 1 rfl) ?_
        refine lv_iload_n hx hb dX1_treat_126 rfl (lv_at hl 3 rfl) ?_
        refine va_put (D := D) (ci := 1) (v := .int (zI xv)) (ty := .int) (C := RX1) (T := TX1) (N := 18) hx hb hts hiX1 tyX1 tyX1_ok nmX1 hown hK hP hD hS 0 rfl rfl 16 (by decide) (hts (.fieldLink RX1 87 "ChargeEstimator$Battery" "lastVoltage" "I") (List.mem_of_getElem? (i := 3) rfl)) (fun _ h9 => h9) rfl (by decide +kernel) rfl rfl (Nat.le_of_ble_eq_true rfl) dX1_treat_127 (fun H locs hP hD hS => ?_)
        have hP : va_P D vwCl (zbat cs q (zU (zU (zU (zT6 A xi xv xt) 47 (zI_f (zEmpties (zT5 A xi xv xt) xi xv) 1 0)) 45 1) 46 xv)) H := zbp_lv hP
        have hD : va_D A0 (zbat cs q (zU (zU (zU (zT6 A xi xv xt) 47 (zI_f (zEmpties (zT5 A xi xv xt) xi xv) 1 0)) 45 1) 46 xv)) := zD_addr hD rfl
        refine lv_iload hx hb dX1_treat_130 (lv_at hl 0 rfl) ?_
        have hP9 : va_P D vwCl (zbat cs q (zTr A xi xv xt)) H := hP
        have hD9 : va_D A0 (zbat cs q (zTr A xi xv xt)) := zD_addr hD rfl
        subst hAe
        exact W.iret hx hb hr (fun t ht hW => ⟨⟨_, (), rfl, (congrArg zI (show 2 = zBits A xi xv xt from by unfold zBits; (first | rw [zI_ft (P := zP1 A xi xv xt) (by first | assumption | (unfold zP1 zEmpties; omega))] | rw [zI_ff (P := zP1 A xi xv xt) (by first | assumption | (unfold zP1 zEmpties; omega))]); (first | rw [zI_ft (P := zP2 A xi xv xt) (by first | assumption | (unfold zP2 zEmpties; omega))] | rw [zI_ff (P := zP2 A xi xv xt) (by first | assumption | (unfold zP2 zEmpties; omega))]); (first | rw [zI_ft (P := zP3 A xi xv xt) (by first | assumption | (unfold zP3 zEmpties; omega))] | rw [zI_ff (P := zP3 A xi xv xt) (by first | assumption | (unfold zP3 zEmpties; omega))]); (first | done | rfl))), by rw [ht]; exact hP9, hD9⟩, hS.F ht⟩) hS.2.2 dX1_treat_132
      · refine lv_aload_n hx hb dX1_treat_114 rfl (lv_at hl 1 rfl) ?_
        refine zr_iconst hx hb dX1_treat_115 ?_
        refine zr_iconst hx hb dX1_treat_116 ?_
        refine zr_iconst hx hb dX1_treat_117 ?_
        refine zr_iconst hx hb dX1_treat_118 ?_
        refine zc_v (va_runV (As := [.int (zI 2), .int (zI 0), .int (zI 0), .int (zI 0)]) (rest := []) ⟨hx, hb, hml, hown, hts⟩ (met_X1_addAnchor l D cs q H.size _ (zEmp (zT5 A xi xv xt) xi xv) 2 0 0 0 (by exact hE) (by omega) (by first | assumption | omega) (by first | assumption | omega) (by first | assumption | omega) (by first | assumption | omega)) (cwV 4 hts gX1_treat_X1_addAnchor rfl rfl rfl (by decide +kernel) ⟨Nat.le_of_ble_eq_true rfl, Nat.le_of_ble_eq_true rfl⟩) ⟨zPreZ.blind, va_recv hK hP (ci := 1) (q0 := 0) rfl rfl, fun U hU hW => zp_Z hP hK hD hN hU hW⟩ rfl rfl hl.1 rfl (lv_room (Nat.le_of_ble_eq_true rfl)) dX1_treat_119 ⟨Nat.le_of_ble_eq_true rfl, Nat.le_of_ble_eq_true rfl⟩) hS hD hA (fun H locs hP hD hS => ?_)
        refine zr_iinc (kk := 0) (lv' := [(4, .int (zI 6)), (0, .ref (q 0)), (1, .int (zI xi)), (2, .int (zI xv)), (3, .int (zI xt))]) hx hb dX1_treat_122 hl rfl (by decide) rfl (fun ls hl => ?_)
        have hP : va_P D vwCl (zbat cs q (zU (zT6 A xi xv xt) 47 (zI_f (zEmpties (zT5 A xi xv xt) xi xv) 1 0))) H := by first | (rw [zT6_t (by unfold zP3 zEmpties; omega), ← zAnc_47 h5 _ _ _ _ _ (by decide)]; exact hP) | (rw [zT6_f (by unfold zP3 zEmpties; omega)]; exact hP)
        have hD : va_D A0 (zbat cs q (zU (zT6 A xi xv xt) 47 (zI_f (zEmpties (zT5 A xi xv xt) xi xv) 1 0))) := zD_addr hD rfl
        refine lv_aload_n hx hb dX1_treat_125 rfl (lv_at hl 1 rfl) ?_
        refine lv_iload_n hx hb dX1_treat_126 rfl (lv_at hl 3 rfl) ?_
        refine va_put (D := D) (ci := 1) (v := .int (zI xv)) (ty := .int) (C := RX1) (T := TX1) (N := 18) hx hb hts hiX1 tyX1 tyX1_ok nmX1 hown hK hP hD hS 0 rfl rfl 16 (by decide) (hts (.fieldLink RX1 87 "ChargeEstimator$Battery" "lastVoltage" "I") (List.mem_of_getElem? (i := 3) rfl)) (fun _ h9 => h9) rfl (by decide +kernel) rfl rfl (Nat.le_of_ble_eq_true rfl) dX1_treat_127 (fun H locs hP hD hS => ?_)
        have hP : va_P D vwCl (zbat cs q (zU (zU (zU (zT6 A xi xv xt) 47 (zI_f (zEmpties (zT5 A xi xv xt) xi xv) 1 0)) 45 1) 46 xv)) H := zbp_lv hP
        have hD : va_D A0 (zbat cs q (zU (zU (zU (zT6 A xi xv xt) 47 (zI_f (zEmpties (zT5 A xi xv xt) xi xv) 1 0)) 45 1) 46 xv)) := zD_addr hD rfl
        refine lv_iload hx hb dX1_treat_130 (lv_at hl 0 rfl) ?_
        have hP9 : va_P D vwCl (zbat cs q (zTr A xi xv xt)) H := hP
        have hD9 : va_D A0 (zbat cs q (zTr A xi xv xt)) := zD_addr hD rfl
        subst hAe
        exact W.iret hx hb hr (fun t ht hW => ⟨⟨_, (), rfl, (congrArg zI (show 6 = zBits A xi xv xt from by unfold zBits; (first | rw [zI_ft (P := zP1 A xi xv xt) (by first | assumption | (unfold zP1 zEmpties; omega))] | rw [zI_ff (P := zP1 A xi xv xt) (by first | assumption | (unfold zP1 zEmpties; omega))]); (first | rw [zI_ft (P := zP2 A xi xv xt) (by first | assumption | (unfold zP2 zEmpties; omega))] | rw [zI_ff (P := zP2 A xi xv xt) (by first | assumption | (unfold zP2 zEmpties; omega))]); (first | rw [zI_ft (P := zP3 A xi xv xt) (by first | assumption | (unfold zP3 zEmpties; omega))] | rw [zI_ff (P := zP3 A xi xv xt) (by first | assumption | (unfold zP3 zEmpties; omega))]); (first | done | rfl))), by rw [ht]; exact hP9, hD9⟩, hS.F ht⟩) hS.2.2 dX1_treat_132
  · refine lv_aload_n hx hb dX1_treat_19 rfl (lv_at hl 1 rfl) ?_
    refine va_get (D := D) (ci := 1) (v := .ref (q 1)) (C := RX1) (T := TX1) (N := 18) hx hb hts hiX1 hown hK hP 0 rfl rfl 0 (by decide) (hts (.fieldLink RX1 9 "ChargeEstimator$Battery" "settings" "[I") (List.mem_of_getElem? (i := 1) rfl)) (fun _ h9 => h9) rfl dX1_treat_20 ?_
    refine zr_bipush hx hb dX1_treat_23 (by decide) ?_
    refine zr_iald (D := D) (g := (zT2 A xi xv xt)) hx hb hK hP 1 0 rfl rfl (by decide) (by decide) dX1_treat_25 ?_
    refine lv_istore (lv' := [(5, .int (zI ((zT2 A xi xv xt) 7))), (4, .int (zI 0)), (0, .ref (q 0)), (1, .int (zI xi)), (2, .int (zI xv)), (3, .int (zI xt))]) hx hb dX1_treat_26 hl (by decide) rfl (fun ls hl => ?_)
    refine lv_aload_n hx hb dX1_treat_28 rfl (lv_at hl 2 rfl) ?_
    refine zc_ri (va_runV (As := []) (rest := []) ⟨hx, hb, hml, hown, hts⟩ (met_X1_hysteresisState l D cs q _ (zT2 A xi xv xt) (by exact h2) (by omega)) (cwV 0 hts gX1_treat_X1_hysteresisState rfl rfl rfl (by decide +kernel) ⟨Nat.le_of_ble_eq_true rfl, Nat.le_of_ble_eq_true rfl⟩) ⟨zPre.blind, va_recv hK hP (ci := 1) (q0 := 0) rfl rfl, fun U hU hW => zp_R hP hK hD hN hU hW⟩ rfl rfl hl.1 rfl (lv_room (Nat.le_of_ble_eq_true rfl)) dX1_treat_29 ⟨Nat.le_of_ble_eq_true rfl, Nat.le_of_ble_eq_true rfl⟩) ?_
    refine lv_istore (lv' := [(6, .int (zI (zHys (zT2 A xi xv xt)))), (5, .int (zI ((zT2 A xi xv xt) 7))), (4, .int (zI 0)), (0, .ref (q 0)), (1, .int (zI xi)), (2, .int (zI xv)), (3, .int (zI xt))]) hx hb dX1_treat_32 hl (by decide) rfl (fun ls hl => ?_)
    refine lv_aload_n hx hb dX1_treat_34 rfl (lv_at hl 3 rfl) ?_
    refine zr_iconst hx hb dX1_treat_35 ?_
    refine lv_aload_n hx hb dX1_treat_36 rfl (lv_at hl 3 rfl) ?_
    refine va_get (D := D) (ci := 1) (v := .ref (q 2)) (C := RX1) (T := TX1) (N := 18) hx hb hts hiX1 hown hK hP 0 rfl rfl 1 (by decide) (hts (.fieldLink RX1 18 "ChargeEstimator$Battery" "curves" "LChargeEstimator$Curves;") (List.mem_of_getElem? (i := 2) rfl)) (fun _ h9 => h9) rfl dX1_treat_37 ?_
    refine lv_iload_n hx hb dX1_treat_40 rfl (lv_at hl 5 rfl) ?_
    refine lv_iload hx hb dX1_treat_41 (lv_at hl 0 rfl) ?_
    refine zc_ri (va_runV (As := [.int (zI xv), .int (zI (zHys (zT2 A xi xv xt)))]) (rest := [.int (zI 0), .ref (q 0)]) ⟨hx, hb, hml, hown, hts⟩ (met_X2_socAt l D cs q _ (zT2 A xi xv xt) xv (zHys (zT2 A xi xv xt)) (by exact h2) (by omega) (by first | assumption | omega) (by first | assumption | omega)) (cwV 2 hts gX1_treat_X2_socAt rfl rfl rfl (by decide +kernel) ⟨Nat.le_of_ble_eq_true rfl, Nat.le_of_ble_eq_true rfl⟩) ⟨zPre.blind, va_recv hK hP (ci := 2) (q0 := 2) rfl rfl, fun U hU hW => zp_R hP hK hD hN hU hW⟩ rfl rfl hl.1 rfl (lv_room (Nat.le_of_ble_eq_true rfl)) dX1_treat_43 ⟨Nat.le_of_ble_eq_true rfl, Nat.le_of_ble_eq_true rfl⟩) ?_
    refine lv_aload_n hx hb dX1_treat_46 rfl (lv_at hl 3 rfl) ?_
    refine va_get (D := D) (ci := 1) (v := .ref (q 2)) (C := RX1) (T := TX1) (N := 18) hx hb hts hiX1 hown hK hP 0 rfl rfl 1 (by decide) (hts (.fieldLink RX1 18 "ChargeEstimator$Battery" "curves" "LChargeEstimator$Curves;") (List.mem_of_getElem? (i := 2) rfl)) (fun _ h9 => h9) rfl dX1_treat_47 ?_
    refine lv_iload_n hx hb dX1_treat_50 rfl (lv_at hl 5 rfl) ?_
    refine lv_iload hx hb dX1_treat_51 (lv_at hl 1 rfl) ?_
    refine zr_isub hx hb dX1_treat_53 ?_
    refine lv_iload hx hb dX1_treat_54 (lv_at hl 0 rfl) ?_
    refine zc_ri (va_runV (As := [.int (zI (xv - ((zT2 A xi xv xt) 7))), .int (zI (zHys (zT2 A xi xv xt)))]) (rest := [.int (zI (zInv (zT2 A xi xv xt) xv (zHys (zT2 A xi xv xt)))), .int (zI 0), .ref (q 0)]) ⟨hx, hb, hml, hown, hts⟩ (met_X2_socAt l D cs q _ (zT2 A xi xv xt) (xv - ((zT2 A xi xv xt) 7)) (zHys (zT2 A xi xv xt)) (by exact h2) (by omega) (by first | assumption | omega) (by first | assumption | omega)) (cwV 2 hts gX1_treat_X2_socAt rfl rfl rfl (by decide +kernel) ⟨Nat.le_of_ble_eq_true rfl, Nat.le_of_ble_eq_true rfl⟩) ⟨zPre.blind, va_recv hK hP (ci := 2) (q0 := 2) rfl rfl, fun U hU hW => zp_R hP hK hD hN hU hW⟩ rfl rfl hl.1 rfl (lv_room (Nat.le_of_ble_eq_true rfl)) dX1_treat_56 ⟨Nat.le_of_ble_eq_true rfl, Nat.le_of_ble_eq_true rfl⟩) ?_
    refine lv_aload_n hx hb dX1_treat_59 rfl (lv_at hl 3 rfl) ?_
    refine va_get (D := D) (ci := 1) (v := .ref (q 2)) (C := RX1) (T := TX1) (N := 18) hx hb hts hiX1 hown hK hP 0 rfl rfl 1 (by decide) (hts (.fieldLink RX1 18 "ChargeEstimator$Battery" "curves" "LChargeEstimator$Curves;") (List.mem_of_getElem? (i := 2) rfl)) (fun _ h9 => h9) rfl dX1_treat_60 ?_
    refine lv_iload_n hx hb dX1_treat_63 rfl (lv_at hl 5 rfl) ?_
    refine lv_iload hx hb dX1_treat_64 (lv_at hl 1 rfl) ?_
    refine zr_iadd hx hb dX1_treat_66 ?_
    refine lv_iload hx hb dX1_treat_67 (lv_at hl 0 rfl) ?_
    refine zc_ri (va_runV (As := [.int (zI (xv + ((zT2 A xi xv xt) 7))), .int (zI (zHys (zT2 A xi xv xt)))]) (rest := [.int (zI (zInv (zT2 A xi xv xt) (xv - ((zT2 A xi xv xt) 7)) (zHys (zT2 A xi xv xt)))), .int (zI (zInv (zT2 A xi xv xt) xv (zHys (zT2 A xi xv xt)))), .int (zI 0), .ref (q 0)]) ⟨hx, hb, hml, hown, hts⟩ (met_X2_socAt l D cs q _ (zT2 A xi xv xt) (xv + ((zT2 A xi xv xt) 7)) (zHys (zT2 A xi xv xt)) (by exact h2) (by omega) (by first | assumption | omega) (by first | assumption | omega)) (cwV 2 hts gX1_treat_X2_socAt rfl rfl rfl (by decide +kernel) ⟨Nat.le_of_ble_eq_true rfl, Nat.le_of_ble_eq_true rfl⟩) ⟨zPre.blind, va_recv hK hP (ci := 2) (q0 := 2) rfl rfl, fun U hU hW => zp_R hP hK hD hN hU hW⟩ rfl rfl hl.1 rfl (lv_room (Nat.le_of_ble_eq_true rfl)) dX1_treat_69 ⟨Nat.le_of_ble_eq_true rfl, Nat.le_of_ble_eq_true rfl⟩) ?_
    refine zc_v (va_runV (As := [.int (zI 0), .int (zI (zInv (zT2 A xi xv xt) xv (zHys (zT2 A xi xv xt)))), .int (zI (zInv (zT2 A xi xv xt) (xv - ((zT2 A xi xv xt) 7)) (zHys (zT2 A xi xv xt)))), .int (zI (zInv (zT2 A xi xv xt) (xv + ((zT2 A xi xv xt) 7)) (zHys (zT2 A xi xv xt))))]) (rest := []) ⟨hx, hb, hml, hown, hts⟩ (met_X1_addAnchor l D cs q H.size _ (zT2 A xi xv xt) 0 (zInv (zT2 A xi xv xt) xv (zHys (zT2 A xi xv xt))) (zInv (zT2 A xi xv xt) (xv - ((zT2 A xi xv xt) 7)) (zHys (zT2 A xi xv xt))) (zInv (zT2 A xi xv xt) (xv + ((zT2 A xi xv xt) 7)) (zHys (zT2 A xi xv xt))) (by exact h2) (by omega) (by first | assumption | omega) (by first | assumption | omega) (by exact ia.1) (by exact ⟨ib.1.1, id9, ic.1.2⟩)) (cwV 4 hts gX1_treat_X1_addAnchor rfl rfl rfl (by decide +kernel) ⟨Nat.le_of_ble_eq_true rfl, Nat.le_of_ble_eq_true rfl⟩) ⟨zPreZ.blind, va_recv hK hP (ci := 1) (q0 := 0) rfl rfl, fun U hU hW => zp_Z hP hK hD hN hU hW⟩ rfl rfl hl.1 rfl (lv_room (Nat.le_of_ble_eq_true rfl)) dX1_treat_72 ⟨Nat.le_of_ble_eq_true rfl, Nat.le_of_ble_eq_true rfl⟩) hS hD hA (fun H locs hP hD hS => ?_)
    refine zr_iinc (kk := 2) (lv' := [(4, .int (zI 1)), (6, .int (zI (zHys (zT2 A xi xv xt)))), (5, .int (zI ((zT2 A xi xv xt) 7))), (0, .ref (q 0)), (1, .int (zI xi)), (2, .int (zI xv)), (3, .int (zI xt))]) hx hb dX1_treat_75 hl rfl (by decide) rfl (fun ls hl => ?_)
    have hP : va_P D vwCl (zbat cs q (zT3 A xi xv xt)) H := by first | (rw [zT3_t (by assumption)]; exact hP) | (rw [zT3_f (by assumption)]; exact hP)
    have hD : va_D A0 (zbat cs q (zT3 A xi xv xt)) := zD_addr hD rfl
    refine lv_aload_n hx hb dX1_treat_78 rfl (lv_at hl 3 rfl) ?_
    refine lv_iload_n hx hb dX1_treat_79 rfl (lv_at hl 4 rfl) ?_
    refine lv_iload_n hx hb dX1_treat_80 rfl (lv_at hl 5 rfl) ?_
    refine lv_iload_n hx hb dX1_treat_81 rfl (lv_at hl 6 rfl) ?_
    refine zc_i (va_runV (As := [.int (zI xi), .int (zI xv), .int (zI xt)]) (rest := []) ⟨hx, hb, hml, hown, hts⟩ (met_X1_fullIsReached l D cs q H.size _ (zT3 A xi xv xt) xi xv xt (by exact h3) (by omega) (by first | assumption | omega) (by first | assumption | omega) (by first | assumption | omega)) (cwV 3 hts gX1_treat_X1_fullIsReached rfl rfl rfl (by decide +kernel) ⟨Nat.le_of_ble_eq_true rfl, Nat.le_of_ble_eq_true rfl⟩) ⟨zPreZ.blind, va_recv hK hP (ci := 1) (q0 := 0) rfl rfl, fun U hU hW => zp_Z hP hK hD hN hU hW⟩ rfl rfl hl.1 rfl (lv_room (Nat.le_of_ble_eq_true rfl)) dX1_treat_82 ⟨Nat.le_of_ble_eq_true rfl, Nat.le_of_ble_eq_true rfl⟩) hS hD hA (fun H locs hP hD hS => ?_)
    have hP : va_P D vwCl (zbat cs q (zT4 A xi xv xt)) H := hP
    have hD : va_D A0 (zbat cs q (zT4 A xi xv xt)) := zD_addr hD rfl
    refine zr_ifb_eq (tgt := 105) hx hb dX1_treat_85 (by decide) (fun c5 => ?_) (fun c5 => ?_)
    · have hP : va_P D vwCl (zbat cs q (zT5 A xi xv xt)) H := by first | (rw [zT5_t (by assumption)]; exact hP) | (rw [zT5_f (by assumption)]; exact hP)
      have hD : va_D A0 (zbat cs q (zT5 A xi xv xt)) := zD_addr hD rfl
      refine lv_aload_n hx hb dX1_treat_105 rfl (lv_at hl 3 rfl) ?_
      refine lv_iload_n hx hb dX1_treat_106 rfl (lv_at hl 4 rfl) ?_
      refine lv_iload_n hx hb dX1_treat_107 rfl (lv_at hl 5 rfl) ?_
      refine zc_i (va_runV (As := [.int (zI xi), .int (zI xv)]) (rest := []) ⟨hx, hb, hml, hown, hts⟩ (met_X1_emptyIsReached l D cs q H.size _ (zT5 A xi xv xt) xi xv (by exact h5) (by omega) (by first | assumption | omega) (by first | assumption | omega)) (cwV 2 hts gX1_treat_X1_emptyIsReached rfl rfl rfl (by decide +kernel) ⟨Nat.le_of_ble_eq_true rfl, Nat.le_of_ble_eq_true rfl⟩) ⟨zPreZ.blind, va_recv hK hP (ci := 1) (q0 := 0) rfl rfl, fun U hU hW => zp_Z hP hK hD hN hU hW⟩ rfl rfl hl.1 rfl (lv_room (Nat.le_of_ble_eq_true rfl)) dX1_treat_108 ⟨Nat.le_of_ble_eq_true rfl, Nat.le_of_ble_eq_true rfl⟩) hS hD hA (fun H locs hP hD hS => ?_)
      refine zr_ifb_eq (tgt := 125) hx hb dX1_treat_111 (by decide) (fun c6 => ?_) (fun c6 => ?_)
      · have hP : va_P D vwCl (zbat cs q (zU (zT6 A xi xv xt) 47 (zI_f (zEmpties (zT5 A xi xv xt) xi xv) 1 0))) H := by first | (rw [zT6_t (by unfold zP3 zEmpties; omega), ← zAnc_47 h5 _ _ _ _ _ (by decide)]; exact hP) | (rw [zT6_f (by unfold zP3 zEmpties; omega)]; exact hP)
        have hD : va_D A0 (zbat cs q (zU (zT6 A xi xv xt) 47 (zI_f (zEmpties (zT5 A xi xv xt) xi xv) 1 0))) := zD_addr hD rfl
        refine lv_aload_n hx hb dX1_treat_125 rfl (lv_at hl 3 rfl) ?_
        refine lv_iload_n hx hb dX1_treat_126 rfl (lv_at hl 5 rfl) ?_
        refine va_put (D := D) (ci := 1) (v := .int (zI xv)) (ty := .int) (C := RX1) (T := TX1) (N := 18) hx hb hts hiX1 tyX1 tyX1_ok nmX1 hown hK hP hD hS 0 rfl rfl 16 (by decide) (hts (.fieldLink RX1 87 "ChargeEstimator$Battery" "lastVoltage" "I") (List.mem_of_getElem? (i := 3) rfl)) (fun _ h9 => h9) rfl (by decide +kernel) rfl rfl (Nat.le_of_ble_eq_true rfl) dX1_treat_127 (fun H locs hP hD hS => ?_)
        have hP : va_P D vwCl (zbat cs q (zU (zU (zU (zT6 A xi xv xt) 47 (zI_f (zEmpties (zT5 A xi xv xt) xi xv) 1 0)) 45 1) 46 xv)) H := zbp_lv hP
        have hD : va_D A0 (zbat cs q (zU (zU (zU (zT6 A xi xv xt) 47 (zI_f (zEmpties (zT5 A xi xv xt) xi xv) 1 0)) 45 1) 46 xv)) := zD_addr hD rfl
        refine lv_iload hx hb dX1_treat_130 (lv_at hl 0 rfl) ?_
        have hP9 : va_P D vwCl (zbat cs q (zTr A xi xv xt)) H := hP
        have hD9 : va_D A0 (zbat cs q (zTr A xi xv xt)) := zD_addr hD rfl
        subst hAe
        exact W.iret hx hb hr (fun t ht hW => ⟨⟨_, (), rfl, (congrArg zI (show 1 = zBits A xi xv xt from by unfold zBits; (first | rw [zI_ft (P := zP1 A xi xv xt) (by first | assumption | (unfold zP1 zEmpties; omega))] | rw [zI_ff (P := zP1 A xi xv xt) (by first | assumption | (unfold zP1 zEmpties; omega))]); (first | rw [zI_ft (P := zP2 A xi xv xt) (by first | assumption | (unfold zP2 zEmpties; omega))] | rw [zI_ff (P := zP2 A xi xv xt) (by first | assumption | (unfold zP2 zEmpties; omega))]); (first | rw [zI_ft (P := zP3 A xi xv xt) (by first | assumption | (unfold zP3 zEmpties; omega))] | rw [zI_ff (P := zP3 A xi xv xt) (by first | assumption | (unfold zP3 zEmpties; omega))]); (first | done | rfl))), by rw [ht]; exact hP9, hD9⟩, hS.F ht⟩) hS.2.2 dX1_treat_132
      · refine lv_aload_n hx hb dX1_treat_114 rfl (lv_at hl 3 rfl) ?_
        refine zr_iconst hx hb dX1_treat_115 ?_
        refine zr_iconst hx hb dX1_treat_116 ?_
        refine zr_iconst hx hb dX1_treat_117 ?_
        refine zr_iconst hx hb dX1_treat_118 ?_
        refine zc_v (va_runV (As := [.int (zI 2), .int (zI 0), .int (zI 0), .int (zI 0)]) (rest := []) ⟨hx, hb, hml, hown, hts⟩ (met_X1_addAnchor l D cs q H.size _ (zEmp (zT5 A xi xv xt) xi xv) 2 0 0 0 (by exact hE) (by omega) (by first | assumption | omega) (by first | assumption | omega) (by first | assumption | omega) (by first | assumption | omega)) (cwV 4 hts gX1_treat_X1_addAnchor rfl rfl rfl (by decide +kernel) ⟨Nat.le_of_ble_eq_true rfl, Nat.le_of_ble_eq_true rfl⟩) ⟨zPreZ.blind, va_recv hK hP (ci := 1) (q0 := 0) rfl rfl, fun U hU hW => zp_Z hP hK hD hN hU hW⟩ rfl rfl hl.1 rfl (lv_room (Nat.le_of_ble_eq_true rfl)) dX1_treat_119 ⟨Nat.le_of_ble_eq_true rfl, Nat.le_of_ble_eq_true rfl⟩) hS hD hA (fun H locs hP hD hS => ?_)
        refine zr_iinc (kk := 0) (lv' := [(4, .int (zI 5)), (6, .int (zI (zHys (zT2 A xi xv xt)))), (5, .int (zI ((zT2 A xi xv xt) 7))), (0, .ref (q 0)), (1, .int (zI xi)), (2, .int (zI xv)), (3, .int (zI xt))]) hx hb dX1_treat_122 hl rfl (by decide) rfl (fun ls hl => ?_)
        have hP : va_P D vwCl (zbat cs q (zU (zT6 A xi xv xt) 47 (zI_f (zEmpties (zT5 A xi xv xt) xi xv) 1 0))) H := by first | (rw [zT6_t (by unfold zP3 zEmpties; omega), ← zAnc_47 h5 _ _ _ _ _ (by decide)]; exact hP) | (rw [zT6_f (by unfold zP3 zEmpties; omega)]; exact hP)
        have hD : va_D A0 (zbat cs q (zU (zT6 A xi xv xt) 47 (zI_f (zEmpties (zT5 A xi xv xt) xi xv) 1 0))) := zD_addr hD rfl
        refine lv_aload_n hx hb dX1_treat_125 rfl (lv_at hl 3 rfl) ?_
        refine lv_iload_n hx hb dX1_treat_126 rfl (lv_at hl 5 rfl) ?_
        refine va_put (D := D) (ci := 1) (v := .int (zI xv)) (ty := .int) (C := RX1) (T := TX1) (N := 18) hx hb hts hiX1 tyX1 tyX1_ok nmX1 hown hK hP hD hS 0 rfl rfl 16 (by decide) (hts (.fieldLink RX1 87 "ChargeEstimator$Battery" "lastVoltage" "I") (List.mem_of_getElem? (i := 3) rfl)) (fun _ h9 => h9) rfl (by decide +kernel) rfl rfl (Nat.le_of_ble_eq_true rfl) dX1_treat_127 (fun H locs hP hD hS => ?_)
        have hP : va_P D vwCl (zbat cs q (zU (zU (zU (zT6 A xi xv xt) 47 (zI_f (zEmpties (zT5 A xi xv xt) xi xv) 1 0)) 45 1) 46 xv)) H := zbp_lv hP
        have hD : va_D A0 (zbat cs q (zU (zU (zU (zT6 A xi xv xt) 47 (zI_f (zEmpties (zT5 A xi xv xt) xi xv) 1 0)) 45 1) 46 xv)) := zD_addr hD rfl
        refine lv_iload hx hb dX1_treat_130 (lv_at hl 0 rfl) ?_
        have hP9 : va_P D vwCl (zbat cs q (zTr A xi xv xt)) H := hP
        have hD9 : va_D A0 (zbat cs q (zTr A xi xv xt)) := zD_addr hD rfl
        subst hAe
        exact W.iret hx hb hr (fun t ht hW => ⟨⟨_, (), rfl, (congrArg zI (show 5 = zBits A xi xv xt from by unfold zBits; (first | rw [zI_ft (P := zP1 A xi xv xt) (by first | assumption | (unfold zP1 zEmpties; omega))] | rw [zI_ff (P := zP1 A xi xv xt) (by first | assumption | (unfold zP1 zEmpties; omega))]); (first | rw [zI_ft (P := zP2 A xi xv xt) (by first | assumption | (unfold zP2 zEmpties; omega))] | rw [zI_ff (P := zP2 A xi xv xt) (by first | assumption | (unfold zP2 zEmpties; omega))]); (first | rw [zI_ft (P := zP3 A xi xv xt) (by first | assumption | (unfold zP3 zEmpties; omega))] | rw [zI_ff (P := zP3 A xi xv xt) (by first | assumption | (unfold zP3 zEmpties; omega))]); (first | done | rfl))), by rw [ht]; exact hP9, hD9⟩, hS.F ht⟩) hS.2.2 dX1_treat_132
    · refine lv_aload_n hx hb dX1_treat_88 rfl (lv_at hl 3 rfl) ?_
      refine zr_iconst hx hb dX1_treat_89 ?_
      refine zr_sipush hx hb dX1_treat_90 (by decide) ?_
      refine zr_sipush hx hb dX1_treat_93 (by decide) ?_
      refine zr_sipush hx hb dX1_treat_96 (by decide) ?_
      refine zc_v (va_runV (As := [.int (zI 1), .int (zI 10000), .int (zI 10000), .int (zI 10000)]) (rest := []) ⟨hx, hb, hml, hown, hts⟩ (met_X1_addAnchor l D cs q H.size _ (zT4 A xi xv xt) 1 10000 10000 10000 (by exact h4) (by omega) (by first | assumption | omega) (by first | assumption | omega) (by first | assumption | omega) (by first | assumption | omega)) (cwV 4 hts gX1_treat_X1_addAnchor rfl rfl rfl (by decide +kernel) ⟨Nat.le_of_ble_eq_true rfl, Nat.le_of_ble_eq_true rfl⟩) ⟨zPreZ.blind, va_recv hK hP (ci := 1) (q0 := 0) rfl rfl, fun U hU hW => zp_Z hP hK hD hN hU hW⟩ rfl rfl hl.1 rfl (lv_room (Nat.le_of_ble_eq_true rfl)) dX1_treat_99 ⟨Nat.le_of_ble_eq_true rfl, Nat.le_of_ble_eq_true rfl⟩) hS hD hA (fun H locs hP hD hS => ?_)
      refine zr_iinc (kk := 0) (lv' := [(4, .int (zI 3)), (6, .int (zI (zHys (zT2 A xi xv xt)))), (5, .int (zI ((zT2 A xi xv xt) 7))), (0, .ref (q 0)), (1, .int (zI xi)), (2, .int (zI xv)), (3, .int (zI xt))]) hx hb dX1_treat_102 hl rfl (by decide) rfl (fun ls hl => ?_)
      have hP : va_P D vwCl (zbat cs q (zT5 A xi xv xt)) H := by first | (rw [zT5_t (by assumption)]; exact hP) | (rw [zT5_f (by assumption)]; exact hP)
      have hD : va_D A0 (zbat cs q (zT5 A xi xv xt)) := zD_addr hD rfl
      refine lv_aload_n hx hb dX1_treat_105 rfl (lv_at hl 3 rfl) ?_
      refine lv_iload_n hx hb dX1_treat_106 rfl (lv_at hl 4 rfl) ?_
      refine lv_iload_n hx hb dX1_treat_107 rfl (lv_at hl 5 rfl) ?_
      refine zc_i (va_runV (As := [.int (zI xi), .int (zI xv)]) (rest := []) ⟨hx, hb, hml, hown, hts⟩ (met_X1_emptyIsReached l D cs q H.size _ (zT5 A xi xv xt) xi xv (by exact h5) (by omega) (by first | assumption | omega) (by first | assumption | omega)) (cwV 2 hts gX1_treat_X1_emptyIsReached rfl rfl rfl (by decide +kernel) ⟨Nat.le_of_ble_eq_true rfl, Nat.le_of_ble_eq_true rfl⟩) ⟨zPreZ.blind, va_recv hK hP (ci := 1) (q0 := 0) rfl rfl, fun U hU hW => zp_Z hP hK hD hN hU hW⟩ rfl rfl hl.1 rfl (lv_room (Nat.le_of_ble_eq_true rfl)) dX1_treat_108 ⟨Nat.le_of_ble_eq_true rfl, Nat.le_of_ble_eq_true rfl⟩) hS hD hA (fun H locs hP hD hS => ?_)
      refine zr_ifb_eq (tgt := 125) hx hb dX1_treat_111 (by decide) (fun c7 => ?_) (fun c7 => ?_)
      · have hP : va_P D vwCl (zbat cs q (zU (zT6 A xi xv xt) 47 (zI_f (zEmpties (zT5 A xi xv xt) xi xv) 1 0))) H := by first | (rw [zT6_t (by unfold zP3 zEmpties; omega), ← zAnc_47 h5 _ _ _ _ _ (by decide)]; exact hP) | (rw [zT6_f (by unfold zP3 zEmpties; omega)]; exact hP)
        have hD : va_D A0 (zbat cs q (zU (zT6 A xi xv xt) 47 (zI_f (zEmpties (zT5 A xi xv xt) xi xv) 1 0))) := zD_addr hD rfl
        refine lv_aload_n hx hb dX1_treat_125 rfl (lv_at hl 3 rfl) ?_
        refine lv_iload_n hx hb dX1_treat_126 rfl (lv_at hl 5 rfl) ?_
        refine va_put (D := D) (ci := 1) (v := .int (zI xv)) (ty := .int) (C := RX1) (T := TX1) (N := 18) hx hb hts hiX1 tyX1 tyX1_ok nmX1 hown hK hP hD hS 0 rfl rfl 16 (by decide) (hts (.fieldLink RX1 87 "ChargeEstimator$Battery" "lastVoltage" "I") (List.mem_of_getElem? (i := 3) rfl)) (fun _ h9 => h9) rfl (by decide +kernel) rfl rfl (Nat.le_of_ble_eq_true rfl) dX1_treat_127 (fun H locs hP hD hS => ?_)
        have hP : va_P D vwCl (zbat cs q (zU (zU (zU (zT6 A xi xv xt) 47 (zI_f (zEmpties (zT5 A xi xv xt) xi xv) 1 0)) 45 1) 46 xv)) H := zbp_lv hP
        have hD : va_D A0 (zbat cs q (zU (zU (zU (zT6 A xi xv xt) 47 (zI_f (zEmpties (zT5 A xi xv xt) xi xv) 1 0)) 45 1) 46 xv)) := zD_addr hD rfl
        refine lv_iload hx hb dX1_treat_130 (lv_at hl 0 rfl) ?_
        have hP9 : va_P D vwCl (zbat cs q (zTr A xi xv xt)) H := hP
        have hD9 : va_D A0 (zbat cs q (zTr A xi xv xt)) := zD_addr hD rfl
        subst hAe
        exact W.iret hx hb hr (fun t ht hW => ⟨⟨_, (), rfl, (congrArg zI (show 3 = zBits A xi xv xt from by unfold zBits; (first | rw [zI_ft (P := zP1 A xi xv xt) (by first | assumption | (unfold zP1 zEmpties; omega))] | rw [zI_ff (P := zP1 A xi xv xt) (by first | assumption | (unfold zP1 zEmpties; omega))]); (first | rw [zI_ft (P := zP2 A xi xv xt) (by first | assumption | (unfold zP2 zEmpties; omega))] | rw [zI_ff (P := zP2 A xi xv xt) (by first | assumption | (unfold zP2 zEmpties; omega))]); (first | rw [zI_ft (P := zP3 A xi xv xt) (by first | assumption | (unfold zP3 zEmpties; omega))] | rw [zI_ff (P := zP3 A xi xv xt) (by first | assumption | (unfold zP3 zEmpties; omega))]); (first | done | rfl))), by rw [ht]; exact hP9, hD9⟩, hS.F ht⟩) hS.2.2 dX1_treat_132
      · refine lv_aload_n hx hb dX1_treat_114 rfl (lv_at hl 3 rfl) ?_
        refine zr_iconst hx hb dX1_treat_115 ?_
        refine zr_iconst hx hb dX1_treat_116 ?_
        refine zr_iconst hx hb dX1_treat_117 ?_
        refine zr_iconst hx hb dX1_treat_118 ?_
        refine zc_v (va_runV (As := [.int (zI 2), .int (zI 0), .int (zI 0), .int (zI 0)]) (rest := []) ⟨hx, hb, hml, hown, hts⟩ (met_X1_addAnchor l D cs q H.size _ (zEmp (zT5 A xi xv xt) xi xv) 2 0 0 0 (by exact hE) (by omega) (by first | assumption | omega) (by first | assumption | omega) (by first | assumption | omega) (by first | assumption | omega)) (cwV 4 hts gX1_treat_X1_addAnchor rfl rfl rfl (by decide +kernel) ⟨Nat.le_of_ble_eq_true rfl, Nat.le_of_ble_eq_true rfl⟩) ⟨zPreZ.blind, va_recv hK hP (ci := 1) (q0 := 0) rfl rfl, fun U hU hW => zp_Z hP hK hD hN hU hW⟩ rfl rfl hl.1 rfl (lv_room (Nat.le_of_ble_eq_true rfl)) dX1_treat_119 ⟨Nat.le_of_ble_eq_true rfl, Nat.le_of_ble_eq_true rfl⟩) hS hD hA (fun H locs hP hD hS => ?_)
        refine zr_iinc (kk := 0) (lv' := [(4, .int (zI 7)), (6, .int (zI (zHys (zT2 A xi xv xt)))), (5, .int (zI ((zT2 A xi xv xt) 7))), (0, .ref (q 0)), (1, .int (zI xi)), (2, .int (zI xv)), (3, .int (zI xt))]) hx hb dX1_treat_122 hl rfl (by decide) rfl (fun ls hl => ?_)
        have hP : va_P D vwCl (zbat cs q (zU (zT6 A xi xv xt) 47 (zI_f (zEmpties (zT5 A xi xv xt) xi xv) 1 0))) H := by first | (rw [zT6_t (by unfold zP3 zEmpties; omega), ← zAnc_47 h5 _ _ _ _ _ (by decide)]; exact hP) | (rw [zT6_f (by unfold zP3 zEmpties; omega)]; exact hP)
        have hD : va_D A0 (zbat cs q (zU (zT6 A xi xv xt) 47 (zI_f (zEmpties (zT5 A xi xv xt) xi xv) 1 0))) := zD_addr hD rfl
        refine lv_aload_n hx hb dX1_treat_125 rfl (lv_at hl 3 rfl) ?_
        refine lv_iload_n hx hb dX1_treat_126 rfl (lv_at hl 5 rfl) ?_
        refine va_put (D := D) (ci := 1) (v := .int (zI xv)) (ty := .int) (C := RX1) (T := TX1) (N := 18) hx hb hts hiX1 tyX1 tyX1_ok nmX1 hown hK hP hD hS 0 rfl rfl 16 (by decide) (hts (.fieldLink RX1 87 "ChargeEstimator$Battery" "lastVoltage" "I") (List.mem_of_getElem? (i := 3) rfl)) (fun _ h9 => h9) rfl (by decide +kernel) rfl rfl (Nat.le_of_ble_eq_true rfl) dX1_treat_127 (fun H locs hP hD hS => ?_)
        have hP : va_P D vwCl (zbat cs q (zU (zU (zU (zT6 A xi xv xt) 47 (zI_f (zEmpties (zT5 A xi xv xt) xi xv) 1 0)) 45 1) 46 xv)) H := zbp_lv hP
        have hD : va_D A0 (zbat cs q (zU (zU (zU (zT6 A xi xv xt) 47 (zI_f (zEmpties (zT5 A xi xv xt) xi xv) 1 0)) 45 1) 46 xv)) := zD_addr hD rfl
        refine lv_iload hx hb dX1_treat_130 (lv_at hl 0 rfl) ?_
        have hP9 : va_P D vwCl (zbat cs q (zTr A xi xv xt)) H := hP
        have hD9 : va_D A0 (zbat cs q (zTr A xi xv xt)) := zD_addr hD rfl
        subst hAe
        exact W.iret hx hb hr (fun t ht hW => ⟨⟨_, (), rfl, (congrArg zI (show 7 = zBits A xi xv xt from by unfold zBits; (first | rw [zI_ft (P := zP1 A xi xv xt) (by first | assumption | (unfold zP1 zEmpties; omega))] | rw [zI_ff (P := zP1 A xi xv xt) (by first | assumption | (unfold zP1 zEmpties; omega))]); (first | rw [zI_ft (P := zP2 A xi xv xt) (by first | assumption | (unfold zP2 zEmpties; omega))] | rw [zI_ff (P := zP2 A xi xv xt) (by first | assumption | (unfold zP2 zEmpties; omega))]); (first | rw [zI_ft (P := zP3 A xi xv xt) (by first | assumption | (unfold zP3 zEmpties; omega))] | rw [zI_ff (P := zP3 A xi xv xt) (by first | assumption | (unfold zP3 zEmpties; omega))]); (first | done | rfl))), by rw [ht]; exact hP9, hD9⟩, hS.F ht⟩) hS.2.2 dX1_treat_132
