/-! the reference: beginnings, settings, measurements, predictions, undo, hash -/
def zZe (A : Int → Int) (j : Int) : Int → Int := fun k => if 34 ≤ k ∧ k < j then 0 else A k
theorem zZe_0 (A : Int → Int) : zZe A 34 = A := by funext k; unfold zZe; rw [if_neg (by omega)]
theorem zZe_s (A : Int → Int) {j : Int} (h : 34 ≤ j) : zU (zZe A j) j 0 = zZe A (j + 1) := by
  funext k; simp only [zU, zZe]
  by_cases h1 : k = j
  · rw [if_pos h1, if_pos (by omega)]
  · rw [if_neg h1]
    by_cases h2 : 34 ≤ k ∧ k < j
    · rw [if_pos h2, if_pos (by omega)]
    · rw [if_neg h2, if_neg (by omega)]
theorem zZe_e (A : Int → Int) : zZe A 53 = zZer A := by
  funext k; unfold zZe zZer
  by_cases h2 : 34 ≤ k ∧ k < 53
  · rw [if_pos h2, if_pos (by omega)]
  · rw [if_neg h2, if_neg (by omega)]
def zBeg (A : Int → Int) (c h : Int) : Int → Int := if h = -1 then zNew A (3600 * c) else zAtS (zNew A (3600 * c)) h
theorem zBeg_t {A : Int → Int} {c h : Int} (e : h = -1) : zBeg A c h = zU (zU (zU (zU (zU (zZer A) 38 (3600 * c)) 37 (3600 * c)) 34 (3600 * c / 2)) 35 0) 36 (3600 * c) := by unfold zBeg; rw [if_pos e]; rfl
theorem zBeg_f {A : Int → Int} {c h : Int} (e : h ≠ -1) : zBeg A c h = zU (zU (zU (zU (zU (zZer A) 38 (3600 * c)) 37 (3600 * c)) 34 (3600 * c * h / 10000)) 35 (3600 * c * h / 10000)) 36 (3600 * c * h / 10000) := by
  unfold zBeg; rw [if_neg e]
  show zU (zU (zU (zU (zU (zU (zU (zU (zZer A) 38 (3600 * c)) 37 (3600 * c)) 34 (3600 * c / 2)) 35 0) 36 (3600 * c)) 34 (3600 * c * h / 10000)) 35 (3600 * c * h / 10000)) 36 (3600 * c * h / 10000) = _
  funext k; simp only [zU]
  by_cases h1 : k = 36 <;> by_cases h2 : k = 35 <;> by_cases h3 : k = 34 <;> simp [h1, h2, h3]
theorem zmod_ext {D : va_G} {cs : Nat → ClassId} {o : Nat → Nat} {A A2 S T : Int → Int} {xsm xth xam : Int} {f : Int → Int} {xtl xpl : Int} {g : Int → Int} {H : Heap} (h : va_P D vwCl (zmod cs o A S T xsm xth xam f xtl xpl g) H) (e : ∀ k : Int, 0 ≤ k → k < 213 → A k = A2 k) : va_P D vwCl (zmod cs o A2 S T xsm xth xam f xtl xpl g) H := by
  obtain ⟨h0, h1⟩ := zP_cons.mp h
  obtain ⟨h1, h2⟩ := zP_cons.mp h1
  exact zP_cons.mpr ⟨h0, zP_cons.mpr ⟨zat_l h1 e, h2⟩⟩
set_option maxHeartbeats 4000000 in
set_option maxRecDepth 100000 in
theorem met_X6_begins (l : Launch) (D : va_G) (cs : Nat → ClassId) (o : Nat → Nat) (sz : Nat) (A S T : Int → Int) (xsm xth xam : Int) (f : Int → Int) (xtl xpl : Int) (g : Int → Int) (xc xh : Int) (kxc : 100 ≤ xc ∧ xc ≤ 20000) (kxh : -1 ≤ xh ∧ xh ≤ 10000) : Met l yX6_begins wsX6_begins ({ frames := 1, cells := 0, slots := 0, locals := 23 }) (va_Pc [.ref (o 0), .long (zL xc), .long (zL xh)] (zPreZ D (zTy cs) (zmod cs o A S T xsm xth xam f xtl xpl g) sz)) (zQv D (zmod cs o A S T xsm xth xam f xtl xpl g) sz (zmod cs o (zBeg A xc xh) S T xsm xth xam f xtl xpl g)) 0 0 (va_A (zmod cs o A S T xsm xth xam f xtl xpl g) sz) := by
  refine Met.ofW (cc := cX6_begins) (maxL := 6) (ret := none) (by decide) rfl ?_
  intro p e s m args below meth c s₁ B hml hv
  obtain ⟨rfl, hsz, hP, hK, hD0, hN⟩ := hv
  have hx := B.exec
  have hb := B.bytes
  have hr := B.returns
  have hts := atoms_spec (ws := wsX6_begins) B.pre
  have hown : s.vm.findClass RX6 = some m.cls := findClass_of_methodNamed B.named
  have hlocks := B.notSynchronized
  subst hsz
  obtain ⟨A0, hAe⟩ : ∃ A0, A0 = va_A (zmod cs o A S T xsm xth xam f xtl xpl g) s.heap.size := ⟨_, rfl⟩
  have hD := hD0.self (sz := s.heap.size)
  rw [← hAe] at hD
  have hA : ∀ q : Nat, s.heap.size ≤ q → A0 q := fun q h => by rw [hAe]; exact Or.inr h
  have hS : va_S A0 s.heap s.heap [] := va_S.rf
  have hP : va_P D vwCl (zmod cs o A S T xsm xth xam f xtl xpl g) s.heap := hP
  have hl := lv_entry ([.ref (o 0), .long (zL xc), .long (zL xh)]) (n := 6) (Nat.le_of_ble_eq_true rfl)
  rw [lg_entry_eq]
  generalize (lg_sl ([.ref (o 0), .long (zL xc), .long (zL xh)]) ++ List.replicate (6 - (lg_sl ([.ref (o 0), .long (zL xc), .long (zL xh)])).length) Slot.unset).toArray = ls at hl ⊢
  have hl : lv_has ls 6 [(0, .ref (o 0)), (1, .long (zL xc)), (3, .long (zL xh))] := hl
  have hiX6 : ∀ w ∈ wsX60, w ∈ wsX6_begins := by decide +kernel
  refine zr_bipush hx hb dX6_begins_0 (by decide) ?_
  refine lv_istore (lv' := [(5, .int (zI 34)), (0, .ref (o 0)), (1, .long (zL xc)), (3, .long (zL xh))]) hx hb dX6_begins_2 hl (by decide) rfl (fun ls hl => ?_)
  suffices J_4 : ∀ (nn : Nat) (xj : Int) (jj : 34 ≤ xj ∧ xj ≤ 53) (hmu : 53 - xj < (nn : Int)) (H : Heap) (locs : List Loc) (hP : va_P D vwCl (zmod cs o (zZe A xj) S T xsm xth xam f xtl xpl g) H) (hD : va_D A0 (zmod cs o (zZe A xj) S T xsm xth xam f xtl xpl g)) (hS : va_S A0 s.heap H locs) (ls : Array Slot) (hl : lv_has ls 6 [(5, .int (zI xj)), (0, .ref (o 0)), (1, .long (zL xc)), (3, .long (zL xh))]), W p l e (headSpec wsX6_begins ({ frames := 1, cells := 0, slots := 0, locals := 23 })).room s m ([.ref (o 0), .long (zL xc), .long (zL xh)] : List Value).toArray below meth c H locs 0 0 (MQ below (zQv D (zmod cs o A S T xsm xth xam f xtl xpl g) s.heap.size (zmod cs o (zBeg A xc xh) S T xsm xth xam f xtl xpl g)) ([.ref (o 0), .long (zL xc), .long (zL xh)] : List Value).toArray s 0 0 (va_A (zmod cs o A S T xsm xth xam f xtl xpl g) s.heap.size)) (F0 m 4 ls []) by
    exact J_4 (((53 - 34) : Int).toNat + 1) 34 (by omega) (by have : (0 : Int) ≤ 53 - 34 := (by omega); omega) _ _ (by rw [zZe_0]; exact hP) (zD_addr hD rfl) hS _ (lv_sub hl [0, 1, 2, 3] rfl)
  intro nn
  induction nn with
  | zero => intro xj jj hmu; exfalso; have : (0 : Int) ≤ 53 - xj := (by omega); omega
  | succ nn ih =>
    intro xj jj hmu H locs hP hD hS ls hl
    refine lv_iload hx hb dX6_begins_4 (lv_at hl 0 rfl) ?_
    refine zr_bipush hx hb dX6_begins_6 (by decide) ?_
    refine zr_icmp_gt (tgt := 25) hx hb dX6_begins_8 (by decide) (by omega) (by decide) (fun c1 => ?_) (fun c1 => ?_)
    · have hP : va_P D vwCl (zmod cs o (zZer A) S T xsm xth xam f xtl xpl g) H := by rw [← zZe_e, show (53 : Int) = xj by omega]; exact hP
      have hD : va_D A0 (zmod cs o (zZer A) S T xsm xth xam f xtl xpl g) := zD_addr hD rfl
      refine lv_aload_n hx hb dX6_begins_25 rfl (lv_at hl 1 rfl) ?_
      refine va_get (D := D) (ci := 6) (v := .ref (o 1)) (C := RX6) (T := TX6) (N := 10) hx hb hts hiX6 hown hK hP 0 rfl rfl 0 (by decide) (hts (.fieldLink RX6 7 "ChargeEstimatorModel" "all" "[J") (List.mem_of_getElem? (i := 1) rfl)) (fun _ h9 => h9) rfl dX6_begins_26 ?_
      refine zr_bipush hx hb dX6_begins_29 (by decide) ?_
      refine zr_ldc2 (n := 3600) hx hb hown (hts (.constantLong RX6 74 (3600)) (List.mem_of_getElem? (i := 2) rfl)) rfl dX6_begins_31 ?_
      refine lv_lload_n hx hb dX6_begins_34 rfl (lv_at hl 2 rfl) ?_
      refine zr_lmul hx hb dX6_begins_35 ?_
      refine zr_last (D := D) (g := zZer A) hx hb hK hP hD hS 1 2 rfl rfl (by decide) (by decide) dX6_begins_36 (fun H locs hP hD hS => ?_)
      have hP : va_P D vwCl (zmod cs o (zU (zZer A) 38 (3600 * xc)) S T xsm xth xam f xtl xpl g) H := hP
      have hD : va_D A0 (zmod cs o (zU (zZer A) 38 (3600 * xc)) S T xsm xth xam f xtl xpl g) := zD_addr hD rfl
      refine lv_aload_n hx hb dX6_begins_37 rfl (lv_at hl 1 rfl) ?_
      refine va_get (D := D) (ci := 6) (v := .ref (o 1)) (C := RX6) (T := TX6) (N := 10) hx hb hts hiX6 hown hK hP 0 rfl rfl 0 (by decide) (hts (.fieldLink RX6 7 "ChargeEstimatorModel" "all" "[J") (List.mem_of_getElem? (i := 1) rfl)) (fun _ h9 => h9) rfl dX6_begins_38 ?_
      refine zr_bipush hx hb dX6_begins_41 (by decide) ?_
      refine lv_aload_n hx hb dX6_begins_43 rfl (lv_at hl 1 rfl) ?_
      refine va_get (D := D) (ci := 6) (v := .ref (o 1)) (C := RX6) (T := TX6) (N := 10) hx hb hts hiX6 hown hK hP 0 rfl rfl 0 (by decide) (hts (.fieldLink RX6 7 "ChargeEstimatorModel" "all" "[J") (List.mem_of_getElem? (i := 1) rfl)) (fun _ h9 => h9) rfl dX6_begins_44 ?_
      refine zr_bipush hx hb dX6_begins_47 (by decide) ?_
      refine zr_lald (D := D) (g := zU (zZer A) 38 (3600 * xc)) hx hb hK hP 1 2 rfl rfl (by decide) (by decide) dX6_begins_49 ?_
      rw [show zU (zZer A) 38 (3600 * xc) 38 = (3600 * xc) from by first | rfl | simp [zO, zU]]
      refine zr_last (D := D) (g := zU (zZer A) 38 (3600 * xc)) hx hb hK hP hD hS 1 2 rfl rfl (by decide) (by decide) dX6_begins_50 (fun H locs hP hD hS => ?_)
      have hP : va_P D vwCl (zmod cs o (zU (zU (zZer A) 38 (3600 * xc)) 37 (3600 * xc)) S T xsm xth xam f xtl xpl g) H := hP
      have hD : va_D A0 (zmod cs o (zU (zU (zZer A) 38 (3600 * xc)) 37 (3600 * xc)) S T xsm xth xam f xtl xpl g) := zD_addr hD rfl
      refine lv_aload_n hx hb dX6_begins_51 rfl (lv_at hl 1 rfl) ?_
      refine va_get (D := D) (ci := 6) (v := .ref (o 1)) (C := RX6) (T := TX6) (N := 10) hx hb hts hiX6 hown hK hP 0 rfl rfl 0 (by decide) (hts (.fieldLink RX6 7 "ChargeEstimatorModel" "all" "[J") (List.mem_of_getElem? (i := 1) rfl)) (fun _ h9 => h9) rfl dX6_begins_52 ?_
      refine zr_bipush hx hb dX6_begins_55 (by decide) ?_
      refine lv_lload_n hx hb dX6_begins_57 rfl (lv_at hl 3 rfl) ?_
      refine zr_ldc2 (n := (-1)) hx hb hown (hts (.constantLong RX6 58 (-1)) (List.mem_of_getElem? (i := 3) rfl)) rfl dX6_begins_58 ?_
      refine zr_lcmp_ne (tgt := 79) hx hb dX6_begins_61 dX6_begins_62 (by decide) (by omega) (by decide) (fun c2 => ?_) (fun c2 => ?_)
      · refine lv_aload_n hx hb dX6_begins_79 rfl (lv_at hl 1 rfl) ?_
        refine va_get (D := D) (ci := 6) (v := .ref (o 1)) (C := RX6) (T := TX6) (N := 10) hx hb hts hiX6 hown hK hP 0 rfl rfl 0 (by decide) (hts (.fieldLink RX6 7 "ChargeEstimatorModel" "all" "[J") (List.mem_of_getElem? (i := 1) rfl)) (fun _ h9 => h9) rfl dX6_begins_80 ?_
        refine zr_bipush hx hb dX6_begins_83 (by decide) ?_
        refine zr_lald (D := D) (g := zU (zU (zZer A) 38 (3600 * xc)) 37 (3600 * xc)) hx hb hK hP 1 2 rfl rfl (by decide) (by decide) dX6_begins_85 ?_
        rw [show zU (zU (zZer A) 38 (3600 * xc)) 37 (3600 * xc) 38 = (3600 * xc) from by first | rfl | simp [zO, zU]]
        refine lv_lload_n hx hb dX6_begins_86 rfl (lv_at hl 3 rfl) ?_
        have hm9 := zmul_s (x := xh) (y := 3600 * xc) (a := 10000) (b := 72000000) (by omega) (by omega)
        rw [Int.mul_comm xh] at hm9
        refine zr_lmul hx hb dX6_begins_87 ?_
        refine zr_ldc2 (n := 10000) hx hb hown (hts (.constantLong RX6 93 (10000)) (List.mem_of_getElem? (i := 5) rfl)) rfl dX6_begins_88 ?_
        refine zc_rl (va_runS (As := [.long (zL ((3600 * xc) * xh)), .long (zL 10000)]) (rest := [.int (zI 34), .ref (o 1)]) ⟨hx, hb, hml, hown, hts⟩ (met_X6_floor l ((3600 * xc) * xh) 10000 (by first | assumption | omega) (by first | assumption | omega)) (va_cwS 2 hts gX6_begins_X6_floor rfl rfl rfl (by decide +kernel) ⟨Nat.le_of_ble_eq_true rfl, Nat.le_of_ble_eq_true rfl⟩) ⟨zTrue.blind, fun U hU hW => ⟨rfl, trivial⟩⟩ rfl rfl hl.1 rfl (lv_room (Nat.le_of_ble_eq_true rfl)) dX6_begins_91 ⟨Nat.le_of_ble_eq_true rfl, Nat.le_of_ble_eq_true rfl⟩) ?_
        refine zr_last (D := D) (g := zU (zU (zZer A) 38 (3600 * xc)) 37 (3600 * xc)) hx hb hK hP hD hS 1 2 rfl rfl (by decide) (by decide) dX6_begins_94 (fun H locs hP hD hS => ?_)
        have hP : va_P D vwCl (zmod cs o (zU (zU (zU (zZer A) 38 (3600 * xc)) 37 (3600 * xc)) 34 (((3600 * xc) * xh) / 10000)) S T xsm xth xam f xtl xpl g) H := hP
        have hD : va_D A0 (zmod cs o (zU (zU (zU (zZer A) 38 (3600 * xc)) 37 (3600 * xc)) 34 (((3600 * xc) * xh) / 10000)) S T xsm xth xam f xtl xpl g) := zD_addr hD rfl
        refine lv_aload_n hx hb dX6_begins_95 rfl (lv_at hl 1 rfl) ?_
        refine va_get (D := D) (ci := 6) (v := .ref (o 1)) (C := RX6) (T := TX6) (N := 10) hx hb hts hiX6 hown hK hP 0 rfl rfl 0 (by decide) (hts (.fieldLink RX6 7 "ChargeEstimatorModel" "all" "[J") (List.mem_of_getElem? (i := 1) rfl)) (fun _ h9 => h9) rfl dX6_begins_96 ?_
        refine zr_bipush hx hb dX6_begins_99 (by decide) ?_
        refine lv_lload_n hx hb dX6_begins_101 rfl (lv_at hl 3 rfl) ?_
        refine zr_ldc2 (n := (-1)) hx hb hown (hts (.constantLong RX6 58 (-1)) (List.mem_of_getElem? (i := 3) rfl)) rfl dX6_begins_102 ?_
        refine zr_lcmp_ne (tgt := 113) hx hb dX6_begins_105 dX6_begins_106 (by decide) (by omega) (by decide) (fun c3 => ?_) (fun c3 => ?_)
        · refine lv_aload_n hx hb dX6_begins_113 rfl (lv_at hl 1 rfl) ?_
          refine va_get (D := D) (ci := 6) (v := .ref (o 1)) (C := RX6) (T := TX6) (N := 10) hx hb hts hiX6 hown hK hP 0 rfl rfl 0 (by decide) (hts (.fieldLink RX6 7 "ChargeEstimatorModel" "all" "[J") (List.mem_of_getElem? (i := 1) rfl)) (fun _ h9 => h9) rfl dX6_begins_114 ?_
          refine zr_bipush hx hb dX6_begins_117 (by decide) ?_
          refine zr_lald (D := D) (g := zU (zU (zU (zZer A) 38 (3600 * xc)) 37 (3600 * xc)) 34 (((3600 * xc) * xh) / 10000)) hx hb hK hP 1 2 rfl rfl (by decide) (by decide) dX6_begins_119 ?_
          rw [show zU (zU (zU (zZer A) 38 (3600 * xc)) 37 (3600 * xc)) 34 (((3600 * xc) * xh) / 10000) 34 = (((3600 * xc) * xh) / 10000) from by first | rfl | simp [zO, zU]]
          refine zr_last (D := D) (g := zU (zU (zU (zZer A) 38 (3600 * xc)) 37 (3600 * xc)) 34 (((3600 * xc) * xh) / 10000)) hx hb hK hP hD hS 1 2 rfl rfl (by decide) (by decide) dX6_begins_120 (fun H locs hP hD hS => ?_)
          have hP : va_P D vwCl (zmod cs o (zU (zU (zU (zU (zZer A) 38 (3600 * xc)) 37 (3600 * xc)) 34 (((3600 * xc) * xh) / 10000)) 35 (((3600 * xc) * xh) / 10000)) S T xsm xth xam f xtl xpl g) H := hP
          have hD : va_D A0 (zmod cs o (zU (zU (zU (zU (zZer A) 38 (3600 * xc)) 37 (3600 * xc)) 34 (((3600 * xc) * xh) / 10000)) 35 (((3600 * xc) * xh) / 10000)) S T xsm xth xam f xtl xpl g) := zD_addr hD rfl
          refine lv_aload_n hx hb dX6_begins_121 rfl (lv_at hl 1 rfl) ?_
          refine va_get (D := D) (ci := 6) (v := .ref (o 1)) (C := RX6) (T := TX6) (N := 10) hx hb hts hiX6 hown hK hP 0 rfl rfl 0 (by decide) (hts (.fieldLink RX6 7 "ChargeEstimatorModel" "all" "[J") (List.mem_of_getElem? (i := 1) rfl)) (fun _ h9 => h9) rfl dX6_begins_122 ?_
          refine zr_bipush hx hb dX6_begins_125 (by decide) ?_
          refine lv_lload_n hx hb dX6_begins_127 rfl (lv_at hl 3 rfl) ?_
          refine zr_ldc2 (n := (-1)) hx hb hown (hts (.constantLong RX6 58 (-1)) (List.mem_of_getElem? (i := 3) rfl)) rfl dX6_begins_128 ?_
          refine zr_lcmp_ne (tgt := 145) hx hb dX6_begins_131 dX6_begins_132 (by decide) (by omega) (by decide) (fun c4 => ?_) (fun c4 => ?_)
          · refine lv_aload_n hx hb dX6_begins_145 rfl (lv_at hl 1 rfl) ?_
            refine va_get (D := D) (ci := 6) (v := .ref (o 1)) (C := RX6) (T := TX6) (N := 10) hx hb hts hiX6 hown hK hP 0 rfl rfl 0 (by decide) (hts (.fieldLink RX6 7 "ChargeEstimatorModel" "all" "[J") (List.mem_of_getElem? (i := 1) rfl)) (fun _ h9 => h9) rfl dX6_begins_146 ?_
            refine zr_bipush hx hb dX6_begins_149 (by decide) ?_
            refine zr_lald (D := D) (g := zU (zU (zU (zU (zZer A) 38 (3600 * xc)) 37 (3600 * xc)) 34 (((3600 * xc) * xh) / 10000)) 35 (((3600 * xc) * xh) / 10000)) hx hb hK hP 1 2 rfl rfl (by decide) (by decide) dX6_begins_151 ?_
            rw [show zU (zU (zU (zU (zZer A) 38 (3600 * xc)) 37 (3600 * xc)) 34 (((3600 * xc) * xh) / 10000)) 35 (((3600 * xc) * xh) / 10000) 34 = (((3600 * xc) * xh) / 10000) from by first | rfl | simp [zO, zU]]
            refine zr_last (D := D) (g := zU (zU (zU (zU (zZer A) 38 (3600 * xc)) 37 (3600 * xc)) 34 (((3600 * xc) * xh) / 10000)) 35 (((3600 * xc) * xh) / 10000)) hx hb hK hP hD hS 1 2 rfl rfl (by decide) (by decide) dX6_begins_152 (fun H locs hP hD hS => ?_)
            have hP : va_P D vwCl (zmod cs o (zU (zU (zU (zU (zU (zZer A) 38 (3600 * xc)) 37 (3600 * xc)) 34 (((3600 * xc) * xh) / 10000)) 35 (((3600 * xc) * xh) / 10000)) 36 (((3600 * xc) * xh) / 10000)) S T xsm xth xam f xtl xpl g) H := hP
            have hD : va_D A0 (zmod cs o (zU (zU (zU (zU (zU (zZer A) 38 (3600 * xc)) 37 (3600 * xc)) 34 (((3600 * xc) * xh) / 10000)) 35 (((3600 * xc) * xh) / 10000)) 36 (((3600 * xc) * xh) / 10000)) S T xsm xth xam f xtl xpl g) := zD_addr hD rfl
            have hP8 : va_P D vwCl (zmod cs o (zBeg A xc xh) S T xsm xth xam f xtl xpl g) H := by first | (exfalso; omega) | (rw [zBeg_t (by omega)]; exact hP) | (rw [zBeg_f (by omega)]; exact hP)
            have hP9 : va_P D vwCl (zmod cs o (zBeg A xc xh) S T xsm xth xam f xtl xpl g) H := hP8
            have hD9 : va_D A0 (zmod cs o (zBeg A xc xh) S T xsm xth xam f xtl xpl g) := zD_addr hD rfl
            subst hAe
            exact W.vret hx hb hr (fun t ht hW => ⟨⟨(), rfl, trivial, by rw [ht]; exact hP9, hD9⟩, hS.F ht⟩) hS.2.2 dX6_begins_153
          · refine lv_aload_n hx hb dX6_begins_135 rfl (lv_at hl 1 rfl) ?_
            refine va_get (D := D) (ci := 6) (v := .ref (o 1)) (C := RX6) (T := TX6) (N := 10) hx hb hts hiX6 hown hK hP 0 rfl rfl 0 (by decide) (hts (.fieldLink RX6 7 "ChargeEstimatorModel" "all" "[J") (List.mem_of_getElem? (i := 1) rfl)) (fun _ h9 => h9) rfl dX6_begins_136 ?_
            refine zr_bipush hx hb dX6_begins_139 (by decide) ?_
            refine zr_lald (D := D) (g := zU (zU (zU (zU (zZer A) 38 (3600 * xc)) 37 (3600 * xc)) 34 (((3600 * xc) * xh) / 10000)) 35 (((3600 * xc) * xh) / 10000)) hx hb hK hP 1 2 rfl rfl (by decide) (by decide) dX6_begins_141 ?_
            rw [show zU (zU (zU (zU (zZer A) 38 (3600 * xc)) 37 (3600 * xc)) 34 (((3600 * xc) * xh) / 10000)) 35 (((3600 * xc) * xh) / 10000) 38 = (3600 * xc) from by first | rfl | simp [zO, zU]]
            refine lv_goto (tgt := 152) hx hb dX6_begins_142 (by decide) ?_
            refine zr_last (D := D) (g := zU (zU (zU (zU (zZer A) 38 (3600 * xc)) 37 (3600 * xc)) 34 (((3600 * xc) * xh) / 10000)) 35 (((3600 * xc) * xh) / 10000)) hx hb hK hP hD hS 1 2 rfl rfl (by decide) (by decide) dX6_begins_152 (fun H locs hP hD hS => ?_)
            have hP : va_P D vwCl (zmod cs o (zU (zU (zU (zU (zU (zZer A) 38 (3600 * xc)) 37 (3600 * xc)) 34 (((3600 * xc) * xh) / 10000)) 35 (((3600 * xc) * xh) / 10000)) 36 (3600 * xc)) S T xsm xth xam f xtl xpl g) H := hP
            have hD : va_D A0 (zmod cs o (zU (zU (zU (zU (zU (zZer A) 38 (3600 * xc)) 37 (3600 * xc)) 34 (((3600 * xc) * xh) / 10000)) 35 (((3600 * xc) * xh) / 10000)) 36 (3600 * xc)) S T xsm xth xam f xtl xpl g) := zD_addr hD rfl
            have hP8 : va_P D vwCl (zmod cs o (zBeg A xc xh) S T xsm xth xam f xtl xpl g) H := by first | (exfalso; omega) | (rw [zBeg_t (by omega)]; exact hP) | (rw [zBeg_f (by omega)]; exact hP)
            have hP9 : va_P D vwCl (zmod cs o (zBeg A xc xh) S T xsm xth xam f xtl xpl g) H := hP8
            have hD9 : va_D A0 (zmod cs o (zBeg A xc xh) S T xsm xth xam f xtl xpl g) := zD_addr hD rfl
            subst hAe
            exact W.vret hx hb hr (fun t ht hW => ⟨⟨(), rfl, trivial, by rw [ht]; exact hP9, hD9⟩, hS.F ht⟩) hS.2.2 dX6_begins_153
        · refine zr_lconst0 hx hb dX6_begins_109 ?_
          refine lv_goto (tgt := 120) hx hb dX6_begins_110 (by decide) ?_
          refine zr_last (D := D) (g := zU (zU (zU (zZer A) 38 (3600 * xc)) 37 (3600 * xc)) 34 (((3600 * xc) * xh) / 10000)) hx hb hK hP hD hS 1 2 rfl rfl (by decide) (by decide) dX6_begins_120 (fun H locs hP hD hS => ?_)
          have hP : va_P D vwCl (zmod cs o (zU (zU (zU (zU (zZer A) 38 (3600 * xc)) 37 (3600 * xc)) 34 (((3600 * xc) * xh) / 10000)) 35 0) S T xsm xth xam f xtl xpl g) H := hP
          have hD : va_D A0 (zmod cs o (zU (zU (zU (zU (zZer A) 38 (3600 * xc)) 37 (3600 * xc)) 34 (((3600 * xc) * xh) / 10000)) 35 0) S T xsm xth xam f xtl xpl g) := zD_addr hD rfl
          refine lv_aload_n hx hb dX6_begins_121 rfl (lv_at hl 1 rfl) ?_
          refine va_get (D := D) (ci := 6) (v := .ref (o 1)) (C := RX6) (T := TX6) (N := 10) hx hb hts hiX6 hown hK hP 0 rfl rfl 0 (by decide) (hts (.fieldLink RX6 7 "ChargeEstimatorModel" "all" "[J") (List.mem_of_getElem? (i := 1) rfl)) (fun _ h9 => h9) rfl dX6_begins_122 ?_
          refine zr_bipush hx hb dX6_begins_125 (by decide) ?_
          refine lv_lload_n hx hb dX6_begins_127 rfl (lv_at hl 3 rfl) ?_
          refine zr_ldc2 (n := (-1)) hx hb hown (hts (.constantLong RX6 58 (-1)) (List.mem_of_getElem? (i := 3) rfl)) rfl dX6_begins_128 ?_
          refine zr_lcmp_ne (tgt := 145) hx hb dX6_begins_131 dX6_begins_132 (by decide) (by omega) (by decide) (fun c5 => ?_) (fun c5 => ?_)
          · refine lv_aload_n hx hb dX6_begins_145 rfl (lv_at hl 1 rfl) ?_
            refine va_get (D := D) (ci := 6) (v := .ref (o 1)) (C := RX6) (T := TX6) (N := 10) hx hb hts hiX6 hown hK hP 0 rfl rfl 0 (by decide) (hts (.fieldLink RX6 7 "ChargeEstimatorModel" "all" "[J") (List.mem_of_getElem? (i := 1) rfl)) (fun _ h9 => h9) rfl dX6_begins_146 ?_
            refine zr_bipush hx hb dX6_begins_149 (by decide) ?_
            refine zr_lald (D := D) (g := zU (zU (zU (zU (zZer A) 38 (3600 * xc)) 37 (3600 * xc)) 34 (((3600 * xc) * xh) / 10000)) 35 0) hx hb hK hP 1 2 rfl rfl (by decide) (by decide) dX6_begins_151 ?_
            rw [show zU (zU (zU (zU (zZer A) 38 (3600 * xc)) 37 (3600 * xc)) 34 (((3600 * xc) * xh) / 10000)) 35 0 34 = (((3600 * xc) * xh) / 10000) from by first | rfl | simp [zO, zU]]
            refine zr_last (D := D) (g := zU (zU (zU (zU (zZer A) 38 (3600 * xc)) 37 (3600 * xc)) 34 (((3600 * xc) * xh) / 10000)) 35 0) hx hb hK hP hD hS 1 2 rfl rfl (by decide) (by decide) dX6_begins_152 (fun H locs hP hD hS => ?_)
            have hP : va_P D vwCl (zmod cs o (zU (zU (zU (zU (zU (zZer A) 38 (3600 * xc)) 37 (3600 * xc)) 34 (((3600 * xc) * xh) / 10000)) 35 0) 36 (((3600 * xc) * xh) / 10000)) S T xsm xth xam f xtl xpl g) H := hP
            have hD : va_D A0 (zmod cs o (zU (zU (zU (zU (zU (zZer A) 38 (3600 * xc)) 37 (3600 * xc)) 34 (((3600 * xc) * xh) / 10000)) 35 0) 36 (((3600 * xc) * xh) / 10000)) S T xsm xth xam f xtl xpl g) := zD_addr hD rfl
            have hP8 : va_P D vwCl (zmod cs o (zBeg A xc xh) S T xsm xth xam f xtl xpl g) H := by first | (exfalso; omega) | (rw [zBeg_t (by omega)]; exact hP) | (rw [zBeg_f (by omega)]; exact hP)
            have hP9 : va_P D vwCl (zmod cs o (zBeg A xc xh) S T xsm xth xam f xtl xpl g) H := hP8
            have hD9 : va_D A0 (zmod cs o (zBeg A xc xh) S T xsm xth xam f xtl xpl g) := zD_addr hD rfl
            subst hAe
            exact W.vret hx hb hr (fun t ht hW => ⟨⟨(), rfl, trivial, by rw [ht]; exact hP9, hD9⟩, hS.F ht⟩) hS.2.2 dX6_begins_153
          · refine lv_aload_n hx hb dX6_begins_135 rfl (lv_at hl 1 rfl) ?_
            refine va_get (D := D) (ci := 6) (v := .ref (o 1)) (C := RX6) (T := TX6) (N := 10) hx hb hts hiX6 hown hK hP 0 rfl rfl 0 (by decide) (hts (.fieldLink RX6 7 "ChargeEstimatorModel" "all" "[J") (List.mem_of_getElem? (i := 1) rfl)) (fun _ h9 => h9) rfl dX6_begins_136 ?_
            refine zr_bipush hx hb dX6_begins_139 (by decide) ?_
            refine zr_lald (D := D) (g := zU (zU (zU (zU (zZer A) 38 (3600 * xc)) 37 (3600 * xc)) 34 (((3600 * xc) * xh) / 10000)) 35 0) hx hb hK hP 1 2 rfl rfl (by decide) (by decide) dX6_begins_141 ?_
            rw [show zU (zU (zU (zU (zZer A) 38 (3600 * xc)) 37 (3600 * xc)) 34 (((3600 * xc) * xh) / 10000)) 35 0 38 = (3600 * xc) from by first | rfl | simp [zO, zU]]
            refine lv_goto (tgt := 152) hx hb dX6_begins_142 (by decide) ?_
            refine zr_last (D := D) (g := zU (zU (zU (zU (zZer A) 38 (3600 * xc)) 37 (3600 * xc)) 34 (((3600 * xc) * xh) / 10000)) 35 0) hx hb hK hP hD hS 1 2 rfl rfl (by decide) (by decide) dX6_begins_152 (fun H locs hP hD hS => ?_)
            have hP : va_P D vwCl (zmod cs o (zU (zU (zU (zU (zU (zZer A) 38 (3600 * xc)) 37 (3600 * xc)) 34 (((3600 * xc) * xh) / 10000)) 35 0) 36 (3600 * xc)) S T xsm xth xam f xtl xpl g) H := hP
            have hD : va_D A0 (zmod cs o (zU (zU (zU (zU (zU (zZer A) 38 (3600 * xc)) 37 (3600 * xc)) 34 (((3600 * xc) * xh) / 10000)) 35 0) 36 (3600 * xc)) S T xsm xth xam f xtl xpl g) := zD_addr hD rfl
            have hP8 : va_P D vwCl (zmod cs o (zBeg A xc xh) S T xsm xth xam f xtl xpl g) H := by first | (exfalso; omega) | (rw [zBeg_t (by omega)]; exact hP) | (rw [zBeg_f (by omega)]; exact hP)
            have hP9 : va_P D vwCl (zmod cs o (zBeg A xc xh) S T xsm xth xam f xtl xpl g) H := hP8
            have hD9 : va_D A0 (zmod cs o (zBeg A xc xh) S T xsm xth xam f xtl xpl g) := zD_addr hD rfl
            subst hAe
            exact W.vret hx hb hr (fun t ht hW => ⟨⟨(), rfl, trivial, by rw [ht]; exact hP9, hD9⟩, hS.F ht⟩) hS.2.2 dX6_begins_153
      · refine lv_aload_n hx hb dX6_begins_65 rfl (lv_at hl 1 rfl) ?_
        refine va_get (D := D) (ci := 6) (v := .ref (o 1)) (C := RX6) (T := TX6) (N := 10) hx hb hts hiX6 hown hK hP 0 rfl rfl 0 (by decide) (hts (.fieldLink RX6 7 "ChargeEstimatorModel" "all" "[J") (List.mem_of_getElem? (i := 1) rfl)) (fun _ h9 => h9) rfl dX6_begins_66 ?_
        refine zr_bipush hx hb dX6_begins_69 (by decide) ?_
        refine zr_lald (D := D) (g := zU (zU (zZer A) 38 (3600 * xc)) 37 (3600 * xc)) hx hb hK hP 1 2 rfl rfl (by decide) (by decide) dX6_begins_71 ?_
        rw [show zU (zU (zZer A) 38 (3600 * xc)) 37 (3600 * xc) 38 = (3600 * xc) from by first | rfl | simp [zO, zU]]
        refine zr_ldc2 (n := 2) hx hb hown (hts (.constantLong RX6 36 (2)) (List.mem_of_getElem? (i := 4) rfl)) rfl dX6_begins_72 ?_
        refine zr_ldiv hx hb dX6_begins_75 (by omega) (by decide) ?_
        refine lv_goto (tgt := 94) hx hb dX6_begins_76 (by decide) ?_
        refine zr_last (D := D) (g := zU (zU (zZer A) 38 (3600 * xc)) 37 (3600 * xc)) hx hb hK hP hD hS 1 2 rfl rfl (by decide) (by decide) dX6_begins_94 (fun H locs hP hD hS => ?_)
        have hP : va_P D vwCl (zmod cs o (zU (zU (zU (zZer A) 38 (3600 * xc)) 37 (3600 * xc)) 34 ((3600 * xc) / 2)) S T xsm xth xam f xtl xpl g) H := hP
        have hD : va_D A0 (zmod cs o (zU (zU (zU (zZer A) 38 (3600 * xc)) 37 (3600 * xc)) 34 ((3600 * xc) / 2)) S T xsm xth xam f xtl xpl g) := zD_addr hD rfl
        refine lv_aload_n hx hb dX6_begins_95 rfl (lv_at hl 1 rfl) ?_
        refine va_get (D := D) (ci := 6) (v := .ref (o 1)) (C := RX6) (T := TX6) (N := 10) hx hb hts hiX6 hown hK hP 0 rfl rfl 0 (by decide) (hts (.fieldLink RX6 7 "ChargeEstimatorModel" "all" "[J") (List.mem_of_getElem? (i := 1) rfl)) (fun _ h9 => h9) rfl dX6_begins_96 ?_
        refine zr_bipush hx hb dX6_begins_99 (by decide) ?_
        refine lv_lload_n hx hb dX6_begins_101 rfl (lv_at hl 3 rfl) ?_
        refine zr_ldc2 (n := (-1)) hx hb hown (hts (.constantLong RX6 58 (-1)) (List.mem_of_getElem? (i := 3) rfl)) rfl dX6_begins_102 ?_
        refine zr_lcmp_ne (tgt := 113) hx hb dX6_begins_105 dX6_begins_106 (by decide) (by omega) (by decide) (fun c6 => ?_) (fun c6 => ?_)
        · refine lv_aload_n hx hb dX6_begins_113 rfl (lv_at hl 1 rfl) ?_
          refine va_get (D := D) (ci := 6) (v := .ref (o 1)) (C := RX6) (T := TX6) (N := 10) hx hb hts hiX6 hown hK hP 0 rfl rfl 0 (by decide) (hts (.fieldLink RX6 7 "ChargeEstimatorModel" "all" "[J") (List.mem_of_getElem? (i := 1) rfl)) (fun _ h9 => h9) rfl dX6_begins_114 ?_
          refine zr_bipush hx hb dX6_begins_117 (by decide) ?_
          refine zr_lald (D := D) (g := zU (zU (zU (zZer A) 38 (3600 * xc)) 37 (3600 * xc)) 34 ((3600 * xc) / 2)) hx hb hK hP 1 2 rfl rfl (by decide) (by decide) dX6_begins_119 ?_
          rw [show zU (zU (zU (zZer A) 38 (3600 * xc)) 37 (3600 * xc)) 34 ((3600 * xc) / 2) 34 = ((3600 * xc) / 2) from by first | rfl | simp [zO, zU]]
          refine zr_last (D := D) (g := zU (zU (zU (zZer A) 38 (3600 * xc)) 37 (3600 * xc)) 34 ((3600 * xc) / 2)) hx hb hK hP hD hS 1 2 rfl rfl (by decide) (by decide) dX6_begins_120 (fun H locs hP hD hS => ?_)
          have hP : va_P D vwCl (zmod cs o (zU (zU (zU (zU (zZer A) 38 (3600 * xc)) 37 (3600 * xc)) 34 ((3600 * xc) / 2)) 35 ((3600 * xc) / 2)) S T xsm xth xam f xtl xpl g) H := hP
          have hD : va_D A0 (zmod cs o (zU (zU (zU (zU (zZer A) 38 (3600 * xc)) 37 (3600 * xc)) 34 ((3600 * xc) / 2)) 35 ((3600 * xc) / 2)) S T xsm xth xam f xtl xpl g) := zD_addr hD rfl
          refine lv_aload_n hx hb dX6_begins_121 rfl (lv_at hl 1 rfl) ?_
          refine va_get (D := D) (ci := 6) (v := .ref (o 1)) (C := RX6) (T := TX6) (N := 10) hx hb hts hiX6 hown hK hP 0 rfl rfl 0 (by decide) (hts (.fieldLink RX6 7 "ChargeEstimatorModel" "all" "[J") (List.mem_of_getElem? (i := 1) rfl)) (fun _ h9 => h9) rfl dX6_begins_122 ?_
          refine zr_bipush hx hb dX6_begins_125 (by decide) ?_
          refine lv_lload_n hx hb dX6_begins_127 rfl (lv_at hl 3 rfl) ?_
          refine zr_ldc2 (n := (-1)) hx hb hown (hts (.constantLong RX6 58 (-1)) (List.mem_of_getElem? (i := 3) rfl)) rfl dX6_begins_128 ?_
          refine zr_lcmp_ne (tgt := 145) hx hb dX6_begins_131 dX6_begins_132 (by decide) (by omega) (by decide) (fun c7 => ?_) (fun c7 => ?_)
          · refine lv_aload_n hx hb dX6_begins_145 rfl (lv_at hl 1 rfl) ?_
            refine va_get (D := D) (ci := 6) (v := .ref (o 1)) (C := RX6) (T := TX6) (N := 10) hx hb hts hiX6 hown hK hP 0 rfl rfl 0 (by decide) (hts (.fieldLink RX6 7 "ChargeEstimatorModel" "all" "[J") (List.mem_of_getElem? (i := 1) rfl)) (fun _ h9 => h9) rfl dX6_begins_146 ?_
            refine zr_bipush hx hb dX6_begins_149 (by decide) ?_
            refine zr_lald (D := D) (g := zU (zU (zU (zU (zZer A) 38 (3600 * xc)) 37 (3600 * xc)) 34 ((3600 * xc) / 2)) 35 ((3600 * xc) / 2)) hx hb hK hP 1 2 rfl rfl (by decide) (by decide) dX6_begins_151 ?_
            rw [show zU (zU (zU (zU (zZer A) 38 (3600 * xc)) 37 (3600 * xc)) 34 ((3600 * xc) / 2)) 35 ((3600 * xc) / 2) 34 = ((3600 * xc) / 2) from by first | rfl | simp [zO, zU]]
            refine zr_last (D := D) (g := zU (zU (zU (zU (zZer A) 38 (3600 * xc)) 37 (3600 * xc)) 34 ((3600 * xc) / 2)) 35 ((3600 * xc) / 2)) hx hb hK hP hD hS 1 2 rfl rfl (by decide) (by decide) dX6_begins_152 (fun H locs hP hD hS => ?_)
            have hP : va_P D vwCl (zmod cs o (zU (zU (zU (zU (zU (zZer A) 38 (3600 * xc)) 37 (3600 * xc)) 34 ((3600 * xc) / 2)) 35 ((3600 * xc) / 2)) 36 ((3600 * xc) / 2)) S T xsm xth xam f xtl xpl g) H := hP
            have hD : va_D A0 (zmod cs o (zU (zU (zU (zU (zU (zZer A) 38 (3600 * xc)) 37 (3600 * xc)) 34 ((3600 * xc) / 2)) 35 ((3600 * xc) / 2)) 36 ((3600 * xc) / 2)) S T xsm xth xam f xtl xpl g) := zD_addr hD rfl
            have hP8 : va_P D vwCl (zmod cs o (zBeg A xc xh) S T xsm xth xam f xtl xpl g) H := by first | (exfalso; omega) | (rw [zBeg_t (by omega)]; exact hP) | (rw [zBeg_f (by omega)]; exact hP)
            have hP9 : va_P D vwCl (zmod cs o (zBeg A xc xh) S T xsm xth xam f xtl xpl g) H := hP8
            have hD9 : va_D A0 (zmod cs o (zBeg A xc xh) S T xsm xth xam f xtl xpl g) := zD_addr hD rfl
            subst hAe
            exact W.vret hx hb hr (fun t ht hW => ⟨⟨(), rfl, trivial, by rw [ht]; exact hP9, hD9⟩, hS.F ht⟩) hS.2.2 dX6_begins_153
          · refine lv_aload_n hx hb dX6_begins_135 rfl (lv_at hl 1 rfl) ?_
            refine va_get (D := D) (ci := 6) (v := .ref (o 1)) (C := RX6) (T := TX6) (N := 10) hx hb hts hiX6 hown hK hP 0 rfl rfl 0 (by decide) (hts (.fieldLink RX6 7 "ChargeEstimatorModel" "all" "[J") (List.mem_of_getElem? (i := 1) rfl)) (fun _ h9 => h9) rfl dX6_begins_136 ?_
            refine zr_bipush hx hb dX6_begins_139 (by decide) ?_
            refine zr_lald (D := D) (g := zU (zU (zU (zU (zZer A) 38 (3600 * xc)) 37 (3600 * xc)) 34 ((3600 * xc) / 2)) 35 ((3600 * xc) / 2)) hx hb hK hP 1 2 rfl rfl (by decide) (by decide) dX6_begins_141 ?_
            rw [show zU (zU (zU (zU (zZer A) 38 (3600 * xc)) 37 (3600 * xc)) 34 ((3600 * xc) / 2)) 35 ((3600 * xc) / 2) 38 = (3600 * xc) from by first | rfl | simp [zO, zU]]
            refine lv_goto (tgt := 152) hx hb dX6_begins_142 (by decide) ?_
            refine zr_last (D := D) (g := zU (zU (zU (zU (zZer A) 38 (3600 * xc)) 37 (3600 * xc)) 34 ((3600 * xc) / 2)) 35 ((3600 * xc) / 2)) hx hb hK hP hD hS 1 2 rfl rfl (by decide) (by decide) dX6_begins_152 (fun H locs hP hD hS => ?_)
            have hP : va_P D vwCl (zmod cs o (zU (zU (zU (zU (zU (zZer A) 38 (3600 * xc)) 37 (3600 * xc)) 34 ((3600 * xc) / 2)) 35 ((3600 * xc) / 2)) 36 (3600 * xc)) S T xsm xth xam f xtl xpl g) H := hP
            have hD : va_D A0 (zmod cs o (zU (zU (zU (zU (zU (zZer A) 38 (3600 * xc)) 37 (3600 * xc)) 34 ((3600 * xc) / 2)) 35 ((3600 * xc) / 2)) 36 (3600 * xc)) S T xsm xth xam f xtl xpl g) := zD_addr hD rfl
            have hP8 : va_P D vwCl (zmod cs o (zBeg A xc xh) S T xsm xth xam f xtl xpl g) H := by first | (exfalso; omega) | (rw [zBeg_t (by omega)]; exact hP) | (rw [zBeg_f (by omega)]; exact hP)
            have hP9 : va_P D vwCl (zmod cs o (zBeg A xc xh) S T xsm xth xam f xtl xpl g) H := hP8
            have hD9 : va_D A0 (zmod cs o (zBeg A xc xh) S T xsm xth xam f xtl xpl g) := zD_addr hD rfl
            subst hAe
            exact W.vret hx hb hr (fun t ht hW => ⟨⟨(), rfl, trivial, by rw [ht]; exact hP9, hD9⟩, hS.F ht⟩) hS.2.2 dX6_begins_153
        · refine zr_lconst0 hx hb dX6_begins_109 ?_
          refine lv_goto (tgt := 120) hx hb dX6_begins_110 (by decide) ?_
          refine zr_last (D := D) (g := zU (zU (zU (zZer A) 38 (3600 * xc)) 37 (3600 * xc)) 34 ((3600 * xc) / 2)) hx hb hK hP hD hS 1 2 rfl rfl (by decide) (by decide) dX6_begins_120 (fun H locs hP hD hS => ?_)
          have hP : va_P D vwCl (zmod cs o (zU (zU (zU (zU (zZer A) 38 (3600 * xc)) 37 (3600 * xc)) 34 ((3600 * xc) / 2)) 35 0) S T xsm xth xam f xtl xpl g) H := hP
          have hD : va_D A0 (zmod cs o (zU (zU (zU (zU (zZer A) 38 (3600 * xc)) 37 (3600 * xc)) 34 ((3600 * xc) / 2)) 35 0) S T xsm xth xam f xtl xpl g) := zD_addr hD rfl
          refine lv_aload_n hx hb dX6_begins_121 rfl (lv_at hl 1 rfl) ?_
          refine va_get (D := D) (ci := 6) (v := .ref (o 1)) (C := RX6) (T := TX6) (N := 10) hx hb hts hiX6 hown hK hP 0 rfl rfl 0 (by decide) (hts (.fieldLink RX6 7 "ChargeEstimatorModel" "all" "[J") (List.mem_of_getElem? (i := 1) rfl)) (fun _ h9 => h9) rfl dX6_begins_122 ?_
          refine zr_bipush hx hb dX6_begins_125 (by decide) ?_
          refine lv_lload_n hx hb dX6_begins_127 rfl (lv_at hl 3 rfl) ?_
          refine zr_ldc2 (n := (-1)) hx hb hown (hts (.constantLong RX6 58 (-1)) (List.mem_of_getElem? (i := 3) rfl)) rfl dX6_begins_128 ?_
          refine zr_lcmp_ne (tgt := 145) hx hb dX6_begins_131 dX6_begins_132 (by decide) (by omega) (by decide) (fun c8 => ?_) (fun c8 => ?_)
          · refine lv_aload_n hx hb dX6_begins_145 rfl (lv_at hl 1 rfl) ?_
            refine va_get (D := D) (ci := 6) (v := .ref (o 1)) (C := RX6) (T := TX6) (N := 10) hx hb hts hiX6 hown hK hP 0 rfl rfl 0 (by decide) (hts (.fieldLink RX6 7 "ChargeEstimatorModel" "all" "[J") (List.mem_of_getElem? (i := 1) rfl)) (fun _ h9 => h9) rfl dX6_begins_146 ?_
            refine zr_bipush hx hb dX6_begins_149 (by decide) ?_
            refine zr_lald (D := D) (g := zU (zU (zU (zU (zZer A) 38 (3600 * xc)) 37 (3600 * xc)) 34 ((3600 * xc) / 2)) 35 0) hx hb hK hP 1 2 rfl rfl (by decide) (by decide) dX6_begins_151 ?_
            rw [show zU (zU (zU (zU (zZer A) 38 (3600 * xc)) 37 (3600 * xc)) 34 ((3600 * xc) / 2)) 35 0 34 = ((3600 * xc) / 2) from by first | rfl | simp [zO, zU]]
            refine zr_last (D := D) (g := zU (zU (zU (zU (zZer A) 38 (3600 * xc)) 37 (3600 * xc)) 34 ((3600 * xc) / 2)) 35 0) hx hb hK hP hD hS 1 2 rfl rfl (by decide) (by decide) dX6_begins_152 (fun H locs hP hD hS => ?_)
            have hP : va_P D vwCl (zmod cs o (zU (zU (zU (zU (zU (zZer A) 38 (3600 * xc)) 37 (3600 * xc)) 34 ((3600 * xc) / 2)) 35 0) 36 ((3600 * xc) / 2)) S T xsm xth xam f xtl xpl g) H := hP
            have hD : va_D A0 (zmod cs o (zU (zU (zU (zU (zU (zZer A) 38 (3600 * xc)) 37 (3600 * xc)) 34 ((3600 * xc) / 2)) 35 0) 36 ((3600 * xc) / 2)) S T xsm xth xam f xtl xpl g) := zD_addr hD rfl
            have hP8 : va_P D vwCl (zmod cs o (zBeg A xc xh) S T xsm xth xam f xtl xpl g) H := by first | (exfalso; omega) | (rw [zBeg_t (by omega)]; exact hP) | (rw [zBeg_f (by omega)]; exact hP)
            have hP9 : va_P D vwCl (zmod cs o (zBeg A xc xh) S T xsm xth xam f xtl xpl g) H := hP8
            have hD9 : va_D A0 (zmod cs o (zBeg A xc xh) S T xsm xth xam f xtl xpl g) := zD_addr hD rfl
            subst hAe
            exact W.vret hx hb hr (fun t ht hW => ⟨⟨(), rfl, trivial, by rw [ht]; exact hP9, hD9⟩, hS.F ht⟩) hS.2.2 dX6_begins_153
          · refine lv_aload_n hx hb dX6_begins_135 rfl (lv_at hl 1 rfl) ?_
            refine va_get (D := D) (ci := 6) (v := .ref (o 1)) (C := RX6) (T := TX6) (N := 10) hx hb hts hiX6 hown hK hP 0 rfl rfl 0 (by decide) (hts (.fieldLink RX6 7 "ChargeEstimatorModel" "all" "[J") (List.mem_of_getElem? (i := 1) rfl)) (fun _ h9 => h9) rfl dX6_begins_136 ?_
            refine zr_bipush hx hb dX6_begins_139 (by decide) ?_
            refine zr_lald (D := D) (g := zU (zU (zU (zU (zZer A) 38 (3600 * xc)) 37 (3600 * xc)) 34 ((3600 * xc) / 2)) 35 0) hx hb hK hP 1 2 rfl rfl (by decide) (by decide) dX6_begins_141 ?_
            rw [show zU (zU (zU (zU (zZer A) 38 (3600 * xc)) 37 (3600 * xc)) 34 ((3600 * xc) / 2)) 35 0 38 = (3600 * xc) from by first | rfl | simp [zO, zU]]
            refine lv_goto (tgt := 152) hx hb dX6_begins_142 (by decide) ?_
            refine zr_last (D := D) (g := zU (zU (zU (zU (zZer A) 38 (3600 * xc)) 37 (3600 * xc)) 34 ((3600 * xc) / 2)) 35 0) hx hb hK hP hD hS 1 2 rfl rfl (by decide) (by decide) dX6_begins_152 (fun H locs hP hD hS => ?_)
            have hP : va_P D vwCl (zmod cs o (zU (zU (zU (zU (zU (zZer A) 38 (3600 * xc)) 37 (3600 * xc)) 34 ((3600 * xc) / 2)) 35 0) 36 (3600 * xc)) S T xsm xth xam f xtl xpl g) H := hP
            have hD : va_D A0 (zmod cs o (zU (zU (zU (zU (zU (zZer A) 38 (3600 * xc)) 37 (3600 * xc)) 34 ((3600 * xc) / 2)) 35 0) 36 (3600 * xc)) S T xsm xth xam f xtl xpl g) := zD_addr hD rfl
            have hP8 : va_P D vwCl (zmod cs o (zBeg A xc xh) S T xsm xth xam f xtl xpl g) H := by first | (exfalso; omega) | (rw [zBeg_t (by omega)]; exact hP) | (rw [zBeg_f (by omega)]; exact hP)
            have hP9 : va_P D vwCl (zmod cs o (zBeg A xc xh) S T xsm xth xam f xtl xpl g) H := hP8
            have hD9 : va_D A0 (zmod cs o (zBeg A xc xh) S T xsm xth xam f xtl xpl g) := zD_addr hD rfl
            subst hAe
            exact W.vret hx hb hr (fun t ht hW => ⟨⟨(), rfl, trivial, by rw [ht]; exact hP9, hD9⟩, hS.F ht⟩) hS.2.2 dX6_begins_153
    · refine lv_aload_n hx hb dX6_begins_11 rfl (lv_at hl 1 rfl) ?_
      refine va_get (D := D) (ci := 6) (v := .ref (o 1)) (C := RX6) (T := TX6) (N := 10) hx hb hts hiX6 hown hK hP 0 rfl rfl 0 (by decide) (hts (.fieldLink RX6 7 "ChargeEstimatorModel" "all" "[J") (List.mem_of_getElem? (i := 1) rfl)) (fun _ h9 => h9) rfl dX6_begins_12 ?_
      refine lv_iload hx hb dX6_begins_15 (lv_at hl 0 rfl) ?_
      refine zr_lconst0 hx hb dX6_begins_17 ?_
      refine zr_last (D := D) (g := zZe A xj) hx hb hK hP hD hS 1 2 rfl rfl (by decide) (by omega) dX6_begins_18 (fun H locs hP hD hS => ?_)
      have hP : va_P D vwCl (zmod cs o (zU (zZe A xj) xj 0) S T xsm xth xam f xtl xpl g) H := hP
      have hD : va_D A0 (zmod cs o (zU (zZe A xj) xj 0) S T xsm xth xam f xtl xpl g) := zD_addr hD rfl
      refine zr_iinc (kk := 0) (lv' := [(5, .int (zI (xj + 1))), (0, .ref (o 0)), (1, .long (zL xc)), (3, .long (zL xh))]) hx hb dX6_begins_19 hl rfl (by decide) rfl (fun ls hl => ?_)
      refine lv_goto (tgt := 4) hx hb dX6_begins_22 (by decide) ?_
      exact ih (xj + 1) (by omega) (by omega) _ _ (by rw [← zZe_s A (by omega)]; exact hP) (zD_addr hD rfl) hS _ (lv_sub hl [0, 1, 2, 3] rfl)
set_option maxHeartbeats 4000000 in
set_option maxRecDepth 100000 in
theorem met_X6_begin_ok (l : Launch) (D : va_G) (cs : Nat → ClassId) (o : Nat → Nat) (sz : Nat) (A S T : Int → Int) (xsm xth xam : Int) (f : Int → Int) (xtl xpl : Int) (g : Int → Int) (xc xh : Int) (ksm : 0 ≤ xsm ∧ xsm ≤ 4) (rxc : -2147483648 ≤ xc ∧ xc ≤ 2147483647) (rxh : -2147483648 ≤ xh ∧ xh ≤ 2147483647) (kok : (100 ≤ xc ∧ xc ≤ 20000) ∧ -1 ≤ xh ∧ xh ≤ 10000) : Met l yX6_begin wsX6_begin ({ frames := 2, cells := 0, slots := 0, locals := 48 }) (va_Pc [.ref (o 0), .int (zI xc), .int (zI xh)] (zPreZ D (zTy cs) (zmod cs o A S T xsm xth xam f xtl xpl g) sz)) (zQi D (zmod cs o A S T xsm xth xam f xtl xpl g) sz (zI (A 52)) (zmod cs o (zBeg A xc xh) (zSvF S A xsm) T (zm4 xsm) 0 xam f xtl xpl g)) 0 0 (va_A (zmod cs o A S T xsm xth xam f xtl xpl g) sz) := by
  refine Met.ofW (cc := cX6_begin) (maxL := 4) (ret := (some .int)) (by decide) rfl ?_
  intro p e s m args below meth c s₁ B hml hv
  obtain ⟨rfl, hsz, hP, hK, hD0, hN⟩ := hv
  have hx := B.exec
  have hb := B.bytes
  have hr := B.returns
  have hts := atoms_spec (ws := wsX6_begin) B.pre
  have hown : s.vm.findClass RX6 = some m.cls := findClass_of_methodNamed B.named
  have hlocks := B.notSynchronized
  subst hsz
  obtain ⟨A0, hAe⟩ : ∃ A0, A0 = va_A (zmod cs o A S T xsm xth xam f xtl xpl g) s.heap.size := ⟨_, rfl⟩
  have hD := hD0.self (sz := s.heap.size)
  rw [← hAe] at hD
  have hA : ∀ q : Nat, s.heap.size ≤ q → A0 q := fun q h => by rw [hAe]; exact Or.inr h
  have hS : va_S A0 s.heap s.heap [] := va_S.rf
  have hP : va_P D vwCl (zmod cs o A S T xsm xth xam f xtl xpl g) s.heap := hP
  have hl := lv_entry ([.ref (o 0), .int (zI xc), .int (zI xh)]) (n := 4) (Nat.le_of_ble_eq_true rfl)
  rw [lg_entry_eq]
  generalize (lg_sl ([.ref (o 0), .int (zI xc), .int (zI xh)]) ++ List.replicate (4 - (lg_sl ([.ref (o 0), .int (zI xc), .int (zI xh)])).length) Slot.unset).toArray = ls at hl ⊢
  have hl : lv_has ls 4 [(0, .ref (o 0)), (1, .int (zI xc)), (2, .int (zI xh))] := hl
  have hiX6 : ∀ w ∈ wsX60, w ∈ wsX6_begin := by decide +kernel
  refine lv_aload_n hx hb dX6_begin_0 rfl (lv_at hl 0 rfl) ?_
  refine lv_iload_n hx hb dX6_begin_1 rfl (lv_at hl 1 rfl) ?_
  refine zr_i2l hx hb dX6_begin_2 (by omega) ?_
  refine zr_ldc2 (n := 100) hx hb hown (hts (.constantLong RX6 44 (100)) (List.mem_of_getElem? (i := 1) rfl)) rfl dX6_begin_3 ?_
  refine zr_ldc2 (n := 20000) hx hb hown (hts (.constantLong RX6 99 (20000)) (List.mem_of_getElem? (i := 2) rfl)) rfl dX6_begin_6 ?_
  refine zc_ri (va_runS (As := [.long (zL xc), .long (zL 100), .long (zL 20000)]) (rest := [.ref (o 0)]) ⟨hx, hb, hml, hown, hts⟩ (met_X6_in l xc 100 20000 (by first | assumption | omega) (by first | assumption | omega) (by first | assumption | omega)) (va_cwS 3 hts gX6_begin_X6_in rfl rfl rfl (by decide +kernel) ⟨Nat.le_of_ble_eq_true rfl, Nat.le_of_ble_eq_true rfl⟩) ⟨zTrue.blind, fun U hU hW => ⟨rfl, trivial⟩⟩ rfl rfl hl.1 rfl (lv_room (Nat.le_of_ble_eq_true rfl)) dX6_begin_9 ⟨Nat.le_of_ble_eq_true rfl, Nat.le_of_ble_eq_true rfl⟩) ?_
  refine zr_ifb_eq (tgt := 33) hx hb dX6_begin_12 (by decide) (fun c1 => ?_) (fun c1 => ?_)
  · refine zr_iconst hx hb dX6_begin_33 ?_
    refine zr_iconst hx hb dX6_begin_34 ?_
    refine zc_i (va_runV (As := [.int (zI 0), .int (zI 1)]) (rest := []) ⟨hx, hb, hml, hown, hts⟩ (met_X6_goes l D cs o s.heap.size A S T xsm xth xam f xtl xpl g False True ) (cwV 2 hts gX6_begin_X6_goes rfl rfl rfl (by decide +kernel) ⟨Nat.le_of_ble_eq_true rfl, Nat.le_of_ble_eq_true rfl⟩) ⟨zPreZ.blind, va_recv hK hP (ci := 6) (q0 := 0) rfl rfl, fun U hU hW => zp_Z hP hK hD hN hU hW⟩ rfl rfl hl.1 rfl (lv_room (Nat.le_of_ble_eq_true rfl)) dX6_begin_35 ⟨Nat.le_of_ble_eq_true rfl, Nat.le_of_ble_eq_true rfl⟩) hS hD hA (fun H locs hP hD hS => ?_)
    have hP : va_P D vwCl (zmod cs o A S T xsm 0 xam f xtl xpl g) H := by rw [show zGo False True = 0 from zGo_0 (by first | trivial | omega | (simp only [not_true, not_false_eq_true]) | (intro h; omega)) (by first | trivial | omega | (simp only [not_true, not_false_eq_true]) | (intro h; omega))] at hP; exact hP
    have hD : va_D A0 (zmod cs o A S T xsm 0 xam f xtl xpl g) := zD_addr hD rfl
    refine zr_ifb_ne (tgt := 43) hx hb dX6_begin_38 (by decide) (fun c2 => ?_) (fun c2 => ?_)
    · first | exact absurd c2 (by decide) | exact absurd (by decide) c2
    · exfalso; first | omega | (simp only [and_true, true_and] at c2; omega) | exact c2.2.elim
  · refine lv_iload_n hx hb dX6_begin_15 rfl (lv_at hl 2 rfl) ?_
    refine zr_i2l hx hb dX6_begin_16 (by omega) ?_
    refine zr_ldc2 (n := (-1)) hx hb hown (hts (.constantLong RX6 58 (-1)) (List.mem_of_getElem? (i := 3) rfl)) rfl dX6_begin_17 ?_
    refine zr_ldc2 (n := 10000) hx hb hown (hts (.constantLong RX6 93 (10000)) (List.mem_of_getElem? (i := 4) rfl)) rfl dX6_begin_20 ?_
    refine zc_ri (va_runS (As := [.long (zL xh), .long (zL (-1)), .long (zL 10000)]) (rest := [.ref (o 0)]) ⟨hx, hb, hml, hown, hts⟩ (met_X6_in l xh (-1) 10000 (by first | assumption | omega) (by first | assumption | omega) (by first | assumption | omega)) (va_cwS 3 hts gX6_begin_X6_in rfl rfl rfl (by decide +kernel) ⟨Nat.le_of_ble_eq_true rfl, Nat.le_of_ble_eq_true rfl⟩) ⟨zTrue.blind, fun U hU hW => ⟨rfl, trivial⟩⟩ rfl rfl hl.1 rfl (lv_room (Nat.le_of_ble_eq_true rfl)) dX6_begin_23 ⟨Nat.le_of_ble_eq_true rfl, Nat.le_of_ble_eq_true rfl⟩) ?_
    refine zr_ifb_eq (tgt := 33) hx hb dX6_begin_26 (by decide) (fun c3 => ?_) (fun c3 => ?_)
    · refine zr_iconst hx hb dX6_begin_33 ?_
      refine zr_iconst hx hb dX6_begin_34 ?_
      refine zc_i (va_runV (As := [.int (zI 0), .int (zI 1)]) (rest := []) ⟨hx, hb, hml, hown, hts⟩ (met_X6_goes l D cs o s.heap.size A S T xsm xth xam f xtl xpl g False True ) (cwV 2 hts gX6_begin_X6_goes rfl rfl rfl (by decide +kernel) ⟨Nat.le_of_ble_eq_true rfl, Nat.le_of_ble_eq_true rfl⟩) ⟨zPreZ.blind, va_recv hK hP (ci := 6) (q0 := 0) rfl rfl, fun U hU hW => zp_Z hP hK hD hN hU hW⟩ rfl rfl hl.1 rfl (lv_room (Nat.le_of_ble_eq_true rfl)) dX6_begin_35 ⟨Nat.le_of_ble_eq_true rfl, Nat.le_of_ble_eq_true rfl⟩) hS hD hA (fun H locs hP hD hS => ?_)
      have hP : va_P D vwCl (zmod cs o A S T xsm 0 xam f xtl xpl g) H := by rw [show zGo False True = 0 from zGo_0 (by first | trivial | omega | (simp only [not_true, not_false_eq_true]) | (intro h; omega)) (by first | trivial | omega | (simp only [not_true, not_false_eq_true]) | (intro h; omega))] at hP; exact hP
      have hD : va_D A0 (zmod cs o A S T xsm 0 xam f xtl xpl g) := zD_addr hD rfl
      refine zr_ifb_ne (tgt := 43) hx hb dX6_begin_38 (by decide) (fun c4 => ?_) (fun c4 => ?_)
      · first | exact absurd c4 (by decide) | exact absurd (by decide) c4
      · exfalso; first | omega | (simp only [and_true, true_and] at c4; omega) | exact c4.2.elim
    · refine zr_iconst hx hb dX6_begin_29 ?_
      refine lv_goto (tgt := 34) hx hb dX6_begin_30 (by decide) ?_
      refine zr_iconst hx hb dX6_begin_34 ?_
      refine zc_i (va_runV (As := [.int (zI 1), .int (zI 1)]) (rest := []) ⟨hx, hb, hml, hown, hts⟩ (met_X6_goes l D cs o s.heap.size A S T xsm xth xam f xtl xpl g True True ) (cwV 2 hts gX6_begin_X6_goes rfl rfl rfl (by decide +kernel) ⟨Nat.le_of_ble_eq_true rfl, Nat.le_of_ble_eq_true rfl⟩) ⟨zPreZ.blind, va_recv hK hP (ci := 6) (q0 := 0) rfl rfl, fun U hU hW => zp_Z hP hK hD hN hU hW⟩ rfl rfl hl.1 rfl (lv_room (Nat.le_of_ble_eq_true rfl)) dX6_begin_35 ⟨Nat.le_of_ble_eq_true rfl, Nat.le_of_ble_eq_true rfl⟩) hS hD hA (fun H locs hP hD hS => ?_)
      have hP : va_P D vwCl (zmod cs o A S T xsm 0 xam f xtl xpl g) H := by rw [show zGo True True = 0 from zGo_0 (by first | trivial | omega | (simp only [not_true, not_false_eq_true]) | (intro h; omega)) (by first | trivial | omega | (simp only [not_true, not_false_eq_true]) | (intro h; omega))] at hP; exact hP
      have hD : va_D A0 (zmod cs o A S T xsm 0 xam f xtl xpl g) := zD_addr hD rfl
      refine zr_ifb_ne (tgt := 43) hx hb dX6_begin_38 (by decide) (fun c5 => ?_) (fun c5 => ?_)
      · refine lv_aload_n hx hb dX6_begin_43 rfl (lv_at hl 0 rfl) ?_
        refine zc_v (va_runV (As := []) (rest := []) ⟨hx, hb, hml, hown, hts⟩ (met_X6_save l D cs o H.size A S T xsm 0 xam f xtl xpl g (by first | assumption | omega)) (cwV 0 hts gX6_begin_X6_save rfl rfl rfl (by decide +kernel) ⟨Nat.le_of_ble_eq_true rfl, Nat.le_of_ble_eq_true rfl⟩) ⟨zPreZ.blind, va_recv hK hP (ci := 6) (q0 := 0) rfl rfl, fun U hU hW => zp_Z hP hK hD hN hU hW⟩ rfl rfl hl.1 rfl (lv_room (Nat.le_of_ble_eq_true rfl)) dX6_begin_44 ⟨Nat.le_of_ble_eq_true rfl, Nat.le_of_ble_eq_true rfl⟩) hS hD hA (fun H locs hP hD hS => ?_)
        refine lv_aload_n hx hb dX6_begin_47 rfl (lv_at hl 0 rfl) ?_
        refine va_get (D := D) (ci := 6) (v := .ref (o 1)) (C := RX6) (T := TX6) (N := 10) hx hb hts hiX6 hown hK hP 0 rfl rfl 0 (by decide) (hts (.fieldLink RX6 7 "ChargeEstimatorModel" "all" "[J") (List.mem_of_getElem? (i := 5) rfl)) (fun _ h9 => h9) rfl dX6_begin_48 ?_
        refine zr_bipush hx hb dX6_begin_51 (by decide) ?_
        refine zr_lald (D := D) (g := A) hx hb hK hP 1 2 rfl rfl (by decide) (by decide) dX6_begin_53 ?_
        refine zr_l2i hx hb dX6_begin_54 ?_
        refine lv_istore_n (lv' := [(3, .int (zI (A 52))), (0, .ref (o 0)), (1, .int (zI xc)), (2, .int (zI xh))]) hx hb dX6_begin_55 rfl hl (by decide) rfl (fun ls hl => ?_)
        refine lv_aload_n hx hb dX6_begin_56 rfl (lv_at hl 1 rfl) ?_
        refine lv_iload_n hx hb dX6_begin_57 rfl (lv_at hl 2 rfl) ?_
        refine zr_i2l hx hb dX6_begin_58 (by omega) ?_
        refine lv_iload_n hx hb dX6_begin_59 rfl (lv_at hl 3 rfl) ?_
        refine zr_i2l hx hb dX6_begin_60 (by omega) ?_
        refine zc_v (va_runV (As := [.long (zL xc), .long (zL xh)]) (rest := []) ⟨hx, hb, hml, hown, hts⟩ (met_X6_begins l D cs o H.size A (zSvF S A xsm) T (zm4 xsm) 0 xam f xtl xpl g xc xh (by first | assumption | omega) (by first | assumption | omega)) (cwV 2 hts gX6_begin_X6_begins rfl rfl rfl (by decide +kernel) ⟨Nat.le_of_ble_eq_true rfl, Nat.le_of_ble_eq_true rfl⟩) ⟨zPreZ.blind, va_recv hK hP (ci := 6) (q0 := 0) rfl rfl, fun U hU hW => zp_Z hP hK hD hN hU hW⟩ rfl rfl hl.1 rfl (lv_room (Nat.le_of_ble_eq_true rfl)) dX6_begin_61 ⟨Nat.le_of_ble_eq_true rfl, Nat.le_of_ble_eq_true rfl⟩) hS hD hA (fun H locs hP hD hS => ?_)
        refine lv_iload_n hx hb dX6_begin_64 rfl (lv_at hl 0 rfl) ?_
        have hP9 : va_P D vwCl (zmod cs o (zBeg A xc xh) (zSvF S A xsm) T (zm4 xsm) 0 xam f xtl xpl g) H := hP
        have hD9 : va_D A0 (zmod cs o (zBeg A xc xh) (zSvF S A xsm) T (zm4 xsm) 0 xam f xtl xpl g) := zD_addr hD rfl
        subst hAe
        exact W.iret hx hb hr (fun t ht hW => ⟨⟨_, (), rfl, (congrArg zI (show A 52 = A 52 from by rfl)), by rw [ht]; exact hP9, hD9⟩, hS.F ht⟩) hS.2.2 dX6_begin_65
      · first | exact absurd c5 (by decide) | exact absurd (by decide) c5
set_option maxHeartbeats 4000000 in
set_option maxRecDepth 100000 in
theorem met_X6_begin_no1 (l : Launch) (D : va_G) (cs : Nat → ClassId) (o : Nat → Nat) (sz : Nat) (A S T : Int → Int) (xsm xth xam : Int) (f : Int → Int) (xtl xpl : Int) (g : Int → Int) (xc xh : Int) (rxc : -2147483648 ≤ xc ∧ xc ≤ 2147483647) (rxh : -2147483648 ≤ xh ∧ xh ≤ 2147483647) (kno : ¬ ((100 ≤ xc ∧ xc ≤ 20000) ∧ -1 ≤ xh ∧ xh ≤ 10000)) : Met l yX6_begin wsX6_begin ({ frames := 1, cells := 0, slots := 0, locals := 25 }) (va_Pc [.ref (o 0), .int (zI xc), .int (zI xh)] (zPreZ D (zTy cs) (zmod cs o A S T xsm xth xam f xtl xpl g) sz)) (zQi D (zmod cs o A S T xsm xth xam f xtl xpl g) sz (zI (0)) (zmod cs o A S T xsm 1 xam f xtl xpl g)) 0 0 (va_A (zmod cs o A S T xsm xth xam f xtl xpl g) sz) := by
  refine Met.ofW (cc := cX6_begin) (maxL := 4) (ret := (some .int)) (by decide) rfl ?_
  intro p e s m args below meth c s₁ B hml hv
  obtain ⟨rfl, hsz, hP, hK, hD0, hN⟩ := hv
  have hx := B.exec
  have hb := B.bytes
  have hr := B.returns
  have hts := atoms_spec (ws := wsX6_begin) B.pre
  have hown : s.vm.findClass RX6 = some m.cls := findClass_of_methodNamed B.named
  have hlocks := B.notSynchronized
  subst hsz
  obtain ⟨A0, hAe⟩ : ∃ A0, A0 = va_A (zmod cs o A S T xsm xth xam f xtl xpl g) s.heap.size := ⟨_, rfl⟩
  have hD := hD0.self (sz := s.heap.size)
  rw [← hAe] at hD
  have hA : ∀ q : Nat, s.heap.size ≤ q → A0 q := fun q h => by rw [hAe]; exact Or.inr h
  have hS : va_S A0 s.heap s.heap [] := va_S.rf
  have hP : va_P D vwCl (zmod cs o A S T xsm xth xam f xtl xpl g) s.heap := hP
  have hl := lv_entry ([.ref (o 0), .int (zI xc), .int (zI xh)]) (n := 4) (Nat.le_of_ble_eq_true rfl)
  rw [lg_entry_eq]
  generalize (lg_sl ([.ref (o 0), .int (zI xc), .int (zI xh)]) ++ List.replicate (4 - (lg_sl ([.ref (o 0), .int (zI xc), .int (zI xh)])).length) Slot.unset).toArray = ls at hl ⊢
  have hl : lv_has ls 4 [(0, .ref (o 0)), (1, .int (zI xc)), (2, .int (zI xh))] := hl
  refine lv_aload_n hx hb dX6_begin_0 rfl (lv_at hl 0 rfl) ?_
  refine lv_iload_n hx hb dX6_begin_1 rfl (lv_at hl 1 rfl) ?_
  refine zr_i2l hx hb dX6_begin_2 (by omega) ?_
  refine zr_ldc2 (n := 100) hx hb hown (hts (.constantLong RX6 44 (100)) (List.mem_of_getElem? (i := 1) rfl)) rfl dX6_begin_3 ?_
  refine zr_ldc2 (n := 20000) hx hb hown (hts (.constantLong RX6 99 (20000)) (List.mem_of_getElem? (i := 2) rfl)) rfl dX6_begin_6 ?_
  refine zc_ri (va_runS (As := [.long (zL xc), .long (zL 100), .long (zL 20000)]) (rest := [.ref (o 0)]) ⟨hx, hb, hml, hown, hts⟩ (met_X6_in l xc 100 20000 (by first | assumption | omega) (by first | assumption | omega) (by first | assumption | omega)) (va_cwS 3 hts gX6_begin_X6_in rfl rfl rfl (by decide +kernel) ⟨Nat.le_of_ble_eq_true rfl, Nat.le_of_ble_eq_true rfl⟩) ⟨zTrue.blind, fun U hU hW => ⟨rfl, trivial⟩⟩ rfl rfl hl.1 rfl (lv_room (Nat.le_of_ble_eq_true rfl)) dX6_begin_9 ⟨Nat.le_of_ble_eq_true rfl, Nat.le_of_ble_eq_true rfl⟩) ?_
  refine zr_ifb_eq (tgt := 33) hx hb dX6_begin_12 (by decide) (fun c1 => ?_) (fun c1 => ?_)
  · refine zr_iconst hx hb dX6_begin_33 ?_
    refine zr_iconst hx hb dX6_begin_34 ?_
    refine zc_i (va_runV (As := [.int (zI 0), .int (zI 1)]) (rest := []) ⟨hx, hb, hml, hown, hts⟩ (met_X6_goes l D cs o s.heap.size A S T xsm xth xam f xtl xpl g False True ) (cwV 2 hts gX6_begin_X6_goes rfl rfl rfl (by decide +kernel) ⟨Nat.le_of_ble_eq_true rfl, Nat.le_of_ble_eq_true rfl⟩) ⟨zPreZ.blind, va_recv hK hP (ci := 6) (q0 := 0) rfl rfl, fun U hU hW => zp_Z hP hK hD hN hU hW⟩ rfl rfl hl.1 rfl (lv_room (Nat.le_of_ble_eq_true rfl)) dX6_begin_35 ⟨Nat.le_of_ble_eq_true rfl, Nat.le_of_ble_eq_true rfl⟩) hS hD hA (fun H locs hP hD hS => ?_)
    have hP : va_P D vwCl (zmod cs o A S T xsm 1 xam f xtl xpl g) H := by rw [show zGo False True = 1 from zGo_1 (by first | trivial | omega | (simp only [not_true, not_false_eq_true]) | (intro h; omega))] at hP; exact hP
    have hD : va_D A0 (zmod cs o A S T xsm 1 xam f xtl xpl g) := zD_addr hD rfl
    refine zr_ifb_ne (tgt := 43) hx hb dX6_begin_38 (by decide) (fun c2 => ?_) (fun c2 => ?_)
    · first | exact absurd c2 (by decide) | exact absurd (by decide) c2
    · refine zr_iconst hx hb dX6_begin_41 ?_
      have hP9 : va_P D vwCl (zmod cs o A S T xsm 1 xam f xtl xpl g) H := hP
      have hD9 : va_D A0 (zmod cs o A S T xsm 1 xam f xtl xpl g) := zD_addr hD rfl
      subst hAe
      exact W.iret hx hb hr (fun t ht hW => ⟨⟨_, (), rfl, (congrArg zI (show 0 = 0 from by rfl)), by rw [ht]; exact hP9, hD9⟩, hS.F ht⟩) hS.2.2 dX6_begin_42
  · refine lv_iload_n hx hb dX6_begin_15 rfl (lv_at hl 2 rfl) ?_
    refine zr_i2l hx hb dX6_begin_16 (by omega) ?_
    refine zr_ldc2 (n := (-1)) hx hb hown (hts (.constantLong RX6 58 (-1)) (List.mem_of_getElem? (i := 3) rfl)) rfl dX6_begin_17 ?_
    refine zr_ldc2 (n := 10000) hx hb hown (hts (.constantLong RX6 93 (10000)) (List.mem_of_getElem? (i := 4) rfl)) rfl dX6_begin_20 ?_
    refine zc_ri (va_runS (As := [.long (zL xh), .long (zL (-1)), .long (zL 10000)]) (rest := [.ref (o 0)]) ⟨hx, hb, hml, hown, hts⟩ (met_X6_in l xh (-1) 10000 (by first | assumption | omega) (by first | assumption | omega) (by first | assumption | omega)) (va_cwS 3 hts gX6_begin_X6_in rfl rfl rfl (by decide +kernel) ⟨Nat.le_of_ble_eq_true rfl, Nat.le_of_ble_eq_true rfl⟩) ⟨zTrue.blind, fun U hU hW => ⟨rfl, trivial⟩⟩ rfl rfl hl.1 rfl (lv_room (Nat.le_of_ble_eq_true rfl)) dX6_begin_23 ⟨Nat.le_of_ble_eq_true rfl, Nat.le_of_ble_eq_true rfl⟩) ?_
    refine zr_ifb_eq (tgt := 33) hx hb dX6_begin_26 (by decide) (fun c3 => ?_) (fun c3 => ?_)
    · refine zr_iconst hx hb dX6_begin_33 ?_
      refine zr_iconst hx hb dX6_begin_34 ?_
      refine zc_i (va_runV (As := [.int (zI 0), .int (zI 1)]) (rest := []) ⟨hx, hb, hml, hown, hts⟩ (met_X6_goes l D cs o s.heap.size A S T xsm xth xam f xtl xpl g False True ) (cwV 2 hts gX6_begin_X6_goes rfl rfl rfl (by decide +kernel) ⟨Nat.le_of_ble_eq_true rfl, Nat.le_of_ble_eq_true rfl⟩) ⟨zPreZ.blind, va_recv hK hP (ci := 6) (q0 := 0) rfl rfl, fun U hU hW => zp_Z hP hK hD hN hU hW⟩ rfl rfl hl.1 rfl (lv_room (Nat.le_of_ble_eq_true rfl)) dX6_begin_35 ⟨Nat.le_of_ble_eq_true rfl, Nat.le_of_ble_eq_true rfl⟩) hS hD hA (fun H locs hP hD hS => ?_)
      have hP : va_P D vwCl (zmod cs o A S T xsm 1 xam f xtl xpl g) H := by rw [show zGo False True = 1 from zGo_1 (by first | trivial | omega | (simp only [not_true, not_false_eq_true]) | (intro h; omega))] at hP; exact hP
      have hD : va_D A0 (zmod cs o A S T xsm 1 xam f xtl xpl g) := zD_addr hD rfl
      refine zr_ifb_ne (tgt := 43) hx hb dX6_begin_38 (by decide) (fun c4 => ?_) (fun c4 => ?_)
      · first | exact absurd c4 (by decide) | exact absurd (by decide) c4
      · refine zr_iconst hx hb dX6_begin_41 ?_
        have hP9 : va_P D vwCl (zmod cs o A S T xsm 1 xam f xtl xpl g) H := hP
        have hD9 : va_D A0 (zmod cs o A S T xsm 1 xam f xtl xpl g) := zD_addr hD rfl
        subst hAe
        exact W.iret hx hb hr (fun t ht hW => ⟨⟨_, (), rfl, (congrArg zI (show 0 = 0 from by rfl)), by rw [ht]; exact hP9, hD9⟩, hS.F ht⟩) hS.2.2 dX6_begin_42
    · refine zr_iconst hx hb dX6_begin_29 ?_
      refine lv_goto (tgt := 34) hx hb dX6_begin_30 (by decide) ?_
      refine zr_iconst hx hb dX6_begin_34 ?_
      refine zc_i (va_runV (As := [.int (zI 1), .int (zI 1)]) (rest := []) ⟨hx, hb, hml, hown, hts⟩ (met_X6_goes l D cs o s.heap.size A S T xsm xth xam f xtl xpl g True True ) (cwV 2 hts gX6_begin_X6_goes rfl rfl rfl (by decide +kernel) ⟨Nat.le_of_ble_eq_true rfl, Nat.le_of_ble_eq_true rfl⟩) ⟨zPreZ.blind, va_recv hK hP (ci := 6) (q0 := 0) rfl rfl, fun U hU hW => zp_Z hP hK hD hN hU hW⟩ rfl rfl hl.1 rfl (lv_room (Nat.le_of_ble_eq_true rfl)) dX6_begin_35 ⟨Nat.le_of_ble_eq_true rfl, Nat.le_of_ble_eq_true rfl⟩) hS hD hA (fun H locs hP hD hS => ?_)
      have hP : va_P D vwCl (zmod cs o A S T xsm 1 xam f xtl xpl g) H := by rw [show zGo True True = 1 from zGo_1 (by first | trivial | omega | (simp only [not_true, not_false_eq_true]) | (intro h; omega))] at hP; exact hP
      have hD : va_D A0 (zmod cs o A S T xsm 1 xam f xtl xpl g) := zD_addr hD rfl
      refine zr_ifb_ne (tgt := 43) hx hb dX6_begin_38 (by decide) (fun c5 => ?_) (fun c5 => ?_)
      · exfalso; first | omega | (simp only [and_true, true_and] at c5; omega) | exact c5.2.elim
      · first | exact absurd c5 (by decide) | exact absurd (by decide) c5
def zLoS (w : Int) : Int := if w = 0 then 900 else if w = 1 then 0 else if w = 2 then 0 else if w = 3 then 1 else if w = 4 then 0 else if w = 5 then 0 else if w = 6 then 1 else if w = 7 then 0 else if w = 8 then 2000 else if w = 9 then 0 else if w = 10 then 1000 else 500
def zHiS (w : Int) : Int := if w = 0 then 1000 else if w = 1 then 10000 else if w = 2 then 20000 else if w = 3 then 50 else if w = 4 then 1000 else if w = 5 then 100 else if w = 6 then 10000 else if w = 7 then 50 else if w = 8 then 5000 else if w = 9 then 10000 else if w = 10 then 4000 else 10000
theorem zB_congr {P Q : Prop} [Decidable P] [Decidable Q] (h : P ↔ Q) : zB P = zB Q := by
  unfold zB
  by_cases hp : P
  · rw [if_pos hp, if_pos (h.mp hp)]
  · rw [if_neg hp, if_neg (fun q => hp (h.mpr q))]
theorem zSR {w a b v : Int} (k : Int) (e : w = k) (h1 : zLoS k = a) (h2 : zHiS k = b) : zB (a ≤ v ∧ v ≤ b) = zB (zLoS w ≤ v ∧ v ≤ zHiS w) := by subst e; subst h1; subst h2; rfl
set_option maxHeartbeats 4000000 in
set_option maxRecDepth 100000 in
theorem met_X6_isValue (l : Launch) (xw xv : Int) (kxw : 0 ≤ xw ∧ xw ≤ 11) (kxv : -2147483648 ≤ xv ∧ xv ≤ 2147483647) : Met l yX6_isValue wsX6_isValue ({ frames := 1, cells := 0, slots := 0, locals := 25 }) (va_Pc [.int (zI xw), .int (zI xv)] (fun _ => True)) (zRi (zI (zB (zLoS xw ≤ xv ∧ xv ≤ zHiS xw)))) 0 0 (fun _ => False) := by
  refine Met.ofW (cc := cX6_isValue) (maxL := 2) (ret := (some .boolean)) (by decide) rfl ?_
  intro p e s m args below meth c s₁ B hml hv
  obtain ⟨rfl, -⟩ := hv
  have hx := B.exec
  have hb := B.bytes
  have hr := B.returns
  have hts := atoms_spec (ws := wsX6_isValue) B.pre
  have hown : s.vm.findClass RX6 = some m.cls := findClass_of_methodNamed B.named
  have hlocks := B.notSynchronized
  have hl := lv_entry ([.int (zI xw), .int (zI xv)]) (n := 2) (Nat.le_of_ble_eq_true rfl)
  rw [lg_entry_eq]
  generalize (lg_sl ([.int (zI xw), .int (zI xv)]) ++ List.replicate (2 - (lg_sl ([.int (zI xw), .int (zI xv)])).length) Slot.unset).toArray = ls at hl ⊢
  have hl : lv_has ls 2 [(0, .int (zI xw)), (1, .int (zI xv))] := hl
  refine lv_iload_n hx hb dX6_isValue_0 rfl (lv_at hl 0 rfl) ?_
  rcases (show xw = 0 ∨ xw = 1 ∨ xw = 2 ∨ xw = 3 ∨ xw = 4 ∨ xw = 5 ∨ xw = 6 ∨ xw = 7 ∨ xw = 8 ∨ xw = 9 ∨ xw = 10 ∨ (xw < 0 ∨ 10 < xw) by omega) with c1 | c1 | c1 | c1 | c1 | c1 | c1 | c1 | c1 | c1 | c1 | c1
  · refine zr_tsIn (tgt := 60) (off := 59) hx hb dX6_isValue_1 c1 (by decide) (by decide) (by decide) rfl (by decide) ?_
    refine lv_iload_n hx hb dX6_isValue_60 rfl (lv_at hl 1 rfl) ?_
    refine zr_i2l hx hb dX6_isValue_61 (by omega) ?_
    refine zr_ldc2 (n := 900) hx hb hown (hts (.constantLong RX6 112 (900)) (List.mem_of_getElem? (i := 1) rfl)) rfl dX6_isValue_62 ?_
    refine zr_ldc2 (n := 1000) hx hb hown (hts (.constantLong RX6 114 (1000)) (List.mem_of_getElem? (i := 2) rfl)) rfl dX6_isValue_65 ?_
    refine zc_ri (va_runS (As := [.long (zL xv), .long (zL 900), .long (zL 1000)]) (rest := []) ⟨hx, hb, hml, hown, hts⟩ (met_X6_in l xv 900 1000 (by first | assumption | omega) (by first | assumption | omega) (by first | assumption | omega)) (va_cwS 3 hts gX6_isValue_X6_in rfl rfl rfl (by decide +kernel) ⟨Nat.le_of_ble_eq_true rfl, Nat.le_of_ble_eq_true rfl⟩) ⟨zTrue.blind, fun U hU hW => ⟨rfl, trivial⟩⟩ rfl rfl hl.1 rfl (lv_room (Nat.le_of_ble_eq_true rfl)) dX6_isValue_68 ⟨Nat.le_of_ble_eq_true rfl, Nat.le_of_ble_eq_true rfl⟩) ?_
    exact W.zret hx hb hr (zbool_n (by exact zB_r _)) (fun t ht hW => ⟨_, rfl, (congrArg zI (show zB (900 ≤ xv ∧ xv ≤ 1000) = zB (zLoS xw ≤ xv ∧ xv ≤ zHiS xw) from by first | exact zSR _ (by assumption) rfl rfl | exact zSR 11 (by omega) rfl rfl)), ht⟩) (fun q hq => absurd hq List.not_mem_nil) dX6_isValue_71
  · refine zr_tsIn (tgt := 72) (off := 71) hx hb dX6_isValue_1 c1 (by decide) (by decide) (by decide) rfl (by decide) ?_
    refine lv_iload_n hx hb dX6_isValue_72 rfl (lv_at hl 1 rfl) ?_
    refine zr_i2l hx hb dX6_isValue_73 (by omega) ?_
    refine zr_lconst0 hx hb dX6_isValue_74 ?_
    refine zr_ldc2 (n := 10000) hx hb hown (hts (.constantLong RX6 93 (10000)) (List.mem_of_getElem? (i := 3) rfl)) rfl dX6_isValue_75 ?_
    refine zc_ri (va_runS (As := [.long (zL xv), .long (zL 0), .long (zL 10000)]) (rest := []) ⟨hx, hb, hml, hown, hts⟩ (met_X6_in l xv 0 10000 (by first | assumption | omega) (by first | assumption | omega) (by first | assumption | omega)) (va_cwS 3 hts gX6_isValue_X6_in rfl rfl rfl (by decide +kernel) ⟨Nat.le_of_ble_eq_true rfl, Nat.le_of_ble_eq_true rfl⟩) ⟨zTrue.blind, fun U hU hW => ⟨rfl, trivial⟩⟩ rfl rfl hl.1 rfl (lv_room (Nat.le_of_ble_eq_true rfl)) dX6_isValue_78 ⟨Nat.le_of_ble_eq_true rfl, Nat.le_of_ble_eq_true rfl⟩) ?_
    exact W.zret hx hb hr (zbool_n (by exact zB_r _)) (fun t ht hW => ⟨_, rfl, (congrArg zI (show zB (0 ≤ xv ∧ xv ≤ 10000) = zB (zLoS xw ≤ xv ∧ xv ≤ zHiS xw) from by first | exact zSR _ (by assumption) rfl rfl | exact zSR 11 (by omega) rfl rfl)), ht⟩) (fun q hq => absurd hq List.not_mem_nil) dX6_isValue_81
  · refine zr_tsIn (tgt := 82) (off := 81) hx hb dX6_isValue_1 c1 (by decide) (by decide) (by decide) rfl (by decide) ?_
    refine lv_iload_n hx hb dX6_isValue_82 rfl (lv_at hl 1 rfl) ?_
    refine zr_i2l hx hb dX6_isValue_83 (by omega) ?_
    refine zr_lconst0 hx hb dX6_isValue_84 ?_
    refine zr_ldc2 (n := 20000) hx hb hown (hts (.constantLong RX6 99 (20000)) (List.mem_of_getElem? (i := 4) rfl)) rfl dX6_isValue_85 ?_
    refine zc_ri (va_runS (As := [.long (zL xv), .long (zL 0), .long (zL 20000)]) (rest := []) ⟨hx, hb, hml, hown, hts⟩ (met_X6_in l xv 0 20000 (by first | assumption | omega) (by first | assumption | omega) (by first | assumption | omega)) (va_cwS 3 hts gX6_isValue_X6_in rfl rfl rfl (by decide +kernel) ⟨Nat.le_of_ble_eq_true rfl, Nat.le_of_ble_eq_true rfl⟩) ⟨zTrue.blind, fun U hU hW => ⟨rfl, trivial⟩⟩ rfl rfl hl.1 rfl (lv_room (Nat.le_of_ble_eq_true rfl)) dX6_isValue_88 ⟨Nat.le_of_ble_eq_true rfl, Nat.le_of_ble_eq_true rfl⟩) ?_
    exact W.zret hx hb hr (zbool_n (by exact zB_r _)) (fun t ht hW => ⟨_, rfl, (congrArg zI (show zB (0 ≤ xv ∧ xv ≤ 20000) = zB (zLoS xw ≤ xv ∧ xv ≤ zHiS xw) from by first | exact zSR _ (by assumption) rfl rfl | exact zSR 11 (by omega) rfl rfl)), ht⟩) (fun q hq => absurd hq List.not_mem_nil) dX6_isValue_91
  · refine zr_tsIn (tgt := 92) (off := 91) hx hb dX6_isValue_1 c1 (by decide) (by decide) (by decide) rfl (by decide) ?_
    refine lv_iload_n hx hb dX6_isValue_92 rfl (lv_at hl 1 rfl) ?_
    refine zr_i2l hx hb dX6_isValue_93 (by omega) ?_
    refine zr_lconst1 hx hb dX6_isValue_94 ?_
    refine zr_ldc2 (n := 50) hx hb hown (hts (.constantLong RX6 116 (50)) (List.mem_of_getElem? (i := 5) rfl)) rfl dX6_isValue_95 ?_
    refine zc_ri (va_runS (As := [.long (zL xv), .long (zL 1), .long (zL 50)]) (rest := []) ⟨hx, hb, hml, hown, hts⟩ (met_X6_in l xv 1 50 (by first | assumption | omega) (by first | assumption | omega) (by first | assumption | omega)) (va_cwS 3 hts gX6_isValue_X6_in rfl rfl rfl (by decide +kernel) ⟨Nat.le_of_ble_eq_true rfl, Nat.le_of_ble_eq_true rfl⟩) ⟨zTrue.blind, fun U hU hW => ⟨rfl, trivial⟩⟩ rfl rfl hl.1 rfl (lv_room (Nat.le_of_ble_eq_true rfl)) dX6_isValue_98 ⟨Nat.le_of_ble_eq_true rfl, Nat.le_of_ble_eq_true rfl⟩) ?_
    exact W.zret hx hb hr (zbool_n (by exact zB_r _)) (fun t ht hW => ⟨_, rfl, (congrArg zI (show zB (1 ≤ xv ∧ xv ≤ 50) = zB (zLoS xw ≤ xv ∧ xv ≤ zHiS xw) from by first | exact zSR _ (by assumption) rfl rfl | exact zSR 11 (by omega) rfl rfl)), ht⟩) (fun q hq => absurd hq List.not_mem_nil) dX6_isValue_101
  · refine zr_tsIn (tgt := 102) (off := 101) hx hb dX6_isValue_1 c1 (by decide) (by decide) (by decide) rfl (by decide) ?_
    refine lv_iload_n hx hb dX6_isValue_102 rfl (lv_at hl 1 rfl) ?_
    refine zr_i2l hx hb dX6_isValue_103 (by omega) ?_
    refine zr_lconst0 hx hb dX6_isValue_104 ?_
    refine zr_ldc2 (n := 1000) hx hb hown (hts (.constantLong RX6 114 (1000)) (List.mem_of_getElem? (i := 2) rfl)) rfl dX6_isValue_105 ?_
    refine zc_ri (va_runS (As := [.long (zL xv), .long (zL 0), .long (zL 1000)]) (rest := []) ⟨hx, hb, hml, hown, hts⟩ (met_X6_in l xv 0 1000 (by first | assumption | omega) (by first | assumption | omega) (by first | assumption | omega)) (va_cwS 3 hts gX6_isValue_X6_in rfl rfl rfl (by decide +kernel) ⟨Nat.le_of_ble_eq_true rfl, Nat.le_of_ble_eq_true rfl⟩) ⟨zTrue.blind, fun U hU hW => ⟨rfl, trivial⟩⟩ rfl rfl hl.1 rfl (lv_room (Nat.le_of_ble_eq_true rfl)) dX6_isValue_108 ⟨Nat.le_of_ble_eq_true rfl, Nat.le_of_ble_eq_true rfl⟩) ?_
    exact W.zret hx hb hr (zbool_n (by exact zB_r _)) (fun t ht hW => ⟨_, rfl, (congrArg zI (show zB (0 ≤ xv ∧ xv ≤ 1000) = zB (zLoS xw ≤ xv ∧ xv ≤ zHiS xw) from by first | exact zSR _ (by assumption) rfl rfl | exact zSR 11 (by omega) rfl rfl)), ht⟩) (fun q hq => absurd hq List.not_mem_nil) dX6_isValue_111
  · refine zr_tsIn (tgt := 112) (off := 111) hx hb dX6_isValue_1 c1 (by decide) (by decide) (by decide) rfl (by decide) ?_
    refine lv_iload_n hx hb dX6_isValue_112 rfl (lv_at hl 1 rfl) ?_
    refine zr_i2l hx hb dX6_isValue_113 (by omega) ?_
    refine zr_lconst0 hx hb dX6_isValue_114 ?_
    refine zr_ldc2 (n := 100) hx hb hown (hts (.constantLong RX6 44 (100)) (List.mem_of_getElem? (i := 6) rfl)) rfl dX6_isValue_115 ?_
    refine zc_ri (va_runS (As := [.long (zL xv), .long (zL 0), .long (zL 100)]) (rest := []) ⟨hx, hb, hml, hown, hts⟩ (met_X6_in l xv 0 100 (by first | assumption | omega) (by first | assumption | omega) (by first | assumption | omega)) (va_cwS 3 hts gX6_isValue_X6_in rfl rfl rfl (by decide +kernel) ⟨Nat.le_of_ble_eq_true rfl, Nat.le_of_ble_eq_true rfl⟩) ⟨zTrue.blind, fun U hU hW => ⟨rfl, trivial⟩⟩ rfl rfl hl.1 rfl (lv_room (Nat.le_of_ble_eq_true rfl)) dX6_isValue_118 ⟨Nat.le_of_ble_eq_true rfl, Nat.le_of_ble_eq_true rfl⟩) ?_
    exact W.zret hx hb hr (zbool_n (by exact zB_r _)) (fun t ht hW => ⟨_, rfl, (congrArg zI (show zB (0 ≤ xv ∧ xv ≤ 100) = zB (zLoS xw ≤ xv ∧ xv ≤ zHiS xw) from by first | exact zSR _ (by assumption) rfl rfl | exact zSR 11 (by omega) rfl rfl)), ht⟩) (fun q hq => absurd hq List.not_mem_nil) dX6_isValue_121
  · refine zr_tsIn (tgt := 122) (off := 121) hx hb dX6_isValue_1 c1 (by decide) (by decide) (by decide) rfl (by decide) ?_
    refine lv_iload_n hx hb dX6_isValue_122 rfl (lv_at hl 1 rfl) ?_
    refine zr_i2l hx hb dX6_isValue_123 (by omega) ?_
    refine zr_lconst1 hx hb dX6_isValue_124 ?_
    refine zr_ldc2 (n := 10000) hx hb hown (hts (.constantLong RX6 93 (10000)) (List.mem_of_getElem? (i := 3) rfl)) rfl dX6_isValue_125 ?_
    refine zc_ri (va_runS (As := [.long (zL xv), .long (zL 1), .long (zL 10000)]) (rest := []) ⟨hx, hb, hml, hown, hts⟩ (met_X6_in l xv 1 10000 (by first | assumption | omega) (by first | assumption | omega) (by first | assumption | omega)) (va_cwS 3 hts gX6_isValue_X6_in rfl rfl rfl (by decide +kernel) ⟨Nat.le_of_ble_eq_true rfl, Nat.le_of_ble_eq_true rfl⟩) ⟨zTrue.blind, fun U hU hW => ⟨rfl, trivial⟩⟩ rfl rfl hl.1 rfl (lv_room (Nat.le_of_ble_eq_true rfl)) dX6_isValue_128 ⟨Nat.le_of_ble_eq_true rfl, Nat.le_of_ble_eq_true rfl⟩) ?_
    exact W.zret hx hb hr (zbool_n (by exact zB_r _)) (fun t ht hW => ⟨_, rfl, (congrArg zI (show zB (1 ≤ xv ∧ xv ≤ 10000) = zB (zLoS xw ≤ xv ∧ xv ≤ zHiS xw) from by first | exact zSR _ (by assumption) rfl rfl | exact zSR 11 (by omega) rfl rfl)), ht⟩) (fun q hq => absurd hq List.not_mem_nil) dX6_isValue_131
  · refine zr_tsIn (tgt := 132) (off := 131) hx hb dX6_isValue_1 c1 (by decide) (by decide) (by decide) rfl (by decide) ?_
    refine lv_iload_n hx hb dX6_isValue_132 rfl (lv_at hl 1 rfl) ?_
    refine zr_i2l hx hb dX6_isValue_133 (by omega) ?_
    refine zr_lconst0 hx hb dX6_isValue_134 ?_
    refine zr_ldc2 (n := 50) hx hb hown (hts (.constantLong RX6 116 (50)) (List.mem_of_getElem? (i := 5) rfl)) rfl dX6_isValue_135 ?_
    refine zc_ri (va_runS (As := [.long (zL xv), .long (zL 0), .long (zL 50)]) (rest := []) ⟨hx, hb, hml, hown, hts⟩ (met_X6_in l xv 0 50 (by first | assumption | omega) (by first | assumption | omega) (by first | assumption | omega)) (va_cwS 3 hts gX6_isValue_X6_in rfl rfl rfl (by decide +kernel) ⟨Nat.le_of_ble_eq_true rfl, Nat.le_of_ble_eq_true rfl⟩) ⟨zTrue.blind, fun U hU hW => ⟨rfl, trivial⟩⟩ rfl rfl hl.1 rfl (lv_room (Nat.le_of_ble_eq_true rfl)) dX6_isValue_138 ⟨Nat.le_of_ble_eq_true rfl, Nat.le_of_ble_eq_true rfl⟩) ?_
    exact W.zret hx hb hr (zbool_n (by exact zB_r _)) (fun t ht hW => ⟨_, rfl, (congrArg zI (show zB (0 ≤ xv ∧ xv ≤ 50) = zB (zLoS xw ≤ xv ∧ xv ≤ zHiS xw) from by first | exact zSR _ (by assumption) rfl rfl | exact zSR 11 (by omega) rfl rfl)), ht⟩) (fun q hq => absurd hq List.not_mem_nil) dX6_isValue_141
  · refine zr_tsIn (tgt := 142) (off := 141) hx hb dX6_isValue_1 c1 (by decide) (by decide) (by decide) rfl (by decide) ?_
    refine lv_iload_n hx hb dX6_isValue_142 rfl (lv_at hl 1 rfl) ?_
    refine zr_i2l hx hb dX6_isValue_143 (by omega) ?_
    refine zr_ldc2 (n := 2000) hx hb hown (hts (.constantLong RX6 56 (2000)) (List.mem_of_getElem? (i := 7) rfl)) rfl dX6_isValue_144 ?_
    refine zr_ldc2 (n := 5000) hx hb hown (hts (.constantLong RX6 30 (5000)) (List.mem_of_getElem? (i := 8) rfl)) rfl dX6_isValue_147 ?_
    refine zc_ri (va_runS (As := [.long (zL xv), .long (zL 2000), .long (zL 5000)]) (rest := []) ⟨hx, hb, hml, hown, hts⟩ (met_X6_in l xv 2000 5000 (by first | assumption | omega) (by first | assumption | omega) (by first | assumption | omega)) (va_cwS 3 hts gX6_isValue_X6_in rfl rfl rfl (by decide +kernel) ⟨Nat.le_of_ble_eq_true rfl, Nat.le_of_ble_eq_true rfl⟩) ⟨zTrue.blind, fun U hU hW => ⟨rfl, trivial⟩⟩ rfl rfl hl.1 rfl (lv_room (Nat.le_of_ble_eq_true rfl)) dX6_isValue_150 ⟨Nat.le_of_ble_eq_true rfl, Nat.le_of_ble_eq_true rfl⟩) ?_
    exact W.zret hx hb hr (zbool_n (by exact zB_r _)) (fun t ht hW => ⟨_, rfl, (congrArg zI (show zB (2000 ≤ xv ∧ xv ≤ 5000) = zB (zLoS xw ≤ xv ∧ xv ≤ zHiS xw) from by first | exact zSR _ (by assumption) rfl rfl | exact zSR 11 (by omega) rfl rfl)), ht⟩) (fun q hq => absurd hq List.not_mem_nil) dX6_isValue_153
  · refine zr_tsIn (tgt := 154) (off := 153) hx hb dX6_isValue_1 c1 (by decide) (by decide) (by decide) rfl (by decide) ?_
    refine lv_iload_n hx hb dX6_isValue_154 rfl (lv_at hl 1 rfl) ?_
    refine zr_i2l hx hb dX6_isValue_155 (by omega) ?_
    refine zr_lconst0 hx hb dX6_isValue_156 ?_
    refine zr_ldc2 (n := 10000) hx hb hown (hts (.constantLong RX6 93 (10000)) (List.mem_of_getElem? (i := 3) rfl)) rfl dX6_isValue_157 ?_
    refine zc_ri (va_runS (As := [.long (zL xv), .long (zL 0), .long (zL 10000)]) (rest := []) ⟨hx, hb, hml, hown, hts⟩ (met_X6_in l xv 0 10000 (by first | assumption | omega) (by first | assumption | omega) (by first | assumption | omega)) (va_cwS 3 hts gX6_isValue_X6_in rfl rfl rfl (by decide +kernel) ⟨Nat.le_of_ble_eq_true rfl, Nat.le_of_ble_eq_true rfl⟩) ⟨zTrue.blind, fun U hU hW => ⟨rfl, trivial⟩⟩ rfl rfl hl.1 rfl (lv_room (Nat.le_of_ble_eq_true rfl)) dX6_isValue_160 ⟨Nat.le_of_ble_eq_true rfl, Nat.le_of_ble_eq_true rfl⟩) ?_
    exact W.zret hx hb hr (zbool_n (by exact zB_r _)) (fun t ht hW => ⟨_, rfl, (congrArg zI (show zB (0 ≤ xv ∧ xv ≤ 10000) = zB (zLoS xw ≤ xv ∧ xv ≤ zHiS xw) from by first | exact zSR _ (by assumption) rfl rfl | exact zSR 11 (by omega) rfl rfl)), ht⟩) (fun q hq => absurd hq List.not_mem_nil) dX6_isValue_163
  · refine zr_tsIn (tgt := 164) (off := 163) hx hb dX6_isValue_1 c1 (by decide) (by decide) (by decide) rfl (by decide) ?_
    refine lv_iload_n hx hb dX6_isValue_164 rfl (lv_at hl 1 rfl) ?_
    refine zr_i2l hx hb dX6_isValue_165 (by omega) ?_
    refine zr_ldc2 (n := 1000) hx hb hown (hts (.constantLong RX6 114 (1000)) (List.mem_of_getElem? (i := 2) rfl)) rfl dX6_isValue_166 ?_
    refine zr_ldc2 (n := 4000) hx hb hown (hts (.constantLong RX6 48 (4000)) (List.mem_of_getElem? (i := 9) rfl)) rfl dX6_isValue_169 ?_
    refine zc_ri (va_runS (As := [.long (zL xv), .long (zL 1000), .long (zL 4000)]) (rest := []) ⟨hx, hb, hml, hown, hts⟩ (met_X6_in l xv 1000 4000 (by first | assumption | omega) (by first | assumption | omega) (by first | assumption | omega)) (va_cwS 3 hts gX6_isValue_X6_in rfl rfl rfl (by decide +kernel) ⟨Nat.le_of_ble_eq_true rfl, Nat.le_of_ble_eq_true rfl⟩) ⟨zTrue.blind, fun U hU hW => ⟨rfl, trivial⟩⟩ rfl rfl hl.1 rfl (lv_room (Nat.le_of_ble_eq_true rfl)) dX6_isValue_172 ⟨Nat.le_of_ble_eq_true rfl, Nat.le_of_ble_eq_true rfl⟩) ?_
    exact W.zret hx hb hr (zbool_n (by exact zB_r _)) (fun t ht hW => ⟨_, rfl, (congrArg zI (show zB (1000 ≤ xv ∧ xv ≤ 4000) = zB (zLoS xw ≤ xv ∧ xv ≤ zHiS xw) from by first | exact zSR _ (by assumption) rfl rfl | exact zSR 11 (by omega) rfl rfl)), ht⟩) (fun q hq => absurd hq List.not_mem_nil) dX6_isValue_175
  · refine zr_tsOut (tgt := 176) hx hb dX6_isValue_1 (by omega) c1 (by decide) ?_
    refine lv_iload_n hx hb dX6_isValue_176 rfl (lv_at hl 1 rfl) ?_
    refine zr_i2l hx hb dX6_isValue_177 (by omega) ?_
    refine zr_ldc2 (n := 500) hx hb hown (hts (.constantLong RX6 28 (500)) (List.mem_of_getElem? (i := 10) rfl)) rfl dX6_isValue_178 ?_
    refine zr_ldc2 (n := 10000) hx hb hown (hts (.constantLong RX6 93 (10000)) (List.mem_of_getElem? (i := 3) rfl)) rfl dX6_isValue_181 ?_
    refine zc_ri (va_runS (As := [.long (zL xv), .long (zL 500), .long (zL 10000)]) (rest := []) ⟨hx, hb, hml, hown, hts⟩ (met_X6_in l xv 500 10000 (by first | assumption | omega) (by first | assumption | omega) (by first | assumption | omega)) (va_cwS 3 hts gX6_isValue_X6_in rfl rfl rfl (by decide +kernel) ⟨Nat.le_of_ble_eq_true rfl, Nat.le_of_ble_eq_true rfl⟩) ⟨zTrue.blind, fun U hU hW => ⟨rfl, trivial⟩⟩ rfl rfl hl.1 rfl (lv_room (Nat.le_of_ble_eq_true rfl)) dX6_isValue_184 ⟨Nat.le_of_ble_eq_true rfl, Nat.le_of_ble_eq_true rfl⟩) ?_
    exact W.zret hx hb hr (zbool_n (by exact zB_r _)) (fun t ht hW => ⟨_, rfl, (congrArg zI (show zB (500 ≤ xv ∧ xv ≤ 10000) = zB (zLoS xw ≤ xv ∧ xv ≤ zHiS xw) from by first | exact zSR _ (by assumption) rfl rfl | exact zSR 11 (by omega) rfl rfl)), ht⟩) (fun q hq => absurd hq List.not_mem_nil) dX6_isValue_187
theorem zSt_set {A : Int → Int} {w v : Int} (h : zSt A) (hw : 0 ≤ w ∧ w ≤ 11) (hv : zLoS w ≤ v ∧ v ≤ zHiS w) : zSt (zU A w v) := by
  obtain ⟨s0, s1, s2, s3, s4, s5, s6, s7, s8, s9, s10, s11⟩ := h
  rcases (show w = 0 ∨ w = 1 ∨ w = 2 ∨ w = 3 ∨ w = 4 ∨ w = 5 ∨ w = 6 ∨ w = 7 ∨ w = 8 ∨ w = 9 ∨ w = 10 ∨ w = 11 by omega) with rfl | rfl | rfl | rfl | rfl | rfl | rfl | rfl | rfl | rfl | rfl | rfl
  · exact ⟨hv, s1, s2, s3, s4, s5, s6, s7, s8, s9, s10, s11⟩
  · exact ⟨s0, hv, s2, s3, s4, s5, s6, s7, s8, s9, s10, s11⟩
  · exact ⟨s0, s1, hv, s3, s4, s5, s6, s7, s8, s9, s10, s11⟩
  · exact ⟨s0, s1, s2, hv, s4, s5, s6, s7, s8, s9, s10, s11⟩
  · exact ⟨s0, s1, s2, s3, hv, s5, s6, s7, s8, s9, s10, s11⟩
  · exact ⟨s0, s1, s2, s3, s4, hv, s6, s7, s8, s9, s10, s11⟩
  · exact ⟨s0, s1, s2, s3, s4, s5, hv, s7, s8, s9, s10, s11⟩
  · exact ⟨s0, s1, s2, s3, s4, s5, s6, hv, s8, s9, s10, s11⟩
  · exact ⟨s0, s1, s2, s3, s4, s5, s6, s7, hv, s9, s10, s11⟩
  · exact ⟨s0, s1, s2, s3, s4, s5, s6, s7, s8, hv, s10, s11⟩
  · exact ⟨s0, s1, s2, s3, s4, s5, s6, s7, s8, s9, hv, s11⟩
  · exact ⟨s0, s1, s2, s3, s4, s5, s6, s7, s8, s9, s10, hv⟩
set_option maxHeartbeats 4000000 in
set_option maxRecDepth 100000 in
theorem met_X6_set_ok (l : Launch) (D : va_G) (cs : Nat → ClassId) (o : Nat → Nat) (sz : Nat) (A S T : Int → Int) (xsm xth xam : Int) (f : Int → Int) (xtl xpl : Int) (g : Int → Int) (n : Int) (xw xv : Int) (hI : zOK n A) (hn : 0 ≤ n ∧ n ≤ 3100000) (ksm : 0 ≤ xsm ∧ xsm ≤ 4) (rxw : -2147483648 ≤ xw ∧ xw ≤ 2147483647) (rxv : -2147483648 ≤ xv ∧ xv ≤ 2147483647) (kok : (0 ≤ xw ∧ xw ≤ 11) ∧ (zLoS xw ≤ xv ∧ xv ≤ zHiS xw)) : Met l yX6_set wsX6_set ({ frames := 2, cells := 0, slots := 0, locals := 46 }) (va_Pc [.ref (o 0), .int (zI xw), .int (zI xv)] (zPreZ D (zTy cs) (zmod cs o A S T xsm xth xam f xtl xpl g) sz)) (zQi D (zmod cs o A S T xsm xth xam f xtl xpl g) sz (zI (A xw)) (zmod cs o (zSet A xw xv) (zSvF S A xsm) T (zm4 xsm) 0 xam f xtl xpl g)) 0 0 (va_A (zmod cs o A S T xsm xth xam f xtl xpl g) sz) := by
  refine Met.ofW (cc := cX6_set) (maxL := 4) (ret := (some .int)) (by decide) rfl ?_
  intro p e s m args below meth c s₁ B hml hv
  obtain ⟨rfl, hsz, hP, hK, hD0, hN⟩ := hv
  have hx := B.exec
  have hb := B.bytes
  have hr := B.returns
  have hts := atoms_spec (ws := wsX6_set) B.pre
  have hown : s.vm.findClass RX6 = some m.cls := findClass_of_methodNamed B.named
  have hlocks := B.notSynchronized
  subst hsz
  obtain ⟨A0, hAe⟩ : ∃ A0, A0 = va_A (zmod cs o A S T xsm xth xam f xtl xpl g) s.heap.size := ⟨_, rfl⟩
  have hD := hD0.self (sz := s.heap.size)
  rw [← hAe] at hD
  have hA : ∀ q : Nat, s.heap.size ≤ q → A0 q := fun q h => by rw [hAe]; exact Or.inr h
  have hS : va_S A0 s.heap s.heap [] := va_S.rf
  have hP : va_P D vwCl (zmod cs o A S T xsm xth xam f xtl xpl g) s.heap := hP
  have hl := lv_entry ([.ref (o 0), .int (zI xw), .int (zI xv)]) (n := 4) (Nat.le_of_ble_eq_true rfl)
  rw [lg_entry_eq]
  generalize (lg_sl ([.ref (o 0), .int (zI xw), .int (zI xv)]) ++ List.replicate (4 - (lg_sl ([.ref (o 0), .int (zI xw), .int (zI xv)])).length) Slot.unset).toArray = ls at hl ⊢
  have hl : lv_has ls 4 [(0, .ref (o 0)), (1, .int (zI xw)), (2, .int (zI xv))] := hl
  have hiX6 : ∀ w ∈ wsX60, w ∈ wsX6_set := by decide +kernel
  obtain ⟨qN, qC, qQ, qL, qH, q40, q41, q42, q43, q44, q45, q46, q47, q48, q49, q50, q51, q52, qhad, qlast, qrow⟩ := zOK_q hI
  have hC := zOK_C hI
  refine lv_aload_n hx hb dX6_set_0 rfl (lv_at hl 0 rfl) ?_
  refine lv_iload_n hx hb dX6_set_1 rfl (lv_at hl 1 rfl) ?_
  refine zr_i2l hx hb dX6_set_2 (by omega) ?_
  refine zr_lconst0 hx hb dX6_set_3 ?_
  refine zr_ldc2 (n := 11) hx hb hown (hts (.constantLong RX6 122 (11)) (List.mem_of_getElem? (i := 1) rfl)) rfl dX6_set_4 ?_
  refine zc_ri (va_runS (As := [.long (zL xw), .long (zL 0), .long (zL 11)]) (rest := [.ref (o 0)]) ⟨hx, hb, hml, hown, hts⟩ (met_X6_in l xw 0 11 (by first | assumption | omega) (by first | assumption | omega) (by first | assumption | omega)) (va_cwS 3 hts gX6_set_X6_in rfl rfl rfl (by decide +kernel) ⟨Nat.le_of_ble_eq_true rfl, Nat.le_of_ble_eq_true rfl⟩) ⟨zTrue.blind, fun U hU hW => ⟨rfl, trivial⟩⟩ rfl rfl hl.1 rfl (lv_room (Nat.le_of_ble_eq_true rfl)) dX6_set_7 ⟨Nat.le_of_ble_eq_true rfl, Nat.le_of_ble_eq_true rfl⟩) ?_
  refine zr_ifb_eq (tgt := 25) hx hb dX6_set_10 (by decide) (fun c1 => ?_) (fun c1 => ?_)
  · refine zr_iconst hx hb dX6_set_25 ?_
    refine zr_iconst hx hb dX6_set_26 ?_
    refine zc_i (va_runV (As := [.int (zI 0), .int (zI 1)]) (rest := []) ⟨hx, hb, hml, hown, hts⟩ (met_X6_goes l D cs o s.heap.size A S T xsm xth xam f xtl xpl g False True ) (cwV 2 hts gX6_set_X6_goes rfl rfl rfl (by decide +kernel) ⟨Nat.le_of_ble_eq_true rfl, Nat.le_of_ble_eq_true rfl⟩) ⟨zPreZ.blind, va_recv hK hP (ci := 6) (q0 := 0) rfl rfl, fun U hU hW => zp_Z hP hK hD hN hU hW⟩ rfl rfl hl.1 rfl (lv_room (Nat.le_of_ble_eq_true rfl)) dX6_set_27 ⟨Nat.le_of_ble_eq_true rfl, Nat.le_of_ble_eq_true rfl⟩) hS hD hA (fun H locs hP hD hS => ?_)
    have hP : va_P D vwCl (zmod cs o A S T xsm 0 xam f xtl xpl g) H := by rw [show zGo False True = 0 from zGo_0 (by first | trivial | omega | (simp only [not_true, not_false_eq_true]) | (intro h; omega)) (by first | trivial | omega | (simp only [not_true, not_false_eq_true]) | (intro h; omega))] at hP; exact hP
    have hD : va_D A0 (zmod cs o A S T xsm 0 xam f xtl xpl g) := zD_addr hD rfl
    refine zr_ifb_ne (tgt := 35) hx hb dX6_set_30 (by decide) (fun c2 => ?_) (fun c2 => ?_)
    · first | exact absurd c2 (by decide) | exact absurd (by decide) c2
    · exfalso; first | omega | (simp only [and_true, true_and] at c2; omega) | exact c2.2.elim
  · refine lv_iload_n hx hb dX6_set_13 rfl (lv_at hl 1 rfl) ?_
    refine lv_iload_n hx hb dX6_set_14 rfl (lv_at hl 2 rfl) ?_
    refine zc_ri (va_runS (As := [.int (zI xw), .int (zI xv)]) (rest := [.ref (o 0)]) ⟨hx, hb, hml, hown, hts⟩ (met_X6_isValue l xw xv (by first | assumption | omega) (by first | assumption | omega)) (va_cwS 2 hts gX6_set_X6_isValue rfl rfl rfl (by decide +kernel) ⟨Nat.le_of_ble_eq_true rfl, Nat.le_of_ble_eq_true rfl⟩) ⟨zTrue.blind, fun U hU hW => ⟨rfl, trivial⟩⟩ rfl rfl hl.1 rfl (lv_room (Nat.le_of_ble_eq_true rfl)) dX6_set_15 ⟨Nat.le_of_ble_eq_true rfl, Nat.le_of_ble_eq_true rfl⟩) ?_
    refine zr_ifb_eq (tgt := 25) hx hb dX6_set_18 (by decide) (fun c3 => ?_) (fun c3 => ?_)
    · refine zr_iconst hx hb dX6_set_25 ?_
      refine zr_iconst hx hb dX6_set_26 ?_
      refine zc_i (va_runV (As := [.int (zI 0), .int (zI 1)]) (rest := []) ⟨hx, hb, hml, hown, hts⟩ (met_X6_goes l D cs o s.heap.size A S T xsm xth xam f xtl xpl g False True ) (cwV 2 hts gX6_set_X6_goes rfl rfl rfl (by decide +kernel) ⟨Nat.le_of_ble_eq_true rfl, Nat.le_of_ble_eq_true rfl⟩) ⟨zPreZ.blind, va_recv hK hP (ci := 6) (q0 := 0) rfl rfl, fun U hU hW => zp_Z hP hK hD hN hU hW⟩ rfl rfl hl.1 rfl (lv_room (Nat.le_of_ble_eq_true rfl)) dX6_set_27 ⟨Nat.le_of_ble_eq_true rfl, Nat.le_of_ble_eq_true rfl⟩) hS hD hA (fun H locs hP hD hS => ?_)
      have hP : va_P D vwCl (zmod cs o A S T xsm 0 xam f xtl xpl g) H := by rw [show zGo False True = 0 from zGo_0 (by first | trivial | omega | (simp only [not_true, not_false_eq_true]) | (intro h; omega)) (by first | trivial | omega | (simp only [not_true, not_false_eq_true]) | (intro h; omega))] at hP; exact hP
      have hD : va_D A0 (zmod cs o A S T xsm 0 xam f xtl xpl g) := zD_addr hD rfl
      refine zr_ifb_ne (tgt := 35) hx hb dX6_set_30 (by decide) (fun c4 => ?_) (fun c4 => ?_)
      · first | exact absurd c4 (by decide) | exact absurd (by decide) c4
      · exfalso; first | omega | (simp only [and_true, true_and] at c4; omega) | exact c4.2.elim
    · refine zr_iconst hx hb dX6_set_21 ?_
      refine lv_goto (tgt := 26) hx hb dX6_set_22 (by decide) ?_
      refine zr_iconst hx hb dX6_set_26 ?_
      refine zc_i (va_runV (As := [.int (zI 1), .int (zI 1)]) (rest := []) ⟨hx, hb, hml, hown, hts⟩ (met_X6_goes l D cs o s.heap.size A S T xsm xth xam f xtl xpl g True True ) (cwV 2 hts gX6_set_X6_goes rfl rfl rfl (by decide +kernel) ⟨Nat.le_of_ble_eq_true rfl, Nat.le_of_ble_eq_true rfl⟩) ⟨zPreZ.blind, va_recv hK hP (ci := 6) (q0 := 0) rfl rfl, fun U hU hW => zp_Z hP hK hD hN hU hW⟩ rfl rfl hl.1 rfl (lv_room (Nat.le_of_ble_eq_true rfl)) dX6_set_27 ⟨Nat.le_of_ble_eq_true rfl, Nat.le_of_ble_eq_true rfl⟩) hS hD hA (fun H locs hP hD hS => ?_)
      have hP : va_P D vwCl (zmod cs o A S T xsm 0 xam f xtl xpl g) H := by rw [show zGo True True = 0 from zGo_0 (by first | trivial | omega | (simp only [not_true, not_false_eq_true]) | (intro h; omega)) (by first | trivial | omega | (simp only [not_true, not_false_eq_true]) | (intro h; omega))] at hP; exact hP
      have hD : va_D A0 (zmod cs o A S T xsm 0 xam f xtl xpl g) := zD_addr hD rfl
      refine zr_ifb_ne (tgt := 35) hx hb dX6_set_30 (by decide) (fun c5 => ?_) (fun c5 => ?_)
      · refine lv_aload_n hx hb dX6_set_35 rfl (lv_at hl 0 rfl) ?_
        refine zc_v (va_runV (As := []) (rest := []) ⟨hx, hb, hml, hown, hts⟩ (met_X6_save l D cs o H.size A S T xsm 0 xam f xtl xpl g (by first | assumption | omega)) (cwV 0 hts gX6_set_X6_save rfl rfl rfl (by decide +kernel) ⟨Nat.le_of_ble_eq_true rfl, Nat.le_of_ble_eq_true rfl⟩) ⟨zPreZ.blind, va_recv hK hP (ci := 6) (q0 := 0) rfl rfl, fun U hU hW => zp_Z hP hK hD hN hU hW⟩ rfl rfl hl.1 rfl (lv_room (Nat.le_of_ble_eq_true rfl)) dX6_set_36 ⟨Nat.le_of_ble_eq_true rfl, Nat.le_of_ble_eq_true rfl⟩) hS hD hA (fun H locs hP hD hS => ?_)
        refine lv_aload_n hx hb dX6_set_39 rfl (lv_at hl 0 rfl) ?_
        refine va_get (D := D) (ci := 6) (v := .ref (o 1)) (C := RX6) (T := TX6) (N := 10) hx hb hts hiX6 hown hK hP 0 rfl rfl 0 (by decide) (hts (.fieldLink RX6 7 "ChargeEstimatorModel" "all" "[J") (List.mem_of_getElem? (i := 2) rfl)) (fun _ h9 => h9) rfl dX6_set_40 ?_
        refine zr_iconst hx hb dX6_set_43 ?_
        refine lv_iload_n hx hb dX6_set_44 rfl (lv_at hl 1 rfl) ?_
        refine zr_iadd hx hb dX6_set_45 ?_
        have kst : zSt (zU A xw xv) := zSt_set hI.1 kok.1 kok.2
        have e37 : zU A xw xv 37 = A 37 := zU_ne _ _ (by omega)
        have e35 : zU A xw xv 35 = A 35 := zU_ne _ _ (by omega)
        have e36 : zU A xw xv 36 = A 36 := zU_ne _ _ (by omega)
        have e39 : zU A xw xv 39 = A 39 := zU_ne _ _ (by omega)
        have hwx : zWk (zU A xw xv) := ⟨kst, by rw [e37]; omega, by rw [e35, e37]; omega, by rw [e36, e37]; omega⟩
        have hR0 := zRng_r hI
        refine zr_topi (b := xw) (by omega) ?_
        refine zr_lald (D := D) (g := A) hx hb hK hP 1 2 rfl rfl (by decide) (by omega) dX6_set_46 ?_
        refine zr_l2i hx hb dX6_set_47 ?_
        refine lv_istore_n (lv' := [(3, .int (zI (A xw))), (0, .ref (o 0)), (1, .int (zI xw)), (2, .int (zI xv))]) hx hb dX6_set_48 rfl hl (by decide) rfl (fun ls hl => ?_)
        refine lv_aload_n hx hb dX6_set_49 rfl (lv_at hl 1 rfl) ?_
        refine va_get (D := D) (ci := 6) (v := .ref (o 1)) (C := RX6) (T := TX6) (N := 10) hx hb hts hiX6 hown hK hP 0 rfl rfl 0 (by decide) (hts (.fieldLink RX6 7 "ChargeEstimatorModel" "all" "[J") (List.mem_of_getElem? (i := 2) rfl)) (fun _ h9 => h9) rfl dX6_set_50 ?_
        refine zr_iconst hx hb dX6_set_53 ?_
        refine lv_iload_n hx hb dX6_set_54 rfl (lv_at hl 2 rfl) ?_
        refine zr_iadd hx hb dX6_set_55 ?_
        refine zr_topi (b := xw) (by omega) ?_
        refine lv_iload_n hx hb dX6_set_56 rfl (lv_at hl 3 rfl) ?_
        refine zr_i2l hx hb dX6_set_57 (by omega) ?_
        refine zr_last (D := D) (g := A) hx hb hK hP hD hS 1 2 rfl rfl (by decide) (by omega) dX6_set_58 (fun H locs hP hD hS => ?_)
        have hP : va_P D vwCl (zmod cs o (zU A xw xv) (zSvF S A xsm) T (zm4 xsm) 0 xam f xtl xpl g) H := hP
        have hD : va_D A0 (zmod cs o (zU A xw xv) (zSvF S A xsm) T (zm4 xsm) 0 xam f xtl xpl g) := zD_addr hD rfl
        refine lv_aload_n hx hb dX6_set_59 rfl (lv_at hl 1 rfl) ?_
        refine zc_v (va_runV (As := []) (rest := []) ⟨hx, hb, hml, hown, hts⟩ (met_X6_lowersHysteresis l D cs o H.size (zU A xw xv) (zSvF S A xsm) T (zm4 xsm) 0 xam f xtl xpl g (by exact hwx) (by rw [e39]; omega)) (cwV 0 hts gX6_set_X6_lowersHysteresis rfl rfl rfl (by decide +kernel) ⟨Nat.le_of_ble_eq_true rfl, Nat.le_of_ble_eq_true rfl⟩) ⟨zPreZ.blind, va_recv hK hP (ci := 6) (q0 := 0) rfl rfl, fun U hU hW => zp_Z hP hK hD hN hU hW⟩ rfl rfl hl.1 rfl (lv_room (Nat.le_of_ble_eq_true rfl)) dX6_set_60 ⟨Nat.le_of_ble_eq_true rfl, Nat.le_of_ble_eq_true rfl⟩) hS hD hA (fun H locs hP hD hS => ?_)
        refine lv_iload_n hx hb dX6_set_63 rfl (lv_at hl 0 rfl) ?_
        have hP8 : va_P D vwCl (zmod cs o (zSet A xw xv) (zSvF S A xsm) T (zm4 xsm) 0 xam f xtl xpl g) H := by unfold zSet; rw [← e39]; exact hP
        have hP9 : va_P D vwCl (zmod cs o (zSet A xw xv) (zSvF S A xsm) T (zm4 xsm) 0 xam f xtl xpl g) H := hP8
        have hD9 : va_D A0 (zmod cs o (zSet A xw xv) (zSvF S A xsm) T (zm4 xsm) 0 xam f xtl xpl g) := zD_addr hD rfl
        subst hAe
        exact W.iret hx hb hr (fun t ht hW => ⟨⟨_, (), rfl, (congrArg zI (show A xw = A xw from by rfl)), by rw [ht]; exact hP9, hD9⟩, hS.F ht⟩) hS.2.2 dX6_set_64
      · first | exact absurd c5 (by decide) | exact absurd (by decide) c5
set_option maxHeartbeats 4000000 in
set_option maxRecDepth 100000 in
theorem met_X6_set_no1 (l : Launch) (D : va_G) (cs : Nat → ClassId) (o : Nat → Nat) (sz : Nat) (A S T : Int → Int) (xsm xth xam : Int) (f : Int → Int) (xtl xpl : Int) (g : Int → Int) (n : Int) (xw xv : Int) (hI : zOK n A) (hn : 0 ≤ n ∧ n ≤ 3100000) (ksm : 0 ≤ xsm ∧ xsm ≤ 4) (rxw : -2147483648 ≤ xw ∧ xw ≤ 2147483647) (rxv : -2147483648 ≤ xv ∧ xv ≤ 2147483647) (kno : ¬ ((0 ≤ xw ∧ xw ≤ 11) ∧ (zLoS xw ≤ xv ∧ xv ≤ zHiS xw))) : Met l yX6_set wsX6_set ({ frames := 2, cells := 0, slots := 0, locals := 46 }) (va_Pc [.ref (o 0), .int (zI xw), .int (zI xv)] (zPreZ D (zTy cs) (zmod cs o A S T xsm xth xam f xtl xpl g) sz)) (zQi D (zmod cs o A S T xsm xth xam f xtl xpl g) sz (zI (0)) (zmod cs o A S T xsm 1 xam f xtl xpl g)) 0 0 (va_A (zmod cs o A S T xsm xth xam f xtl xpl g) sz) := by
  refine Met.ofW (cc := cX6_set) (maxL := 4) (ret := (some .int)) (by decide) rfl ?_
  intro p e s m args below meth c s₁ B hml hv
  obtain ⟨rfl, hsz, hP, hK, hD0, hN⟩ := hv
  have hx := B.exec
  have hb := B.bytes
  have hr := B.returns
  have hts := atoms_spec (ws := wsX6_set) B.pre
  have hown : s.vm.findClass RX6 = some m.cls := findClass_of_methodNamed B.named
  have hlocks := B.notSynchronized
  subst hsz
  obtain ⟨A0, hAe⟩ : ∃ A0, A0 = va_A (zmod cs o A S T xsm xth xam f xtl xpl g) s.heap.size := ⟨_, rfl⟩
  have hD := hD0.self (sz := s.heap.size)
  rw [← hAe] at hD
  have hA : ∀ q : Nat, s.heap.size ≤ q → A0 q := fun q h => by rw [hAe]; exact Or.inr h
  have hS : va_S A0 s.heap s.heap [] := va_S.rf
  have hP : va_P D vwCl (zmod cs o A S T xsm xth xam f xtl xpl g) s.heap := hP
  have hl := lv_entry ([.ref (o 0), .int (zI xw), .int (zI xv)]) (n := 4) (Nat.le_of_ble_eq_true rfl)
  rw [lg_entry_eq]
  generalize (lg_sl ([.ref (o 0), .int (zI xw), .int (zI xv)]) ++ List.replicate (4 - (lg_sl ([.ref (o 0), .int (zI xw), .int (zI xv)])).length) Slot.unset).toArray = ls at hl ⊢
  have hl : lv_has ls 4 [(0, .ref (o 0)), (1, .int (zI xw)), (2, .int (zI xv))] := hl
  refine lv_aload_n hx hb dX6_set_0 rfl (lv_at hl 0 rfl) ?_
  refine lv_iload_n hx hb dX6_set_1 rfl (lv_at hl 1 rfl) ?_
  refine zr_i2l hx hb dX6_set_2 (by omega) ?_
  refine zr_lconst0 hx hb dX6_set_3 ?_
  refine zr_ldc2 (n := 11) hx hb hown (hts (.constantLong RX6 122 (11)) (List.mem_of_getElem? (i := 1) rfl)) rfl dX6_set_4 ?_
  refine zc_ri (va_runS (As := [.long (zL xw), .long (zL 0), .long (zL 11)]) (rest := [.ref (o 0)]) ⟨hx, hb, hml, hown, hts⟩ (met_X6_in l xw 0 11 (by first | assumption | omega) (by first | assumption | omega) (by first | assumption | omega)) (va_cwS 3 hts gX6_set_X6_in rfl rfl rfl (by decide +kernel) ⟨Nat.le_of_ble_eq_true rfl, Nat.le_of_ble_eq_true rfl⟩) ⟨zTrue.blind, fun U hU hW => ⟨rfl, trivial⟩⟩ rfl rfl hl.1 rfl (lv_room (Nat.le_of_ble_eq_true rfl)) dX6_set_7 ⟨Nat.le_of_ble_eq_true rfl, Nat.le_of_ble_eq_true rfl⟩) ?_
  refine zr_ifb_eq (tgt := 25) hx hb dX6_set_10 (by decide) (fun c1 => ?_) (fun c1 => ?_)
  · refine zr_iconst hx hb dX6_set_25 ?_
    refine zr_iconst hx hb dX6_set_26 ?_
    refine zc_i (va_runV (As := [.int (zI 0), .int (zI 1)]) (rest := []) ⟨hx, hb, hml, hown, hts⟩ (met_X6_goes l D cs o s.heap.size A S T xsm xth xam f xtl xpl g False True ) (cwV 2 hts gX6_set_X6_goes rfl rfl rfl (by decide +kernel) ⟨Nat.le_of_ble_eq_true rfl, Nat.le_of_ble_eq_true rfl⟩) ⟨zPreZ.blind, va_recv hK hP (ci := 6) (q0 := 0) rfl rfl, fun U hU hW => zp_Z hP hK hD hN hU hW⟩ rfl rfl hl.1 rfl (lv_room (Nat.le_of_ble_eq_true rfl)) dX6_set_27 ⟨Nat.le_of_ble_eq_true rfl, Nat.le_of_ble_eq_true rfl⟩) hS hD hA (fun H locs hP hD hS => ?_)
    have hP : va_P D vwCl (zmod cs o A S T xsm 1 xam f xtl xpl g) H := by rw [show zGo False True = 1 from zGo_1 (by first | trivial | omega | (simp only [not_true, not_false_eq_true]) | (intro h; omega))] at hP; exact hP
    have hD : va_D A0 (zmod cs o A S T xsm 1 xam f xtl xpl g) := zD_addr hD rfl
    refine zr_ifb_ne (tgt := 35) hx hb dX6_set_30 (by decide) (fun c2 => ?_) (fun c2 => ?_)
    · first | exact absurd c2 (by decide) | exact absurd (by decide) c2
    · refine zr_iconst hx hb dX6_set_33 ?_
      have hP9 : va_P D vwCl (zmod cs o A S T xsm 1 xam f xtl xpl g) H := hP
      have hD9 : va_D A0 (zmod cs o A S T xsm 1 xam f xtl xpl g) := zD_addr hD rfl
      subst hAe
      exact W.iret hx hb hr (fun t ht hW => ⟨⟨_, (), rfl, (congrArg zI (show 0 = 0 from by rfl)), by rw [ht]; exact hP9, hD9⟩, hS.F ht⟩) hS.2.2 dX6_set_34
  · refine lv_iload_n hx hb dX6_set_13 rfl (lv_at hl 1 rfl) ?_
    refine lv_iload_n hx hb dX6_set_14 rfl (lv_at hl 2 rfl) ?_
    refine zc_ri (va_runS (As := [.int (zI xw), .int (zI xv)]) (rest := [.ref (o 0)]) ⟨hx, hb, hml, hown, hts⟩ (met_X6_isValue l xw xv (by first | assumption | omega) (by first | assumption | omega)) (va_cwS 2 hts gX6_set_X6_isValue rfl rfl rfl (by decide +kernel) ⟨Nat.le_of_ble_eq_true rfl, Nat.le_of_ble_eq_true rfl⟩) ⟨zTrue.blind, fun U hU hW => ⟨rfl, trivial⟩⟩ rfl rfl hl.1 rfl (lv_room (Nat.le_of_ble_eq_true rfl)) dX6_set_15 ⟨Nat.le_of_ble_eq_true rfl, Nat.le_of_ble_eq_true rfl⟩) ?_
    refine zr_ifb_eq (tgt := 25) hx hb dX6_set_18 (by decide) (fun c3 => ?_) (fun c3 => ?_)
    · refine zr_iconst hx hb dX6_set_25 ?_
      refine zr_iconst hx hb dX6_set_26 ?_
      refine zc_i (va_runV (As := [.int (zI 0), .int (zI 1)]) (rest := []) ⟨hx, hb, hml, hown, hts⟩ (met_X6_goes l D cs o s.heap.size A S T xsm xth xam f xtl xpl g False True ) (cwV 2 hts gX6_set_X6_goes rfl rfl rfl (by decide +kernel) ⟨Nat.le_of_ble_eq_true rfl, Nat.le_of_ble_eq_true rfl⟩) ⟨zPreZ.blind, va_recv hK hP (ci := 6) (q0 := 0) rfl rfl, fun U hU hW => zp_Z hP hK hD hN hU hW⟩ rfl rfl hl.1 rfl (lv_room (Nat.le_of_ble_eq_true rfl)) dX6_set_27 ⟨Nat.le_of_ble_eq_true rfl, Nat.le_of_ble_eq_true rfl⟩) hS hD hA (fun H locs hP hD hS => ?_)
      have hP : va_P D vwCl (zmod cs o A S T xsm 1 xam f xtl xpl g) H := by rw [show zGo False True = 1 from zGo_1 (by first | trivial | omega | (simp only [not_true, not_false_eq_true]) | (intro h; omega))] at hP; exact hP
      have hD : va_D A0 (zmod cs o A S T xsm 1 xam f xtl xpl g) := zD_addr hD rfl
      refine zr_ifb_ne (tgt := 35) hx hb dX6_set_30 (by decide) (fun c4 => ?_) (fun c4 => ?_)
      · first | exact absurd c4 (by decide) | exact absurd (by decide) c4
      · refine zr_iconst hx hb dX6_set_33 ?_
        have hP9 : va_P D vwCl (zmod cs o A S T xsm 1 xam f xtl xpl g) H := hP
        have hD9 : va_D A0 (zmod cs o A S T xsm 1 xam f xtl xpl g) := zD_addr hD rfl
        subst hAe
        exact W.iret hx hb hr (fun t ht hW => ⟨⟨_, (), rfl, (congrArg zI (show 0 = 0 from by rfl)), by rw [ht]; exact hP9, hD9⟩, hS.F ht⟩) hS.2.2 dX6_set_34
    · refine zr_iconst hx hb dX6_set_21 ?_
      refine lv_goto (tgt := 26) hx hb dX6_set_22 (by decide) ?_
      refine zr_iconst hx hb dX6_set_26 ?_
      refine zc_i (va_runV (As := [.int (zI 1), .int (zI 1)]) (rest := []) ⟨hx, hb, hml, hown, hts⟩ (met_X6_goes l D cs o s.heap.size A S T xsm xth xam f xtl xpl g True True ) (cwV 2 hts gX6_set_X6_goes rfl rfl rfl (by decide +kernel) ⟨Nat.le_of_ble_eq_true rfl, Nat.le_of_ble_eq_true rfl⟩) ⟨zPreZ.blind, va_recv hK hP (ci := 6) (q0 := 0) rfl rfl, fun U hU hW => zp_Z hP hK hD hN hU hW⟩ rfl rfl hl.1 rfl (lv_room (Nat.le_of_ble_eq_true rfl)) dX6_set_27 ⟨Nat.le_of_ble_eq_true rfl, Nat.le_of_ble_eq_true rfl⟩) hS hD hA (fun H locs hP hD hS => ?_)
      have hP : va_P D vwCl (zmod cs o A S T xsm 1 xam f xtl xpl g) H := by rw [show zGo True True = 1 from zGo_1 (by first | trivial | omega | (simp only [not_true, not_false_eq_true]) | (intro h; omega))] at hP; exact hP
      have hD : va_D A0 (zmod cs o A S T xsm 1 xam f xtl xpl g) := zD_addr hD rfl
      refine zr_ifb_ne (tgt := 35) hx hb dX6_set_30 (by decide) (fun c5 => ?_) (fun c5 => ?_)
      · exfalso; first | omega | (simp only [and_true, true_and] at c5; omega) | exact c5.2.elim
      · first | exact absurd c5 (by decide) | exact absurd (by decide) c5
set_option maxHeartbeats 4000000 in
set_option maxRecDepth 100000 in
theorem met_X6_ascends (l : Launch) (D : va_G) (cs : Nat → ClassId) (o : Nat → Nat) (A S T : Int → Int) (xsm xth xam : Int) (f : Int → Int) (xtl xpl : Int) (g : Int → Int) (n : Int) (xb xk xv : Int) (hI : zOK n A) (hn : 0 ≤ n ∧ n ≤ 3100000) (kxb : xb = 12 ∨ xb = 23) (kxk : 0 ≤ xk ∧ xk ≤ 10) (kxv : 2000 ≤ xv ∧ xv ≤ 5000) : Met l yX6_ascends wsX6_ascends ({ frames := 0, cells := 0, slots := 0, locals := 0 }) (va_Pc [.ref (o 0), .int (zI xb), .int (zI xk), .int (zI xv)] (zPre D (zTy cs) (zmod cs o A S T xsm xth xam f xtl xpl g))) (zRi (zI (zB ((xk = 0 ∨ A (xb + xk - 1) < xv) ∧ (xk = 10 ∨ xv < A (xb + xk + 1)))))) 0 0 (fun _ => False) := by
  refine Met.ofW (cc := cX6_ascends) (maxL := 4) (ret := (some .boolean)) (by decide) rfl ?_
  intro p e s m args below meth c s₁ B hml hv
  obtain ⟨rfl, hP, hK, hD0, hN⟩ := hv
  have hx := B.exec
  have hb := B.bytes
  have hr := B.returns
  have hts := atoms_spec (ws := wsX6_ascends) B.pre
  have hown : s.vm.findClass RX6 = some m.cls := findClass_of_methodNamed B.named
  have hlocks := B.notSynchronized
  have hD := hD0
  have hl := lv_entry ([.ref (o 0), .int (zI xb), .int (zI xk), .int (zI xv)]) (n := 4) (Nat.le_of_ble_eq_true rfl)
  rw [lg_entry_eq]
  generalize (lg_sl ([.ref (o 0), .int (zI xb), .int (zI xk), .int (zI xv)]) ++ List.replicate (4 - (lg_sl ([.ref (o 0), .int (zI xb), .int (zI xk), .int (zI xv)])).length) Slot.unset).toArray = ls at hl ⊢
  have hl : lv_has ls 4 [(0, .ref (o 0)), (1, .int (zI xb)), (2, .int (zI xk)), (3, .int (zI xv))] := hl
  have hiX6 : ∀ w ∈ wsX60, w ∈ wsX6_ascends := by decide +kernel
  obtain ⟨hc1, hc2⟩ := zOK_c hI
  have d1 : 0 < xk → 2000 ≤ A (xb + xk - 1) ∧ A (xb + xk - 1) ≤ 5000 := by
    intro h
    have := hc1 (xk - 1) (by omega) (by omega)
    rcases kxb with rfl | rfl
    · rw [show (12 : Int) + xk - 1 = 12 + (xk - 1) by omega]; omega
    · rw [show (23 : Int) + xk - 1 = 23 + (xk - 1) by omega]; omega
  have d2 : xk < 10 → 2000 ≤ A (xb + xk + 1) ∧ A (xb + xk + 1) ≤ 5000 := by
    intro h
    have := hc1 (xk + 1) (by omega) (by omega)
    rcases kxb with rfl | rfl
    · rw [show (12 : Int) + xk + 1 = 12 + (xk + 1) by omega]; omega
    · rw [show (23 : Int) + xk + 1 = 23 + (xk + 1) by omega]; omega
  refine lv_iload_n hx hb dX6_ascends_0 rfl (lv_at hl 2 rfl) ?_
  refine zr_if_eq (tgt := 20) hx hb dX6_ascends_1 (by decide) (by omega) (fun c1 => ?_) (fun c1 => ?_)
  · refine lv_iload_n hx hb dX6_ascends_20 rfl (lv_at hl 2 rfl) ?_
    refine zr_bipush hx hb dX6_ascends_21 (by decide) ?_
    refine zr_icmp_eq (tgt := 42) hx hb dX6_ascends_23 (by decide) (by omega) (by decide) (fun c2 => ?_) (fun c2 => ?_)
    · refine zr_iconst hx hb dX6_ascends_42 ?_
      refine lv_goto (tgt := 47) hx hb dX6_ascends_43 (by decide) ?_
      exact W.zret hx hb hr (zbool_n (by decide)) (fun t ht hW => ⟨_, rfl, (congrArg zI (show 1 = zB ((xk = 0 ∨ A (xb + xk - 1) < xv) ∧ (xk = 10 ∨ xv < A (xb + xk + 1))) from by first | exact (zB_t (by omega)).symm | exact (zB_f (by omega)).symm)), ht⟩) (fun q hq => absurd hq List.not_mem_nil) dX6_ascends_47
    · refine lv_iload_n hx hb dX6_ascends_26 rfl (lv_at hl 3 rfl) ?_
      refine zr_i2l hx hb dX6_ascends_27 (by omega) ?_
      refine lv_aload_n hx hb dX6_ascends_28 rfl (lv_at hl 0 rfl) ?_
      refine va_get (D := D) (ci := 6) (v := .ref (o 1)) (C := RX6) (T := TX6) (N := 10) hx hb hts hiX6 hown hK hP 0 rfl rfl 0 (by decide) (hts (.fieldLink RX6 7 "ChargeEstimatorModel" "all" "[J") (List.mem_of_getElem? (i := 1) rfl)) (fun _ h9 => h9) rfl dX6_ascends_29 ?_
      refine lv_iload_n hx hb dX6_ascends_32 rfl (lv_at hl 1 rfl) ?_
      refine lv_iload_n hx hb dX6_ascends_33 rfl (lv_at hl 2 rfl) ?_
      refine zr_iadd hx hb dX6_ascends_34 ?_
      refine zr_iconst hx hb dX6_ascends_35 ?_
      refine zr_iadd hx hb dX6_ascends_36 ?_
      refine zr_lald (D := D) (g := A) hx hb hK hP 1 2 rfl rfl (by decide) (by omega) dX6_ascends_37 ?_
      refine zr_lcmp_ge (tgt := 46) hx hb dX6_ascends_38 dX6_ascends_39 (by decide) (by omega) (by omega) (fun c3 => ?_) (fun c3 => ?_)
      · refine zr_iconst hx hb dX6_ascends_46 ?_
        exact W.zret hx hb hr (zbool_n (by decide)) (fun t ht hW => ⟨_, rfl, (congrArg zI (show 0 = zB ((xk = 0 ∨ A (xb + xk - 1) < xv) ∧ (xk = 10 ∨ xv < A (xb + xk + 1))) from by first | exact (zB_t (by omega)).symm | exact (zB_f (by omega)).symm)), ht⟩) (fun q hq => absurd hq List.not_mem_nil) dX6_ascends_47
      · refine zr_iconst hx hb dX6_ascends_42 ?_
        refine lv_goto (tgt := 47) hx hb dX6_ascends_43 (by decide) ?_
        exact W.zret hx hb hr (zbool_n (by decide)) (fun t ht hW => ⟨_, rfl, (congrArg zI (show 1 = zB ((xk = 0 ∨ A (xb + xk - 1) < xv) ∧ (xk = 10 ∨ xv < A (xb + xk + 1))) from by first | exact (zB_t (by omega)).symm | exact (zB_f (by omega)).symm)), ht⟩) (fun q hq => absurd hq List.not_mem_nil) dX6_ascends_47
  · refine lv_iload_n hx hb dX6_ascends_4 rfl (lv_at hl 3 rfl) ?_
    refine zr_i2l hx hb dX6_ascends_5 (by omega) ?_
    refine lv_aload_n hx hb dX6_ascends_6 rfl (lv_at hl 0 rfl) ?_
    refine va_get (D := D) (ci := 6) (v := .ref (o 1)) (C := RX6) (T := TX6) (N := 10) hx hb hts hiX6 hown hK hP 0 rfl rfl 0 (by decide) (hts (.fieldLink RX6 7 "ChargeEstimatorModel" "all" "[J") (List.mem_of_getElem? (i := 1) rfl)) (fun _ h9 => h9) rfl dX6_ascends_7 ?_
    refine lv_iload_n hx hb dX6_ascends_10 rfl (lv_at hl 1 rfl) ?_
    refine lv_iload_n hx hb dX6_ascends_11 rfl (lv_at hl 2 rfl) ?_
    refine zr_iadd hx hb dX6_ascends_12 ?_
    refine zr_iconst hx hb dX6_ascends_13 ?_
    refine zr_isub hx hb dX6_ascends_14 ?_
    refine zr_lald (D := D) (g := A) hx hb hK hP 1 2 rfl rfl (by decide) (by omega) dX6_ascends_15 ?_
    refine zr_lcmp_le (tgt := 46) hx hb dX6_ascends_16 dX6_ascends_17 (by decide) (by omega) (by omega) (fun c4 => ?_) (fun c4 => ?_)
    · refine zr_iconst hx hb dX6_ascends_46 ?_
      exact W.zret hx hb hr (zbool_n (by decide)) (fun t ht hW => ⟨_, rfl, (congrArg zI (show 0 = zB ((xk = 0 ∨ A (xb + xk - 1) < xv) ∧ (xk = 10 ∨ xv < A (xb + xk + 1))) from by first | exact (zB_t (by omega)).symm | exact (zB_f (by omega)).symm)), ht⟩) (fun q hq => absurd hq List.not_mem_nil) dX6_ascends_47
    · refine lv_iload_n hx hb dX6_ascends_20 rfl (lv_at hl 2 rfl) ?_
      refine zr_bipush hx hb dX6_ascends_21 (by decide) ?_
      refine zr_icmp_eq (tgt := 42) hx hb dX6_ascends_23 (by decide) (by omega) (by decide) (fun c5 => ?_) (fun c5 => ?_)
      · refine zr_iconst hx hb dX6_ascends_42 ?_
        refine lv_goto (tgt := 47) hx hb dX6_ascends_43 (by decide) ?_
        exact W.zret hx hb hr (zbool_n (by decide)) (fun t ht hW => ⟨_, rfl, (congrArg zI (show 1 = zB ((xk = 0 ∨ A (xb + xk - 1) < xv) ∧ (xk = 10 ∨ xv < A (xb + xk + 1))) from by first | exact (zB_t (by omega)).symm | exact (zB_f (by omega)).symm)), ht⟩) (fun q hq => absurd hq List.not_mem_nil) dX6_ascends_47
      · refine lv_iload_n hx hb dX6_ascends_26 rfl (lv_at hl 3 rfl) ?_
        refine zr_i2l hx hb dX6_ascends_27 (by omega) ?_
        refine lv_aload_n hx hb dX6_ascends_28 rfl (lv_at hl 0 rfl) ?_
        refine va_get (D := D) (ci := 6) (v := .ref (o 1)) (C := RX6) (T := TX6) (N := 10) hx hb hts hiX6 hown hK hP 0 rfl rfl 0 (by decide) (hts (.fieldLink RX6 7 "ChargeEstimatorModel" "all" "[J") (List.mem_of_getElem? (i := 1) rfl)) (fun _ h9 => h9) rfl dX6_ascends_29 ?_
        refine lv_iload_n hx hb dX6_ascends_32 rfl (lv_at hl 1 rfl) ?_
        refine lv_iload_n hx hb dX6_ascends_33 rfl (lv_at hl 2 rfl) ?_
        refine zr_iadd hx hb dX6_ascends_34 ?_
        refine zr_iconst hx hb dX6_ascends_35 ?_
        refine zr_iadd hx hb dX6_ascends_36 ?_
        refine zr_lald (D := D) (g := A) hx hb hK hP 1 2 rfl rfl (by decide) (by omega) dX6_ascends_37 ?_
        refine zr_lcmp_ge (tgt := 46) hx hb dX6_ascends_38 dX6_ascends_39 (by decide) (by omega) (by omega) (fun c6 => ?_) (fun c6 => ?_)
        · refine zr_iconst hx hb dX6_ascends_46 ?_
          exact W.zret hx hb hr (zbool_n (by decide)) (fun t ht hW => ⟨_, rfl, (congrArg zI (show 0 = zB ((xk = 0 ∨ A (xb + xk - 1) < xv) ∧ (xk = 10 ∨ xv < A (xb + xk + 1))) from by first | exact (zB_t (by omega)).symm | exact (zB_f (by omega)).symm)), ht⟩) (fun q hq => absurd hq List.not_mem_nil) dX6_ascends_47
        · refine zr_iconst hx hb dX6_ascends_42 ?_
          refine lv_goto (tgt := 47) hx hb dX6_ascends_43 (by decide) ?_
          exact W.zret hx hb hr (zbool_n (by decide)) (fun t ht hW => ⟨_, rfl, (congrArg zI (show 1 = zB ((xk = 0 ∨ A (xb + xk - 1) < xv) ∧ (xk = 10 ∨ xv < A (xb + xk + 1))) from by first | exact (zB_t (by omega)).symm | exact (zB_f (by omega)).symm)), ht⟩) (fun q hq => absurd hq List.not_mem_nil) dX6_ascends_47
set_option maxHeartbeats 4000000 in
set_option maxRecDepth 100000 in
theorem met_X6_setCurve_ok (l : Launch) (D : va_G) (cs : Nat → ClassId) (o : Nat → Nat) (sz : Nat) (A S T : Int → Int) (xsm xth xam : Int) (f : Int → Int) (xtl xpl : Int) (g : Int → Int) (n : Int) (xk xl xu : Int) (hI : zOK n A) (hn : 0 ≤ n ∧ n ≤ 3100000) (ksm : 0 ≤ xsm ∧ xsm ≤ 4) (rxk : -2147483648 ≤ xk ∧ xk ≤ 2147483647) (rxl : -2147483648 ≤ xl ∧ xl ≤ 2147483647) (rxu : -2147483648 ≤ xu ∧ xu ≤ 2147483647) (kok : (0 ≤ xk ∧ xk ≤ 10) ∧ (2000 ≤ xl ∧ xl ≤ 5000) ∧ (xl ≤ xu ∧ xu ≤ 5000) ∧ ((xk = 0 ∨ A (12 + xk - 1) < xl) ∧ (xk = 10 ∨ xl < A (12 + xk + 1))) ∧ ((xk = 0 ∨ A (23 + xk - 1) < xu) ∧ (xk = 10 ∨ xu < A (23 + xk + 1)))) : Met l yX6_setCurve wsX6_setCurve ({ frames := 1, cells := 0, slots := 0, locals := 25 }) (va_Pc [.ref (o 0), .int (zI xk), .int (zI xl), .int (zI xu)] (zPreZ D (zTy cs) (zmod cs o A S T xsm xth xam f xtl xpl g) sz)) (zQi D (zmod cs o A S T xsm xth xam f xtl xpl g) sz (zI (A (12 + xk))) (zmod cs o (zPut A xk xl xu) (zSvF S A xsm) T (zm4 xsm) 0 xam f xtl xpl g)) 0 0 (va_A (zmod cs o A S T xsm xth xam f xtl xpl g) sz) := by
  refine Met.ofW (cc := cX6_setCurve) (maxL := 7) (ret := (some .int)) (by decide) rfl ?_
  intro p e s m args below meth c s₁ B hml hv
  obtain ⟨rfl, hsz, hP, hK, hD0, hN⟩ := hv
  have hx := B.exec
  have hb := B.bytes
  have hr := B.returns
  have hts := atoms_spec (ws := wsX6_setCurve) B.pre
  have hown : s.vm.findClass RX6 = some m.cls := findClass_of_methodNamed B.named
  have hlocks := B.notSynchronized
  subst hsz
  obtain ⟨A0, hAe⟩ : ∃ A0, A0 = va_A (zmod cs o A S T xsm xth xam f xtl xpl g) s.heap.size := ⟨_, rfl⟩
  have hD := hD0.self (sz := s.heap.size)
  rw [← hAe] at hD
  have hA : ∀ q : Nat, s.heap.size ≤ q → A0 q := fun q h => by rw [hAe]; exact Or.inr h
  have hS : va_S A0 s.heap s.heap [] := va_S.rf
  have hP : va_P D vwCl (zmod cs o A S T xsm xth xam f xtl xpl g) s.heap := hP
  have hl := lv_entry ([.ref (o 0), .int (zI xk), .int (zI xl), .int (zI xu)]) (n := 7) (Nat.le_of_ble_eq_true rfl)
  rw [lg_entry_eq]
  generalize (lg_sl ([.ref (o 0), .int (zI xk), .int (zI xl), .int (zI xu)]) ++ List.replicate (7 - (lg_sl ([.ref (o 0), .int (zI xk), .int (zI xl), .int (zI xu)])).length) Slot.unset).toArray = ls at hl ⊢
  have hl : lv_has ls 7 [(0, .ref (o 0)), (1, .int (zI xk)), (2, .int (zI xl)), (3, .int (zI xu))] := hl
  have hiX6 : ∀ w ∈ wsX60, w ∈ wsX6_setCurve := by decide +kernel
  refine lv_iload_n hx hb dX6_setCurve_0 rfl (lv_at hl 1 rfl) ?_
  refine zr_i2l hx hb dX6_setCurve_1 (by omega) ?_
  refine zr_lconst0 hx hb dX6_setCurve_2 ?_
  refine zr_ldc2 (n := 10) hx hb hown (hts (.constantLong RX6 32 (10)) (List.mem_of_getElem? (i := 1) rfl)) rfl dX6_setCurve_3 ?_
  refine zc_ri (va_runS (As := [.long (zL xk), .long (zL 0), .long (zL 10)]) (rest := []) ⟨hx, hb, hml, hown, hts⟩ (met_X6_in l xk 0 10 (by first | assumption | omega) (by first | assumption | omega) (by first | assumption | omega)) (va_cwS 3 hts gX6_setCurve_X6_in rfl rfl rfl (by decide +kernel) ⟨Nat.le_of_ble_eq_true rfl, Nat.le_of_ble_eq_true rfl⟩) ⟨zTrue.blind, fun U hU hW => ⟨rfl, trivial⟩⟩ rfl rfl hl.1 rfl (lv_room (Nat.le_of_ble_eq_true rfl)) dX6_setCurve_6 ⟨Nat.le_of_ble_eq_true rfl, Nat.le_of_ble_eq_true rfl⟩) ?_
  refine lv_istore (lv' := [(4, .int (zI (zB (0 ≤ xk ∧ xk ≤ 10)))), (0, .ref (o 0)), (1, .int (zI xk)), (2, .int (zI xl)), (3, .int (zI xu))]) hx hb dX6_setCurve_9 hl (by decide) rfl (fun ls hl => ?_)
  refine lv_iload hx hb dX6_setCurve_11 (lv_at hl 0 rfl) ?_
  refine zr_ifb_eq (tgt := 69) hx hb dX6_setCurve_13 (by decide) (fun c1 => ?_) (fun c1 => ?_)
  · refine zr_iconst hx hb dX6_setCurve_69 ?_
    refine lv_istore (lv' := [(5, .int (zI 0)), (4, .int (zI (zB (0 ≤ xk ∧ xk ≤ 10)))), (0, .ref (o 0)), (1, .int (zI xk)), (2, .int (zI xl)), (3, .int (zI xu))]) hx hb dX6_setCurve_70 hl (by decide) rfl (fun ls hl => ?_)
    refine lv_aload_n hx hb dX6_setCurve_72 rfl (lv_at hl 2 rfl) ?_
    refine lv_iload hx hb dX6_setCurve_73 (lv_at hl 1 rfl) ?_
    refine lv_iload hx hb dX6_setCurve_75 (lv_at hl 0 rfl) ?_
    refine zc_i (va_runV (As := [.int (zI (zB (0 ≤ xk ∧ xk ≤ 10))), .int (zI 0)]) (rest := []) ⟨hx, hb, hml, hown, hts⟩ (met_X6_goes l D cs o s.heap.size A S T xsm xth xam f xtl xpl g (0 ≤ xk ∧ xk ≤ 10) False ) (cwV 2 hts gX6_setCurve_X6_goes rfl rfl rfl (by decide +kernel) ⟨Nat.le_of_ble_eq_true rfl, Nat.le_of_ble_eq_true rfl⟩) ⟨zPreZ.blind, va_recv hK hP (ci := 6) (q0 := 0) rfl rfl, fun U hU hW => zp_Z hP hK hD hN hU hW⟩ rfl rfl hl.1 rfl (lv_room (Nat.le_of_ble_eq_true rfl)) dX6_setCurve_77 ⟨Nat.le_of_ble_eq_true rfl, Nat.le_of_ble_eq_true rfl⟩) hS hD hA (fun H locs hP hD hS => ?_)
    have hP : va_P D vwCl (zmod cs o A S T xsm 0 xam f xtl xpl g) H := by rw [show zGo (0 ≤ xk ∧ xk ≤ 10) False = 0 from zGo_0 (by first | trivial | omega | (simp only [not_true, not_false_eq_true]) | (intro h; omega)) (by first | trivial | omega | (simp only [not_true, not_false_eq_true]) | (intro h; omega))] at hP; exact hP
    have hD : va_D A0 (zmod cs o A S T xsm 0 xam f xtl xpl g) := zD_addr hD rfl
    refine zr_ifb_ne (tgt := 85) hx hb dX6_setCurve_80 (by decide) (fun c2 => ?_) (fun c2 => ?_)
    · refine lv_aload_n hx hb dX6_setCurve_85 rfl (lv_at hl 2 rfl) ?_
      refine zc_v (va_runV (As := []) (rest := []) ⟨hx, hb, hml, hown, hts⟩ (met_X6_save l D cs o H.size A S T xsm 0 xam f xtl xpl g (by first | assumption | omega)) (cwV 0 hts gX6_setCurve_X6_save rfl rfl rfl (by decide +kernel) ⟨Nat.le_of_ble_eq_true rfl, Nat.le_of_ble_eq_true rfl⟩) ⟨zPreZ.blind, va_recv hK hP (ci := 6) (q0 := 0) rfl rfl, fun U hU hW => zp_Z hP hK hD hN hU hW⟩ rfl rfl hl.1 rfl (lv_room (Nat.le_of_ble_eq_true rfl)) dX6_setCurve_86 ⟨Nat.le_of_ble_eq_true rfl, Nat.le_of_ble_eq_true rfl⟩) hS hD hA (fun H locs hP hD hS => ?_)
      refine lv_aload_n hx hb dX6_setCurve_89 rfl (lv_at hl 2 rfl) ?_
      refine va_get (D := D) (ci := 6) (v := .ref (o 1)) (C := RX6) (T := TX6) (N := 10) hx hb hts hiX6 hown hK hP 0 rfl rfl 0 (by decide) (hts (.fieldLink RX6 7 "ChargeEstimatorModel" "all" "[J") (List.mem_of_getElem? (i := 4) rfl)) (fun _ h9 => h9) rfl dX6_setCurve_90 ?_
      refine zr_bipush hx hb dX6_setCurve_93 (by decide) ?_
      refine lv_iload_n hx hb dX6_setCurve_95 rfl (lv_at hl 3 rfl) ?_
      refine zr_iadd hx hb dX6_setCurve_96 ?_
      refine zr_lald (D := D) (g := A) hx hb hK hP 1 2 rfl rfl (by decide) (by omega) dX6_setCurve_97 ?_
      refine zr_l2i hx hb dX6_setCurve_98 ?_
      refine lv_istore (lv' := [(6, .int (zI (A (12 + xk)))), (5, .int (zI 0)), (4, .int (zI (zB (0 ≤ xk ∧ xk ≤ 10)))), (0, .ref (o 0)), (1, .int (zI xk)), (2, .int (zI xl)), (3, .int (zI xu))]) hx hb dX6_setCurve_99 hl (by decide) rfl (fun ls hl => ?_)
      refine lv_aload_n hx hb dX6_setCurve_101 rfl (lv_at hl 3 rfl) ?_
      refine va_get (D := D) (ci := 6) (v := .ref (o 1)) (C := RX6) (T := TX6) (N := 10) hx hb hts hiX6 hown hK hP 0 rfl rfl 0 (by decide) (hts (.fieldLink RX6 7 "ChargeEstimatorModel" "all" "[J") (List.mem_of_getElem? (i := 4) rfl)) (fun _ h9 => h9) rfl dX6_setCurve_102 ?_
      refine zr_bipush hx hb dX6_setCurve_105 (by decide) ?_
      refine lv_iload_n hx hb dX6_setCurve_107 rfl (lv_at hl 4 rfl) ?_
      refine zr_iadd hx hb dX6_setCurve_108 ?_
      refine lv_iload_n hx hb dX6_setCurve_109 rfl (lv_at hl 5 rfl) ?_
      refine zr_i2l hx hb dX6_setCurve_110 (by omega) ?_
      refine zr_last (D := D) (g := A) hx hb hK hP hD hS 1 2 rfl rfl (by decide) (by omega) dX6_setCurve_111 (fun H locs hP hD hS => ?_)
      have hP : va_P D vwCl (zmod cs o (zU A (12 + xk) xl) (zSvF S A xsm) T (zm4 xsm) 0 xam f xtl xpl g) H := hP
      have hD : va_D A0 (zmod cs o (zU A (12 + xk) xl) (zSvF S A xsm) T (zm4 xsm) 0 xam f xtl xpl g) := zD_addr hD rfl
      refine lv_aload_n hx hb dX6_setCurve_112 rfl (lv_at hl 3 rfl) ?_
      refine va_get (D := D) (ci := 6) (v := .ref (o 1)) (C := RX6) (T := TX6) (N := 10) hx hb hts hiX6 hown hK hP 0 rfl rfl 0 (by decide) (hts (.fieldLink RX6 7 "ChargeEstimatorModel" "all" "[J") (List.mem_of_getElem? (i := 4) rfl)) (fun _ h9 => h9) rfl dX6_setCurve_113 ?_
      refine zr_bipush hx hb dX6_setCurve_116 (by decide) ?_
      refine lv_iload_n hx hb dX6_setCurve_118 rfl (lv_at hl 4 rfl) ?_
      refine zr_iadd hx hb dX6_setCurve_119 ?_
      refine lv_iload_n hx hb dX6_setCurve_120 rfl (lv_at hl 6 rfl) ?_
      refine zr_i2l hx hb dX6_setCurve_121 (by omega) ?_
      refine zr_last (D := D) (g := zU A (12 + xk) xl) hx hb hK hP hD hS 1 2 rfl rfl (by decide) (by omega) dX6_setCurve_122 (fun H locs hP hD hS => ?_)
      have hP : va_P D vwCl (zmod cs o (zU (zU A (12 + xk) xl) (23 + xk) xu) (zSvF S A xsm) T (zm4 xsm) 0 xam f xtl xpl g) H := hP
      have hD : va_D A0 (zmod cs o (zU (zU A (12 + xk) xl) (23 + xk) xu) (zSvF S A xsm) T (zm4 xsm) 0 xam f xtl xpl g) := zD_addr hD rfl
      refine lv_iload hx hb dX6_setCurve_123 (lv_at hl 0 rfl) ?_
      have hP9 : va_P D vwCl (zmod cs o (zPut A xk xl xu) (zSvF S A xsm) T (zm4 xsm) 0 xam f xtl xpl g) H := hP
      have hD9 : va_D A0 (zmod cs o (zPut A xk xl xu) (zSvF S A xsm) T (zm4 xsm) 0 xam f xtl xpl g) := zD_addr hD rfl
      subst hAe
      exact W.iret hx hb hr (fun t ht hW => ⟨⟨_, (), rfl, (congrArg zI (show A (12 + xk) = A (12 + xk) from by rfl)), by rw [ht]; exact hP9, hD9⟩, hS.F ht⟩) hS.2.2 dX6_setCurve_125
    · exfalso; first | omega | (simp only [and_true, true_and] at c2; omega) | exact c2.2.elim
  · refine lv_iload_n hx hb dX6_setCurve_16 rfl (lv_at hl 3 rfl) ?_
    refine zr_i2l hx hb dX6_setCurve_17 (by omega) ?_
    refine zr_ldc2 (n := 2000) hx hb hown (hts (.constantLong RX6 56 (2000)) (List.mem_of_getElem? (i := 2) rfl)) rfl dX6_setCurve_18 ?_
    refine zr_ldc2 (n := 5000) hx hb hown (hts (.constantLong RX6 30 (5000)) (List.mem_of_getElem? (i := 3) rfl)) rfl dX6_setCurve_21 ?_
    refine zc_ri (va_runS (As := [.long (zL xl), .long (zL 2000), .long (zL 5000)]) (rest := []) ⟨hx, hb, hml, hown, hts⟩ (met_X6_in l xl 2000 5000 (by first | assumption | omega) (by first | assumption | omega) (by first | assumption | omega)) (va_cwS 3 hts gX6_setCurve_X6_in rfl rfl rfl (by decide +kernel) ⟨Nat.le_of_ble_eq_true rfl, Nat.le_of_ble_eq_true rfl⟩) ⟨zTrue.blind, fun U hU hW => ⟨rfl, trivial⟩⟩ rfl rfl hl.1 rfl (lv_room (Nat.le_of_ble_eq_true rfl)) dX6_setCurve_24 ⟨Nat.le_of_ble_eq_true rfl, Nat.le_of_ble_eq_true rfl⟩) ?_
    refine zr_ifb_eq (tgt := 69) hx hb dX6_setCurve_27 (by decide) (fun c3 => ?_) (fun c3 => ?_)
    · refine zr_iconst hx hb dX6_setCurve_69 ?_
      refine lv_istore (lv' := [(5, .int (zI 0)), (4, .int (zI (zB (0 ≤ xk ∧ xk ≤ 10)))), (0, .ref (o 0)), (1, .int (zI xk)), (2, .int (zI xl)), (3, .int (zI xu))]) hx hb dX6_setCurve_70 hl (by decide) rfl (fun ls hl => ?_)
      refine lv_aload_n hx hb dX6_setCurve_72 rfl (lv_at hl 2 rfl) ?_
      refine lv_iload hx hb dX6_setCurve_73 (lv_at hl 1 rfl) ?_
      refine lv_iload hx hb dX6_setCurve_75 (lv_at hl 0 rfl) ?_
      refine zc_i (va_runV (As := [.int (zI (zB (0 ≤ xk ∧ xk ≤ 10))), .int (zI 0)]) (rest := []) ⟨hx, hb, hml, hown, hts⟩ (met_X6_goes l D cs o s.heap.size A S T xsm xth xam f xtl xpl g (0 ≤ xk ∧ xk ≤ 10) False ) (cwV 2 hts gX6_setCurve_X6_goes rfl rfl rfl (by decide +kernel) ⟨Nat.le_of_ble_eq_true rfl, Nat.le_of_ble_eq_true rfl⟩) ⟨zPreZ.blind, va_recv hK hP (ci := 6) (q0 := 0) rfl rfl, fun U hU hW => zp_Z hP hK hD hN hU hW⟩ rfl rfl hl.1 rfl (lv_room (Nat.le_of_ble_eq_true rfl)) dX6_setCurve_77 ⟨Nat.le_of_ble_eq_true rfl, Nat.le_of_ble_eq_true rfl⟩) hS hD hA (fun H locs hP hD hS => ?_)
      have hP : va_P D vwCl (zmod cs o A S T xsm 0 xam f xtl xpl g) H := by rw [show zGo (0 ≤ xk ∧ xk ≤ 10) False = 0 from zGo_0 (by first | trivial | omega | (simp only [not_true, not_false_eq_true]) | (intro h; omega)) (by first | trivial | omega | (simp only [not_true, not_false_eq_true]) | (intro h; omega))] at hP; exact hP
      have hD : va_D A0 (zmod cs o A S T xsm 0 xam f xtl xpl g) := zD_addr hD rfl
      refine zr_ifb_ne (tgt := 85) hx hb dX6_setCurve_80 (by decide) (fun c4 => ?_) (fun c4 => ?_)
      · refine lv_aload_n hx hb dX6_setCurve_85 rfl (lv_at hl 2 rfl) ?_
        refine zc_v (va_runV (As := []) (rest := []) ⟨hx, hb, hml, hown, hts⟩ (met_X6_save l D cs o H.size A S T xsm 0 xam f xtl xpl g (by first | assumption | omega)) (cwV 0 hts gX6_setCurve_X6_save rfl rfl rfl (by decide +kernel) ⟨Nat.le_of_ble_eq_true rfl, Nat.le_of_ble_eq_true rfl⟩) ⟨zPreZ.blind, va_recv hK hP (ci := 6) (q0 := 0) rfl rfl, fun U hU hW => zp_Z hP hK hD hN hU hW⟩ rfl rfl hl.1 rfl (lv_room (Nat.le_of_ble_eq_true rfl)) dX6_setCurve_86 ⟨Nat.le_of_ble_eq_true rfl, Nat.le_of_ble_eq_true rfl⟩) hS hD hA (fun H locs hP hD hS => ?_)
        refine lv_aload_n hx hb dX6_setCurve_89 rfl (lv_at hl 2 rfl) ?_
        refine va_get (D := D) (ci := 6) (v := .ref (o 1)) (C := RX6) (T := TX6) (N := 10) hx hb hts hiX6 hown hK hP 0 rfl rfl 0 (by decide) (hts (.fieldLink RX6 7 "ChargeEstimatorModel" "all" "[J") (List.mem_of_getElem? (i := 4) rfl)) (fun _ h9 => h9) rfl dX6_setCurve_90 ?_
        refine zr_bipush hx hb dX6_setCurve_93 (by decide) ?_
        refine lv_iload_n hx hb dX6_setCurve_95 rfl (lv_at hl 3 rfl) ?_
        refine zr_iadd hx hb dX6_setCurve_96 ?_
        refine zr_lald (D := D) (g := A) hx hb hK hP 1 2 rfl rfl (by decide) (by omega) dX6_setCurve_97 ?_
        refine zr_l2i hx hb dX6_setCurve_98 ?_
        refine lv_istore (lv' := [(6, .int (zI (A (12 + xk)))), (5, .int (zI 0)), (4, .int (zI (zB (0 ≤ xk ∧ xk ≤ 10)))), (0, .ref (o 0)), (1, .int (zI xk)), (2, .int (zI xl)), (3, .int (zI xu))]) hx hb dX6_setCurve_99 hl (by decide) rfl (fun ls hl => ?_)
        refine lv_aload_n hx hb dX6_setCurve_101 rfl (lv_at hl 3 rfl) ?_
        refine va_get (D := D) (ci := 6) (v := .ref (o 1)) (C := RX6) (T := TX6) (N := 10) hx hb hts hiX6 hown hK hP 0 rfl rfl 0 (by decide) (hts (.fieldLink RX6 7 "ChargeEstimatorModel" "all" "[J") (List.mem_of_getElem? (i := 4) rfl)) (fun _ h9 => h9) rfl dX6_setCurve_102 ?_
        refine zr_bipush hx hb dX6_setCurve_105 (by decide) ?_
        refine lv_iload_n hx hb dX6_setCurve_107 rfl (lv_at hl 4 rfl) ?_
        refine zr_iadd hx hb dX6_setCurve_108 ?_
        refine lv_iload_n hx hb dX6_setCurve_109 rfl (lv_at hl 5 rfl) ?_
        refine zr_i2l hx hb dX6_setCurve_110 (by omega) ?_
        refine zr_last (D := D) (g := A) hx hb hK hP hD hS 1 2 rfl rfl (by decide) (by omega) dX6_setCurve_111 (fun H locs hP hD hS => ?_)
        have hP : va_P D vwCl (zmod cs o (zU A (12 + xk) xl) (zSvF S A xsm) T (zm4 xsm) 0 xam f xtl xpl g) H := hP
        have hD : va_D A0 (zmod cs o (zU A (12 + xk) xl) (zSvF S A xsm) T (zm4 xsm) 0 xam f xtl xpl g) := zD_addr hD rfl
        refine lv_aload_n hx hb dX6_setCurve_112 rfl (lv_at hl 3 rfl) ?_
        refine va_get (D := D) (ci := 6) (v := .ref (o 1)) (C := RX6) (T := TX6) (N := 10) hx hb hts hiX6 hown hK hP 0 rfl rfl 0 (by decide) (hts (.fieldLink RX6 7 "ChargeEstimatorModel" "all" "[J") (List.mem_of_getElem? (i := 4) rfl)) (fun _ h9 => h9) rfl dX6_setCurve_113 ?_
        refine zr_bipush hx hb dX6_setCurve_116 (by decide) ?_
        refine lv_iload_n hx hb dX6_setCurve_118 rfl (lv_at hl 4 rfl) ?_
        refine zr_iadd hx hb dX6_setCurve_119 ?_
        refine lv_iload_n hx hb dX6_setCurve_120 rfl (lv_at hl 6 rfl) ?_
        refine zr_i2l hx hb dX6_setCurve_121 (by omega) ?_
        refine zr_last (D := D) (g := zU A (12 + xk) xl) hx hb hK hP hD hS 1 2 rfl rfl (by decide) (by omega) dX6_setCurve_122 (fun H locs hP hD hS => ?_)
        have hP : va_P D vwCl (zmod cs o (zU (zU A (12 + xk) xl) (23 + xk) xu) (zSvF S A xsm) T (zm4 xsm) 0 xam f xtl xpl g) H := hP
        have hD : va_D A0 (zmod cs o (zU (zU A (12 + xk) xl) (23 + xk) xu) (zSvF S A xsm) T (zm4 xsm) 0 xam f xtl xpl g) := zD_addr hD rfl
        refine lv_iload hx hb dX6_setCurve_123 (lv_at hl 0 rfl) ?_
        have hP9 : va_P D vwCl (zmod cs o (zPut A xk xl xu) (zSvF S A xsm) T (zm4 xsm) 0 xam f xtl xpl g) H := hP
        have hD9 : va_D A0 (zmod cs o (zPut A xk xl xu) (zSvF S A xsm) T (zm4 xsm) 0 xam f xtl xpl g) := zD_addr hD rfl
        subst hAe
        exact W.iret hx hb hr (fun t ht hW => ⟨⟨_, (), rfl, (congrArg zI (show A (12 + xk) = A (12 + xk) from by rfl)), by rw [ht]; exact hP9, hD9⟩, hS.F ht⟩) hS.2.2 dX6_setCurve_125
      · exfalso; first | omega | (simp only [and_true, true_and] at c4; omega) | exact c4.2.elim
    · refine lv_iload_n hx hb dX6_setCurve_30 rfl (lv_at hl 4 rfl) ?_
      refine zr_i2l hx hb dX6_setCurve_31 (by omega) ?_
      refine lv_iload_n hx hb dX6_setCurve_32 rfl (lv_at hl 3 rfl) ?_
      refine zr_i2l hx hb dX6_setCurve_33 (by omega) ?_
      refine zr_ldc2 (n := 5000) hx hb hown (hts (.constantLong RX6 30 (5000)) (List.mem_of_getElem? (i := 3) rfl)) rfl dX6_setCurve_34 ?_
      refine zc_ri (va_runS (As := [.long (zL xu), .long (zL xl), .long (zL 5000)]) (rest := []) ⟨hx, hb, hml, hown, hts⟩ (met_X6_in l xu xl 5000 (by first | assumption | omega) (by first | assumption | omega) (by first | assumption | omega)) (va_cwS 3 hts gX6_setCurve_X6_in rfl rfl rfl (by decide +kernel) ⟨Nat.le_of_ble_eq_true rfl, Nat.le_of_ble_eq_true rfl⟩) ⟨zTrue.blind, fun U hU hW => ⟨rfl, trivial⟩⟩ rfl rfl hl.1 rfl (lv_room (Nat.le_of_ble_eq_true rfl)) dX6_setCurve_37 ⟨Nat.le_of_ble_eq_true rfl, Nat.le_of_ble_eq_true rfl⟩) ?_
      refine zr_ifb_eq (tgt := 69) hx hb dX6_setCurve_40 (by decide) (fun c5 => ?_) (fun c5 => ?_)
      · refine zr_iconst hx hb dX6_setCurve_69 ?_
        refine lv_istore (lv' := [(5, .int (zI 0)), (4, .int (zI (zB (0 ≤ xk ∧ xk ≤ 10)))), (0, .ref (o 0)), (1, .int (zI xk)), (2, .int (zI xl)), (3, .int (zI xu))]) hx hb dX6_setCurve_70 hl (by decide) rfl (fun ls hl => ?_)
        refine lv_aload_n hx hb dX6_setCurve_72 rfl (lv_at hl 2 rfl) ?_
        refine lv_iload hx hb dX6_setCurve_73 (lv_at hl 1 rfl) ?_
        refine lv_iload hx hb dX6_setCurve_75 (lv_at hl 0 rfl) ?_
        refine zc_i (va_runV (As := [.int (zI (zB (0 ≤ xk ∧ xk ≤ 10))), .int (zI 0)]) (rest := []) ⟨hx, hb, hml, hown, hts⟩ (met_X6_goes l D cs o s.heap.size A S T xsm xth xam f xtl xpl g (0 ≤ xk ∧ xk ≤ 10) False ) (cwV 2 hts gX6_setCurve_X6_goes rfl rfl rfl (by decide +kernel) ⟨Nat.le_of_ble_eq_true rfl, Nat.le_of_ble_eq_true rfl⟩) ⟨zPreZ.blind, va_recv hK hP (ci := 6) (q0 := 0) rfl rfl, fun U hU hW => zp_Z hP hK hD hN hU hW⟩ rfl rfl hl.1 rfl (lv_room (Nat.le_of_ble_eq_true rfl)) dX6_setCurve_77 ⟨Nat.le_of_ble_eq_true rfl, Nat.le_of_ble_eq_true rfl⟩) hS hD hA (fun H locs hP hD hS => ?_)
        have hP : va_P D vwCl (zmod cs o A S T xsm 0 xam f xtl xpl g) H := by rw [show zGo (0 ≤ xk ∧ xk ≤ 10) False = 0 from zGo_0 (by first | trivial | omega | (simp only [not_true, not_false_eq_true]) | (intro h; omega)) (by first | trivial | omega | (simp only [not_true, not_false_eq_true]) | (intro h; omega))] at hP; exact hP
        have hD : va_D A0 (zmod cs o A S T xsm 0 xam f xtl xpl g) := zD_addr hD rfl
        refine zr_ifb_ne (tgt := 85) hx hb dX6_setCurve_80 (by decide) (fun c6 => ?_) (fun c6 => ?_)
        · refine lv_aload_n hx hb dX6_setCurve_85 rfl (lv_at hl 2 rfl) ?_
          refine zc_v (va_runV (As := []) (rest := []) ⟨hx, hb, hml, hown, hts⟩ (met_X6_save l D cs o H.size A S T xsm 0 xam f xtl xpl g (by first | assumption | omega)) (cwV 0 hts gX6_setCurve_X6_save rfl rfl rfl (by decide +kernel) ⟨Nat.le_of_ble_eq_true rfl, Nat.le_of_ble_eq_true rfl⟩) ⟨zPreZ.blind, va_recv hK hP (ci := 6) (q0 := 0) rfl rfl, fun U hU hW => zp_Z hP hK hD hN hU hW⟩ rfl rfl hl.1 rfl (lv_room (Nat.le_of_ble_eq_true rfl)) dX6_setCurve_86 ⟨Nat.le_of_ble_eq_true rfl, Nat.le_of_ble_eq_true rfl⟩) hS hD hA (fun H locs hP hD hS => ?_)
          refine lv_aload_n hx hb dX6_setCurve_89 rfl (lv_at hl 2 rfl) ?_
          refine va_get (D := D) (ci := 6) (v := .ref (o 1)) (C := RX6) (T := TX6) (N := 10) hx hb hts hiX6 hown hK hP 0 rfl rfl 0 (by decide) (hts (.fieldLink RX6 7 "ChargeEstimatorModel" "all" "[J") (List.mem_of_getElem? (i := 4) rfl)) (fun _ h9 => h9) rfl dX6_setCurve_90 ?_
          refine zr_bipush hx hb dX6_setCurve_93 (by decide) ?_
          refine lv_iload_n hx hb dX6_setCurve_95 rfl (lv_at hl 3 rfl) ?_
          refine zr_iadd hx hb dX6_setCurve_96 ?_
          refine zr_lald (D := D) (g := A) hx hb hK hP 1 2 rfl rfl (by decide) (by omega) dX6_setCurve_97 ?_
          refine zr_l2i hx hb dX6_setCurve_98 ?_
          refine lv_istore (lv' := [(6, .int (zI (A (12 + xk)))), (5, .int (zI 0)), (4, .int (zI (zB (0 ≤ xk ∧ xk ≤ 10)))), (0, .ref (o 0)), (1, .int (zI xk)), (2, .int (zI xl)), (3, .int (zI xu))]) hx hb dX6_setCurve_99 hl (by decide) rfl (fun ls hl => ?_)
          refine lv_aload_n hx hb dX6_setCurve_101 rfl (lv_at hl 3 rfl) ?_
          refine va_get (D := D) (ci := 6) (v := .ref (o 1)) (C := RX6) (T := TX6) (N := 10) hx hb hts hiX6 hown hK hP 0 rfl rfl 0 (by decide) (hts (.fieldLink RX6 7 "ChargeEstimatorModel" "all" "[J") (List.mem_of_getElem? (i := 4) rfl)) (fun _ h9 => h9) rfl dX6_setCurve_102 ?_
          refine zr_bipush hx hb dX6_setCurve_105 (by decide) ?_
          refine lv_iload_n hx hb dX6_setCurve_107 rfl (lv_at hl 4 rfl) ?_
          refine zr_iadd hx hb dX6_setCurve_108 ?_
          refine lv_iload_n hx hb dX6_setCurve_109 rfl (lv_at hl 5 rfl) ?_
          refine zr_i2l hx hb dX6_setCurve_110 (by omega) ?_
          refine zr_last (D := D) (g := A) hx hb hK hP hD hS 1 2 rfl rfl (by decide) (by omega) dX6_setCurve_111 (fun H locs hP hD hS => ?_)
          have hP : va_P D vwCl (zmod cs o (zU A (12 + xk) xl) (zSvF S A xsm) T (zm4 xsm) 0 xam f xtl xpl g) H := hP
          have hD : va_D A0 (zmod cs o (zU A (12 + xk) xl) (zSvF S A xsm) T (zm4 xsm) 0 xam f xtl xpl g) := zD_addr hD rfl
          refine lv_aload_n hx hb dX6_setCurve_112 rfl (lv_at hl 3 rfl) ?_
          refine va_get (D := D) (ci := 6) (v := .ref (o 1)) (C := RX6) (T := TX6) (N := 10) hx hb hts hiX6 hown hK hP 0 rfl rfl 0 (by decide) (hts (.fieldLink RX6 7 "ChargeEstimatorModel" "all" "[J") (List.mem_of_getElem? (i := 4) rfl)) (fun _ h9 => h9) rfl dX6_setCurve_113 ?_
          refine zr_bipush hx hb dX6_setCurve_116 (by decide) ?_
          refine lv_iload_n hx hb dX6_setCurve_118 rfl (lv_at hl 4 rfl) ?_
          refine zr_iadd hx hb dX6_setCurve_119 ?_
          refine lv_iload_n hx hb dX6_setCurve_120 rfl (lv_at hl 6 rfl) ?_
          refine zr_i2l hx hb dX6_setCurve_121 (by omega) ?_
          refine zr_last (D := D) (g := zU A (12 + xk) xl) hx hb hK hP hD hS 1 2 rfl rfl (by decide) (by omega) dX6_setCurve_122 (fun H locs hP hD hS => ?_)
          have hP : va_P D vwCl (zmod cs o (zU (zU A (12 + xk) xl) (23 + xk) xu) (zSvF S A xsm) T (zm4 xsm) 0 xam f xtl xpl g) H := hP
          have hD : va_D A0 (zmod cs o (zU (zU A (12 + xk) xl) (23 + xk) xu) (zSvF S A xsm) T (zm4 xsm) 0 xam f xtl xpl g) := zD_addr hD rfl
          refine lv_iload hx hb dX6_setCurve_123 (lv_at hl 0 rfl) ?_
          have hP9 : va_P D vwCl (zmod cs o (zPut A xk xl xu) (zSvF S A xsm) T (zm4 xsm) 0 xam f xtl xpl g) H := hP
          have hD9 : va_D A0 (zmod cs o (zPut A xk xl xu) (zSvF S A xsm) T (zm4 xsm) 0 xam f xtl xpl g) := zD_addr hD rfl
          subst hAe
          exact W.iret hx hb hr (fun t ht hW => ⟨⟨_, (), rfl, (congrArg zI (show A (12 + xk) = A (12 + xk) from by rfl)), by rw [ht]; exact hP9, hD9⟩, hS.F ht⟩) hS.2.2 dX6_setCurve_125
        · exfalso; first | omega | (simp only [and_true, true_and] at c6; omega) | exact c6.2.elim
      · refine lv_aload_n hx hb dX6_setCurve_43 rfl (lv_at hl 1 rfl) ?_
        refine zr_bipush hx hb dX6_setCurve_44 (by decide) ?_
        refine lv_iload_n hx hb dX6_setCurve_46 rfl (lv_at hl 2 rfl) ?_
        refine lv_iload_n hx hb dX6_setCurve_47 rfl (lv_at hl 3 rfl) ?_
        refine zc_ri (va_runV (As := [.int (zI 12), .int (zI xk), .int (zI xl)]) (rest := []) ⟨hx, hb, hml, hown, hts⟩ (met_X6_ascends l D cs o A S T xsm xth xam f xtl xpl g _ 12 xk xl (by assumption) (by assumption) (by first | decide | omega) (by first | assumption | omega) (by first | assumption | omega)) (cwV 3 hts gX6_setCurve_X6_ascends rfl rfl rfl (by decide +kernel) ⟨Nat.le_of_ble_eq_true rfl, Nat.le_of_ble_eq_true rfl⟩) ⟨zPre.blind, va_recv hK hP (ci := 6) (q0 := 0) rfl rfl, fun U hU hW => zp_R hP hK hD hN hU hW⟩ rfl rfl hl.1 rfl (lv_room (Nat.le_of_ble_eq_true rfl)) dX6_setCurve_48 ⟨Nat.le_of_ble_eq_true rfl, Nat.le_of_ble_eq_true rfl⟩) ?_
        refine zr_ifb_eq (tgt := 69) hx hb dX6_setCurve_51 (by decide) (fun c7 => ?_) (fun c7 => ?_)
        · refine zr_iconst hx hb dX6_setCurve_69 ?_
          refine lv_istore (lv' := [(5, .int (zI 0)), (4, .int (zI (zB (0 ≤ xk ∧ xk ≤ 10)))), (0, .ref (o 0)), (1, .int (zI xk)), (2, .int (zI xl)), (3, .int (zI xu))]) hx hb dX6_setCurve_70 hl (by decide) rfl (fun ls hl => ?_)
          refine lv_aload_n hx hb dX6_setCurve_72 rfl (lv_at hl 2 rfl) ?_
          refine lv_iload hx hb dX6_setCurve_73 (lv_at hl 1 rfl) ?_
          refine lv_iload hx hb dX6_setCurve_75 (lv_at hl 0 rfl) ?_
          refine zc_i (va_runV (As := [.int (zI (zB (0 ≤ xk ∧ xk ≤ 10))), .int (zI 0)]) (rest := []) ⟨hx, hb, hml, hown, hts⟩ (met_X6_goes l D cs o s.heap.size A S T xsm xth xam f xtl xpl g (0 ≤ xk ∧ xk ≤ 10) False ) (cwV 2 hts gX6_setCurve_X6_goes rfl rfl rfl (by decide +kernel) ⟨Nat.le_of_ble_eq_true rfl, Nat.le_of_ble_eq_true rfl⟩) ⟨zPreZ.blind, va_recv hK hP (ci := 6) (q0 := 0) rfl rfl, fun U hU hW => zp_Z hP hK hD hN hU hW⟩ rfl rfl hl.1 rfl (lv_room (Nat.le_of_ble_eq_true rfl)) dX6_setCurve_77 ⟨Nat.le_of_ble_eq_true rfl, Nat.le_of_ble_eq_true rfl⟩) hS hD hA (fun H locs hP hD hS => ?_)
          have hP : va_P D vwCl (zmod cs o A S T xsm 0 xam f xtl xpl g) H := by rw [show zGo (0 ≤ xk ∧ xk ≤ 10) False = 0 from zGo_0 (by first | trivial | omega | (simp only [not_true, not_false_eq_true]) | (intro h; omega)) (by first | trivial | omega | (simp only [not_true, not_false_eq_true]) | (intro h; omega))] at hP; exact hP
          have hD : va_D A0 (zmod cs o A S T xsm 0 xam f xtl xpl g) := zD_addr hD rfl
          refine zr_ifb_ne (tgt := 85) hx hb dX6_setCurve_80 (by decide) (fun c8 => ?_) (fun c8 => ?_)
          · refine lv_aload_n hx hb dX6_setCurve_85 rfl (lv_at hl 2 rfl) ?_
            refine zc_v (va_runV (As := []) (rest := []) ⟨hx, hb, hml, hown, hts⟩ (met_X6_save l D cs o H.size A S T xsm 0 xam f xtl xpl g (by first | assumption | omega)) (cwV 0 hts gX6_setCurve_X6_save rfl rfl rfl (by decide +kernel) ⟨Nat.le_of_ble_eq_true rfl, Nat.le_of_ble_eq_true rfl⟩) ⟨zPreZ.blind, va_recv hK hP (ci := 6) (q0 := 0) rfl rfl, fun U hU hW => zp_Z hP hK hD hN hU hW⟩ rfl rfl hl.1 rfl (lv_room (Nat.le_of_ble_eq_true rfl)) dX6_setCurve_86 ⟨Nat.le_of_ble_eq_true rfl, Nat.le_of_ble_eq_true rfl⟩) hS hD hA (fun H locs hP hD hS => ?_)
            refine lv_aload_n hx hb dX6_setCurve_89 rfl (lv_at hl 2 rfl) ?_
            refine va_get (D := D) (ci := 6) (v := .ref (o 1)) (C := RX6) (T := TX6) (N := 10) hx hb hts hiX6 hown hK hP 0 rfl rfl 0 (by decide) (hts (.fieldLink RX6 7 "ChargeEstimatorModel" "all" "[J") (List.mem_of_getElem? (i := 4) rfl)) (fun _ h9 => h9) rfl dX6_setCurve_90 ?_
            refine zr_bipush hx hb dX6_setCurve_93 (by decide) ?_
            refine lv_iload_n hx hb dX6_setCurve_95 rfl (lv_at hl 3 rfl) ?_
            refine zr_iadd hx hb dX6_setCurve_96 ?_
            refine zr_lald (D := D) (g := A) hx hb hK hP 1 2 rfl rfl (by decide) (by omega) dX6_setCurve_97 ?_
            refine zr_l2i hx hb dX6_setCurve_98 ?_
            refine lv_istore (lv' := [(6, .int (zI (A (12 + xk)))), (5, .int (zI 0)), (4, .int (zI (zB (0 ≤ xk ∧ xk ≤ 10)))), (0, .ref (o 0)), (1, .int (zI xk)), (2, .int (zI xl)), (3, .int (zI xu))]) hx hb dX6_setCurve_99 hl (by decide) rfl (fun ls hl => ?_)
            refine lv_aload_n hx hb dX6_setCurve_101 rfl (lv_at hl 3 rfl) ?_
            refine va_get (D := D) (ci := 6) (v := .ref (o 1)) (C := RX6) (T := TX6) (N := 10) hx hb hts hiX6 hown hK hP 0 rfl rfl 0 (by decide) (hts (.fieldLink RX6 7 "ChargeEstimatorModel" "all" "[J") (List.mem_of_getElem? (i := 4) rfl)) (fun _ h9 => h9) rfl dX6_setCurve_102 ?_
            refine zr_bipush hx hb dX6_setCurve_105 (by decide) ?_
            refine lv_iload_n hx hb dX6_setCurve_107 rfl (lv_at hl 4 rfl) ?_
            refine zr_iadd hx hb dX6_setCurve_108 ?_
            refine lv_iload_n hx hb dX6_setCurve_109 rfl (lv_at hl 5 rfl) ?_
            refine zr_i2l hx hb dX6_setCurve_110 (by omega) ?_
            refine zr_last (D := D) (g := A) hx hb hK hP hD hS 1 2 rfl rfl (by decide) (by omega) dX6_setCurve_111 (fun H locs hP hD hS => ?_)
            have hP : va_P D vwCl (zmod cs o (zU A (12 + xk) xl) (zSvF S A xsm) T (zm4 xsm) 0 xam f xtl xpl g) H := hP
            have hD : va_D A0 (zmod cs o (zU A (12 + xk) xl) (zSvF S A xsm) T (zm4 xsm) 0 xam f xtl xpl g) := zD_addr hD rfl
            refine lv_aload_n hx hb dX6_setCurve_112 rfl (lv_at hl 3 rfl) ?_
            refine va_get (D := D) (ci := 6) (v := .ref (o 1)) (C := RX6) (T := TX6) (N := 10) hx hb hts hiX6 hown hK hP 0 rfl rfl 0 (by decide) (hts (.fieldLink RX6 7 "ChargeEstimatorModel" "all" "[J") (List.mem_of_getElem? (i := 4) rfl)) (fun _ h9 => h9) rfl dX6_setCurve_113 ?_
            refine zr_bipush hx hb dX6_setCurve_116 (by decide) ?_
            refine lv_iload_n hx hb dX6_setCurve_118 rfl (lv_at hl 4 rfl) ?_
            refine zr_iadd hx hb dX6_setCurve_119 ?_
            refine lv_iload_n hx hb dX6_setCurve_120 rfl (lv_at hl 6 rfl) ?_
            refine zr_i2l hx hb dX6_setCurve_121 (by omega) ?_
            refine zr_last (D := D) (g := zU A (12 + xk) xl) hx hb hK hP hD hS 1 2 rfl rfl (by decide) (by omega) dX6_setCurve_122 (fun H locs hP hD hS => ?_)
            have hP : va_P D vwCl (zmod cs o (zU (zU A (12 + xk) xl) (23 + xk) xu) (zSvF S A xsm) T (zm4 xsm) 0 xam f xtl xpl g) H := hP
            have hD : va_D A0 (zmod cs o (zU (zU A (12 + xk) xl) (23 + xk) xu) (zSvF S A xsm) T (zm4 xsm) 0 xam f xtl xpl g) := zD_addr hD rfl
            refine lv_iload hx hb dX6_setCurve_123 (lv_at hl 0 rfl) ?_
            have hP9 : va_P D vwCl (zmod cs o (zPut A xk xl xu) (zSvF S A xsm) T (zm4 xsm) 0 xam f xtl xpl g) H := hP
            have hD9 : va_D A0 (zmod cs o (zPut A xk xl xu) (zSvF S A xsm) T (zm4 xsm) 0 xam f xtl xpl g) := zD_addr hD rfl
            subst hAe
            exact W.iret hx hb hr (fun t ht hW => ⟨⟨_, (), rfl, (congrArg zI (show A (12 + xk) = A (12 + xk) from by rfl)), by rw [ht]; exact hP9, hD9⟩, hS.F ht⟩) hS.2.2 dX6_setCurve_125
          · exfalso; first | omega | (simp only [and_true, true_and] at c8; omega) | exact c8.2.elim
        · refine lv_aload_n hx hb dX6_setCurve_54 rfl (lv_at hl 1 rfl) ?_
          refine zr_bipush hx hb dX6_setCurve_55 (by decide) ?_
          refine lv_iload_n hx hb dX6_setCurve_57 rfl (lv_at hl 2 rfl) ?_
          refine lv_iload_n hx hb dX6_setCurve_58 rfl (lv_at hl 4 rfl) ?_
          refine zc_ri (va_runV (As := [.int (zI 23), .int (zI xk), .int (zI xu)]) (rest := []) ⟨hx, hb, hml, hown, hts⟩ (met_X6_ascends l D cs o A S T xsm xth xam f xtl xpl g _ 23 xk xu (by assumption) (by assumption) (by first | decide | omega) (by first | assumption | omega) (by first | assumption | omega)) (cwV 3 hts gX6_setCurve_X6_ascends rfl rfl rfl (by decide +kernel) ⟨Nat.le_of_ble_eq_true rfl, Nat.le_of_ble_eq_true rfl⟩) ⟨zPre.blind, va_recv hK hP (ci := 6) (q0 := 0) rfl rfl, fun U hU hW => zp_R hP hK hD hN hU hW⟩ rfl rfl hl.1 rfl (lv_room (Nat.le_of_ble_eq_true rfl)) dX6_setCurve_59 ⟨Nat.le_of_ble_eq_true rfl, Nat.le_of_ble_eq_true rfl⟩) ?_
          refine zr_ifb_eq (tgt := 69) hx hb dX6_setCurve_62 (by decide) (fun c9 => ?_) (fun c9 => ?_)
          · refine zr_iconst hx hb dX6_setCurve_69 ?_
            refine lv_istore (lv' := [(5, .int (zI 0)), (4, .int (zI (zB (0 ≤ xk ∧ xk ≤ 10)))), (0, .ref (o 0)), (1, .int (zI xk)), (2, .int (zI xl)), (3, .int (zI xu))]) hx hb dX6_setCurve_70 hl (by decide) rfl (fun ls hl => ?_)
            refine lv_aload_n hx hb dX6_setCurve_72 rfl (lv_at hl 2 rfl) ?_
            refine lv_iload hx hb dX6_setCurve_73 (lv_at hl 1 rfl) ?_
            refine lv_iload hx hb dX6_setCurve_75 (lv_at hl 0 rfl) ?_
            refine zc_i (va_runV (As := [.int (zI (zB (0 ≤ xk ∧ xk ≤ 10))), .int (zI 0)]) (rest := []) ⟨hx, hb, hml, hown, hts⟩ (met_X6_goes l D cs o s.heap.size A S T xsm xth xam f xtl xpl g (0 ≤ xk ∧ xk ≤ 10) False ) (cwV 2 hts gX6_setCurve_X6_goes rfl rfl rfl (by decide +kernel) ⟨Nat.le_of_ble_eq_true rfl, Nat.le_of_ble_eq_true rfl⟩) ⟨zPreZ.blind, va_recv hK hP (ci := 6) (q0 := 0) rfl rfl, fun U hU hW => zp_Z hP hK hD hN hU hW⟩ rfl rfl hl.1 rfl (lv_room (Nat.le_of_ble_eq_true rfl)) dX6_setCurve_77 ⟨Nat.le_of_ble_eq_true rfl, Nat.le_of_ble_eq_true rfl⟩) hS hD hA (fun H locs hP hD hS => ?_)
            have hP : va_P D vwCl (zmod cs o A S T xsm 0 xam f xtl xpl g) H := by rw [show zGo (0 ≤ xk ∧ xk ≤ 10) False = 0 from zGo_0 (by first | trivial | omega | (simp only [not_true, not_false_eq_true]) | (intro h; omega)) (by first | trivial | omega | (simp only [not_true, not_false_eq_true]) | (intro h; omega))] at hP; exact hP
            have hD : va_D A0 (zmod cs o A S T xsm 0 xam f xtl xpl g) := zD_addr hD rfl
            refine zr_ifb_ne (tgt := 85) hx hb dX6_setCurve_80 (by decide) (fun c10 => ?_) (fun c10 => ?_)
            · refine lv_aload_n hx hb dX6_setCurve_85 rfl (lv_at hl 2 rfl) ?_
              refine zc_v (va_runV (As := []) (rest := []) ⟨hx, hb, hml, hown, hts⟩ (met_X6_save l D cs o H.size A S T xsm 0 xam f xtl xpl g (by first | assumption | omega)) (cwV 0 hts gX6_setCurve_X6_save rfl rfl rfl (by decide +kernel) ⟨Nat.le_of_ble_eq_true rfl, Nat.le_of_ble_eq_true rfl⟩) ⟨zPreZ.blind, va_recv hK hP (ci := 6) (q0 := 0) rfl rfl, fun U hU hW => zp_Z hP hK hD hN hU hW⟩ rfl rfl hl.1 rfl (lv_room (Nat.le_of_ble_eq_true rfl)) dX6_setCurve_86 ⟨Nat.le_of_ble_eq_true rfl, Nat.le_of_ble_eq_true rfl⟩) hS hD hA (fun H locs hP hD hS => ?_)
              refine lv_aload_n hx hb dX6_setCurve_89 rfl (lv_at hl 2 rfl) ?_
              refine va_get (D := D) (ci := 6) (v := .ref (o 1)) (C := RX6) (T := TX6) (N := 10) hx hb hts hiX6 hown hK hP 0 rfl rfl 0 (by decide) (hts (.fieldLink RX6 7 "ChargeEstimatorModel" "all" "[J") (List.mem_of_getElem? (i := 4) rfl)) (fun _ h9 => h9) rfl dX6_setCurve_90 ?_
              refine zr_bipush hx hb dX6_setCurve_93 (by decide) ?_
              refine lv_iload_n hx hb dX6_setCurve_95 rfl (lv_at hl 3 rfl) ?_
              refine zr_iadd hx hb dX6_setCurve_96 ?_
              refine zr_lald (D := D) (g := A) hx hb hK hP 1 2 rfl rfl (by decide) (by omega) dX6_setCurve_97 ?_
              refine zr_l2i hx hb dX6_setCurve_98 ?_
              refine lv_istore (lv' := [(6, .int (zI (A (12 + xk)))), (5, .int (zI 0)), (4, .int (zI (zB (0 ≤ xk ∧ xk ≤ 10)))), (0, .ref (o 0)), (1, .int (zI xk)), (2, .int (zI xl)), (3, .int (zI xu))]) hx hb dX6_setCurve_99 hl (by decide) rfl (fun ls hl => ?_)
              refine lv_aload_n hx hb dX6_setCurve_101 rfl (lv_at hl 3 rfl) ?_
              refine va_get (D := D) (ci := 6) (v := .ref (o 1)) (C := RX6) (T := TX6) (N := 10) hx hb hts hiX6 hown hK hP 0 rfl rfl 0 (by decide) (hts (.fieldLink RX6 7 "ChargeEstimatorModel" "all" "[J") (List.mem_of_getElem? (i := 4) rfl)) (fun _ h9 => h9) rfl dX6_setCurve_102 ?_
              refine zr_bipush hx hb dX6_setCurve_105 (by decide) ?_
              refine lv_iload_n hx hb dX6_setCurve_107 rfl (lv_at hl 4 rfl) ?_
              refine zr_iadd hx hb dX6_setCurve_108 ?_
              refine lv_iload_n hx hb dX6_setCurve_109 rfl (lv_at hl 5 rfl) ?_
              refine zr_i2l hx hb dX6_setCurve_110 (by omega) ?_
              refine zr_last (D := D) (g := A) hx hb hK hP hD hS 1 2 rfl rfl (by decide) (by omega) dX6_setCurve_111 (fun H locs hP hD hS => ?_)
              have hP : va_P D vwCl (zmod cs o (zU A (12 + xk) xl) (zSvF S A xsm) T (zm4 xsm) 0 xam f xtl xpl g) H := hP
              have hD : va_D A0 (zmod cs o (zU A (12 + xk) xl) (zSvF S A xsm) T (zm4 xsm) 0 xam f xtl xpl g) := zD_addr hD rfl
              refine lv_aload_n hx hb dX6_setCurve_112 rfl (lv_at hl 3 rfl) ?_
              refine va_get (D := D) (ci := 6) (v := .ref (o 1)) (C := RX6) (T := TX6) (N := 10) hx hb hts hiX6 hown hK hP 0 rfl rfl 0 (by decide) (hts (.fieldLink RX6 7 "ChargeEstimatorModel" "all" "[J") (List.mem_of_getElem? (i := 4) rfl)) (fun _ h9 => h9) rfl dX6_setCurve_113 ?_
              refine zr_bipush hx hb dX6_setCurve_116 (by decide) ?_
              refine lv_iload_n hx hb dX6_setCurve_118 rfl (lv_at hl 4 rfl) ?_
              refine zr_iadd hx hb dX6_setCurve_119 ?_
              refine lv_iload_n hx hb dX6_setCurve_120 rfl (lv_at hl 6 rfl) ?_
              refine zr_i2l hx hb dX6_setCurve_121 (by omega) ?_
              refine zr_last (D := D) (g := zU A (12 + xk) xl) hx hb hK hP hD hS 1 2 rfl rfl (by decide) (by omega) dX6_setCurve_122 (fun H locs hP hD hS => ?_)
              have hP : va_P D vwCl (zmod cs o (zU (zU A (12 + xk) xl) (23 + xk) xu) (zSvF S A xsm) T (zm4 xsm) 0 xam f xtl xpl g) H := hP
              have hD : va_D A0 (zmod cs o (zU (zU A (12 + xk) xl) (23 + xk) xu) (zSvF S A xsm) T (zm4 xsm) 0 xam f xtl xpl g) := zD_addr hD rfl
              refine lv_iload hx hb dX6_setCurve_123 (lv_at hl 0 rfl) ?_
              have hP9 : va_P D vwCl (zmod cs o (zPut A xk xl xu) (zSvF S A xsm) T (zm4 xsm) 0 xam f xtl xpl g) H := hP
              have hD9 : va_D A0 (zmod cs o (zPut A xk xl xu) (zSvF S A xsm) T (zm4 xsm) 0 xam f xtl xpl g) := zD_addr hD rfl
              subst hAe
              exact W.iret hx hb hr (fun t ht hW => ⟨⟨_, (), rfl, (congrArg zI (show A (12 + xk) = A (12 + xk) from by rfl)), by rw [ht]; exact hP9, hD9⟩, hS.F ht⟩) hS.2.2 dX6_setCurve_125
            · exfalso; first | omega | (simp only [and_true, true_and] at c10; omega) | exact c10.2.elim
          · refine zr_iconst hx hb dX6_setCurve_65 ?_
            refine lv_goto (tgt := 70) hx hb dX6_setCurve_66 (by decide) ?_
            refine lv_istore (lv' := [(5, .int (zI 1)), (4, .int (zI (zB (0 ≤ xk ∧ xk ≤ 10)))), (0, .ref (o 0)), (1, .int (zI xk)), (2, .int (zI xl)), (3, .int (zI xu))]) hx hb dX6_setCurve_70 hl (by decide) rfl (fun ls hl => ?_)
            refine lv_aload_n hx hb dX6_setCurve_72 rfl (lv_at hl 2 rfl) ?_
            refine lv_iload hx hb dX6_setCurve_73 (lv_at hl 1 rfl) ?_
            refine lv_iload hx hb dX6_setCurve_75 (lv_at hl 0 rfl) ?_
            refine zc_i (va_runV (As := [.int (zI (zB (0 ≤ xk ∧ xk ≤ 10))), .int (zI 1)]) (rest := []) ⟨hx, hb, hml, hown, hts⟩ (met_X6_goes l D cs o s.heap.size A S T xsm xth xam f xtl xpl g (0 ≤ xk ∧ xk ≤ 10) True ) (cwV 2 hts gX6_setCurve_X6_goes rfl rfl rfl (by decide +kernel) ⟨Nat.le_of_ble_eq_true rfl, Nat.le_of_ble_eq_true rfl⟩) ⟨zPreZ.blind, va_recv hK hP (ci := 6) (q0 := 0) rfl rfl, fun U hU hW => zp_Z hP hK hD hN hU hW⟩ rfl rfl hl.1 rfl (lv_room (Nat.le_of_ble_eq_true rfl)) dX6_setCurve_77 ⟨Nat.le_of_ble_eq_true rfl, Nat.le_of_ble_eq_true rfl⟩) hS hD hA (fun H locs hP hD hS => ?_)
            have hP : va_P D vwCl (zmod cs o A S T xsm 0 xam f xtl xpl g) H := by rw [show zGo (0 ≤ xk ∧ xk ≤ 10) True = 0 from zGo_0 (by first | trivial | omega | (simp only [not_true, not_false_eq_true]) | (intro h; omega)) (by first | trivial | omega | (simp only [not_true, not_false_eq_true]) | (intro h; omega))] at hP; exact hP
            have hD : va_D A0 (zmod cs o A S T xsm 0 xam f xtl xpl g) := zD_addr hD rfl
            refine zr_ifb_ne (tgt := 85) hx hb dX6_setCurve_80 (by decide) (fun c11 => ?_) (fun c11 => ?_)
            · refine lv_aload_n hx hb dX6_setCurve_85 rfl (lv_at hl 2 rfl) ?_
              refine zc_v (va_runV (As := []) (rest := []) ⟨hx, hb, hml, hown, hts⟩ (met_X6_save l D cs o H.size A S T xsm 0 xam f xtl xpl g (by first | assumption | omega)) (cwV 0 hts gX6_setCurve_X6_save rfl rfl rfl (by decide +kernel) ⟨Nat.le_of_ble_eq_true rfl, Nat.le_of_ble_eq_true rfl⟩) ⟨zPreZ.blind, va_recv hK hP (ci := 6) (q0 := 0) rfl rfl, fun U hU hW => zp_Z hP hK hD hN hU hW⟩ rfl rfl hl.1 rfl (lv_room (Nat.le_of_ble_eq_true rfl)) dX6_setCurve_86 ⟨Nat.le_of_ble_eq_true rfl, Nat.le_of_ble_eq_true rfl⟩) hS hD hA (fun H locs hP hD hS => ?_)
              refine lv_aload_n hx hb dX6_setCurve_89 rfl (lv_at hl 2 rfl) ?_
              refine va_get (D := D) (ci := 6) (v := .ref (o 1)) (C := RX6) (T := TX6) (N := 10) hx hb hts hiX6 hown hK hP 0 rfl rfl 0 (by decide) (hts (.fieldLink RX6 7 "ChargeEstimatorModel" "all" "[J") (List.mem_of_getElem? (i := 4) rfl)) (fun _ h9 => h9) rfl dX6_setCurve_90 ?_
              refine zr_bipush hx hb dX6_setCurve_93 (by decide) ?_
              refine lv_iload_n hx hb dX6_setCurve_95 rfl (lv_at hl 3 rfl) ?_
              refine zr_iadd hx hb dX6_setCurve_96 ?_
              refine zr_lald (D := D) (g := A) hx hb hK hP 1 2 rfl rfl (by decide) (by omega) dX6_setCurve_97 ?_
              refine zr_l2i hx hb dX6_setCurve_98 ?_
              refine lv_istore (lv' := [(6, .int (zI (A (12 + xk)))), (5, .int (zI 1)), (4, .int (zI (zB (0 ≤ xk ∧ xk ≤ 10)))), (0, .ref (o 0)), (1, .int (zI xk)), (2, .int (zI xl)), (3, .int (zI xu))]) hx hb dX6_setCurve_99 hl (by decide) rfl (fun ls hl => ?_)
              refine lv_aload_n hx hb dX6_setCurve_101 rfl (lv_at hl 3 rfl) ?_
              refine va_get (D := D) (ci := 6) (v := .ref (o 1)) (C := RX6) (T := TX6) (N := 10) hx hb hts hiX6 hown hK hP 0 rfl rfl 0 (by decide) (hts (.fieldLink RX6 7 "ChargeEstimatorModel" "all" "[J") (List.mem_of_getElem? (i := 4) rfl)) (fun _ h9 => h9) rfl dX6_setCurve_102 ?_
              refine zr_bipush hx hb dX6_setCurve_105 (by decide) ?_
              refine lv_iload_n hx hb dX6_setCurve_107 rfl (lv_at hl 4 rfl) ?_
              refine zr_iadd hx hb dX6_setCurve_108 ?_
              refine lv_iload_n hx hb dX6_setCurve_109 rfl (lv_at hl 5 rfl) ?_
              refine zr_i2l hx hb dX6_setCurve_110 (by omega) ?_
              refine zr_last (D := D) (g := A) hx hb hK hP hD hS 1 2 rfl rfl (by decide) (by omega) dX6_setCurve_111 (fun H locs hP hD hS => ?_)
              have hP : va_P D vwCl (zmod cs o (zU A (12 + xk) xl) (zSvF S A xsm) T (zm4 xsm) 0 xam f xtl xpl g) H := hP
              have hD : va_D A0 (zmod cs o (zU A (12 + xk) xl) (zSvF S A xsm) T (zm4 xsm) 0 xam f xtl xpl g) := zD_addr hD rfl
              refine lv_aload_n hx hb dX6_setCurve_112 rfl (lv_at hl 3 rfl) ?_
              refine va_get (D := D) (ci := 6) (v := .ref (o 1)) (C := RX6) (T := TX6) (N := 10) hx hb hts hiX6 hown hK hP 0 rfl rfl 0 (by decide) (hts (.fieldLink RX6 7 "ChargeEstimatorModel" "all" "[J") (List.mem_of_getElem? (i := 4) rfl)) (fun _ h9 => h9) rfl dX6_setCurve_113 ?_
              refine zr_bipush hx hb dX6_setCurve_116 (by decide) ?_
              refine lv_iload_n hx hb dX6_setCurve_118 rfl (lv_at hl 4 rfl) ?_
              refine zr_iadd hx hb dX6_setCurve_119 ?_
              refine lv_iload_n hx hb dX6_setCurve_120 rfl (lv_at hl 6 rfl) ?_
              refine zr_i2l hx hb dX6_setCurve_121 (by omega) ?_
              refine zr_last (D := D) (g := zU A (12 + xk) xl) hx hb hK hP hD hS 1 2 rfl rfl (by decide) (by omega) dX6_setCurve_122 (fun H locs hP hD hS => ?_)
              have hP : va_P D vwCl (zmod cs o (zU (zU A (12 + xk) xl) (23 + xk) xu) (zSvF S A xsm) T (zm4 xsm) 0 xam f xtl xpl g) H := hP
              have hD : va_D A0 (zmod cs o (zU (zU A (12 + xk) xl) (23 + xk) xu) (zSvF S A xsm) T (zm4 xsm) 0 xam f xtl xpl g) := zD_addr hD rfl
              refine lv_iload hx hb dX6_setCurve_123 (lv_at hl 0 rfl) ?_
              have hP9 : va_P D vwCl (zmod cs o (zPut A xk xl xu) (zSvF S A xsm) T (zm4 xsm) 0 xam f xtl xpl g) H := hP
              have hD9 : va_D A0 (zmod cs o (zPut A xk xl xu) (zSvF S A xsm) T (zm4 xsm) 0 xam f xtl xpl g) := zD_addr hD rfl
              subst hAe
              exact W.iret hx hb hr (fun t ht hW => ⟨⟨_, (), rfl, (congrArg zI (show A (12 + xk) = A (12 + xk) from by rfl)), by rw [ht]; exact hP9, hD9⟩, hS.F ht⟩) hS.2.2 dX6_setCurve_125
            · exfalso; first | omega | (simp only [and_true, true_and] at c11; omega) | exact c11.2.elim
set_option maxHeartbeats 4000000 in
set_option maxRecDepth 100000 in
theorem met_X6_setCurve_no1 (l : Launch) (D : va_G) (cs : Nat → ClassId) (o : Nat → Nat) (sz : Nat) (A S T : Int → Int) (xsm xth xam : Int) (f : Int → Int) (xtl xpl : Int) (g : Int → Int) (n : Int) (xk xl xu : Int) (hI : zOK n A) (hn : 0 ≤ n ∧ n ≤ 3100000) (ksm : 0 ≤ xsm ∧ xsm ≤ 4) (rxk : -2147483648 ≤ xk ∧ xk ≤ 2147483647) (rxl : -2147483648 ≤ xl ∧ xl ≤ 2147483647) (rxu : -2147483648 ≤ xu ∧ xu ≤ 2147483647) (kno : ¬ (0 ≤ xk ∧ xk ≤ 10)) : Met l yX6_setCurve wsX6_setCurve ({ frames := 1, cells := 0, slots := 0, locals := 25 }) (va_Pc [.ref (o 0), .int (zI xk), .int (zI xl), .int (zI xu)] (zPreZ D (zTy cs) (zmod cs o A S T xsm xth xam f xtl xpl g) sz)) (zQi D (zmod cs o A S T xsm xth xam f xtl xpl g) sz (zI (0)) (zmod cs o A S T xsm 1 xam f xtl xpl g)) 0 0 (va_A (zmod cs o A S T xsm xth xam f xtl xpl g) sz) := by
  refine Met.ofW (cc := cX6_setCurve) (maxL := 7) (ret := (some .int)) (by decide) rfl ?_
  intro p e s m args below meth c s₁ B hml hv
  obtain ⟨rfl, hsz, hP, hK, hD0, hN⟩ := hv
  have hx := B.exec
  have hb := B.bytes
  have hr := B.returns
  have hts := atoms_spec (ws := wsX6_setCurve) B.pre
  have hown : s.vm.findClass RX6 = some m.cls := findClass_of_methodNamed B.named
  have hlocks := B.notSynchronized
  subst hsz
  obtain ⟨A0, hAe⟩ : ∃ A0, A0 = va_A (zmod cs o A S T xsm xth xam f xtl xpl g) s.heap.size := ⟨_, rfl⟩
  have hD := hD0.self (sz := s.heap.size)
  rw [← hAe] at hD
  have hA : ∀ q : Nat, s.heap.size ≤ q → A0 q := fun q h => by rw [hAe]; exact Or.inr h
  have hS : va_S A0 s.heap s.heap [] := va_S.rf
  have hP : va_P D vwCl (zmod cs o A S T xsm xth xam f xtl xpl g) s.heap := hP
  have hl := lv_entry ([.ref (o 0), .int (zI xk), .int (zI xl), .int (zI xu)]) (n := 7) (Nat.le_of_ble_eq_true rfl)
  rw [lg_entry_eq]
  generalize (lg_sl ([.ref (o 0), .int (zI xk), .int (zI xl), .int (zI xu)]) ++ List.replicate (7 - (lg_sl ([.ref (o 0), .int (zI xk), .int (zI xl), .int (zI xu)])).length) Slot.unset).toArray = ls at hl ⊢
  have hl : lv_has ls 7 [(0, .ref (o 0)), (1, .int (zI xk)), (2, .int (zI xl)), (3, .int (zI xu))] := hl
  refine lv_iload_n hx hb dX6_setCurve_0 rfl (lv_at hl 1 rfl) ?_
  refine zr_i2l hx hb dX6_setCurve_1 (by omega) ?_
  refine zr_lconst0 hx hb dX6_setCurve_2 ?_
  refine zr_ldc2 (n := 10) hx hb hown (hts (.constantLong RX6 32 (10)) (List.mem_of_getElem? (i := 1) rfl)) rfl dX6_setCurve_3 ?_
  refine zc_ri (va_runS (As := [.long (zL xk), .long (zL 0), .long (zL 10)]) (rest := []) ⟨hx, hb, hml, hown, hts⟩ (met_X6_in l xk 0 10 (by first | assumption | omega) (by first | assumption | omega) (by first | assumption | omega)) (va_cwS 3 hts gX6_setCurve_X6_in rfl rfl rfl (by decide +kernel) ⟨Nat.le_of_ble_eq_true rfl, Nat.le_of_ble_eq_true rfl⟩) ⟨zTrue.blind, fun U hU hW => ⟨rfl, trivial⟩⟩ rfl rfl hl.1 rfl (lv_room (Nat.le_of_ble_eq_true rfl)) dX6_setCurve_6 ⟨Nat.le_of_ble_eq_true rfl, Nat.le_of_ble_eq_true rfl⟩) ?_
  refine lv_istore (lv' := [(4, .int (zI (zB (0 ≤ xk ∧ xk ≤ 10)))), (0, .ref (o 0)), (1, .int (zI xk)), (2, .int (zI xl)), (3, .int (zI xu))]) hx hb dX6_setCurve_9 hl (by decide) rfl (fun ls hl => ?_)
  refine lv_iload hx hb dX6_setCurve_11 (lv_at hl 0 rfl) ?_
  refine zr_ifb_eq (tgt := 69) hx hb dX6_setCurve_13 (by decide) (fun c1 => ?_) (fun c1 => ?_)
  · refine zr_iconst hx hb dX6_setCurve_69 ?_
    refine lv_istore (lv' := [(5, .int (zI 0)), (4, .int (zI (zB (0 ≤ xk ∧ xk ≤ 10)))), (0, .ref (o 0)), (1, .int (zI xk)), (2, .int (zI xl)), (3, .int (zI xu))]) hx hb dX6_setCurve_70 hl (by decide) rfl (fun ls hl => ?_)
    refine lv_aload_n hx hb dX6_setCurve_72 rfl (lv_at hl 2 rfl) ?_
    refine lv_iload hx hb dX6_setCurve_73 (lv_at hl 1 rfl) ?_
    refine lv_iload hx hb dX6_setCurve_75 (lv_at hl 0 rfl) ?_
    refine zc_i (va_runV (As := [.int (zI (zB (0 ≤ xk ∧ xk ≤ 10))), .int (zI 0)]) (rest := []) ⟨hx, hb, hml, hown, hts⟩ (met_X6_goes l D cs o s.heap.size A S T xsm xth xam f xtl xpl g (0 ≤ xk ∧ xk ≤ 10) False ) (cwV 2 hts gX6_setCurve_X6_goes rfl rfl rfl (by decide +kernel) ⟨Nat.le_of_ble_eq_true rfl, Nat.le_of_ble_eq_true rfl⟩) ⟨zPreZ.blind, va_recv hK hP (ci := 6) (q0 := 0) rfl rfl, fun U hU hW => zp_Z hP hK hD hN hU hW⟩ rfl rfl hl.1 rfl (lv_room (Nat.le_of_ble_eq_true rfl)) dX6_setCurve_77 ⟨Nat.le_of_ble_eq_true rfl, Nat.le_of_ble_eq_true rfl⟩) hS hD hA (fun H locs hP hD hS => ?_)
    have hP : va_P D vwCl (zmod cs o A S T xsm 1 xam f xtl xpl g) H := by rw [show zGo (0 ≤ xk ∧ xk ≤ 10) False = 1 from zGo_1 (by first | trivial | omega | (simp only [not_true, not_false_eq_true]) | (intro h; omega))] at hP; exact hP
    have hD : va_D A0 (zmod cs o A S T xsm 1 xam f xtl xpl g) := zD_addr hD rfl
    refine zr_ifb_ne (tgt := 85) hx hb dX6_setCurve_80 (by decide) (fun c2 => ?_) (fun c2 => ?_)
    · exfalso; first | omega | (simp only [and_true, true_and] at c2; omega) | exact c2.2.elim
    · refine zr_iconst hx hb dX6_setCurve_83 ?_
      have hP9 : va_P D vwCl (zmod cs o A S T xsm 1 xam f xtl xpl g) H := hP
      have hD9 : va_D A0 (zmod cs o A S T xsm 1 xam f xtl xpl g) := zD_addr hD rfl
      subst hAe
      exact W.iret hx hb hr (fun t ht hW => ⟨⟨_, (), rfl, (congrArg zI (show 0 = 0 from by rfl)), by rw [ht]; exact hP9, hD9⟩, hS.F ht⟩) hS.2.2 dX6_setCurve_84
  · refine lv_iload_n hx hb dX6_setCurve_16 rfl (lv_at hl 3 rfl) ?_
    refine zr_i2l hx hb dX6_setCurve_17 (by omega) ?_
    refine zr_ldc2 (n := 2000) hx hb hown (hts (.constantLong RX6 56 (2000)) (List.mem_of_getElem? (i := 2) rfl)) rfl dX6_setCurve_18 ?_
    refine zr_ldc2 (n := 5000) hx hb hown (hts (.constantLong RX6 30 (5000)) (List.mem_of_getElem? (i := 3) rfl)) rfl dX6_setCurve_21 ?_
    refine zc_ri (va_runS (As := [.long (zL xl), .long (zL 2000), .long (zL 5000)]) (rest := []) ⟨hx, hb, hml, hown, hts⟩ (met_X6_in l xl 2000 5000 (by first | assumption | omega) (by first | assumption | omega) (by first | assumption | omega)) (va_cwS 3 hts gX6_setCurve_X6_in rfl rfl rfl (by decide +kernel) ⟨Nat.le_of_ble_eq_true rfl, Nat.le_of_ble_eq_true rfl⟩) ⟨zTrue.blind, fun U hU hW => ⟨rfl, trivial⟩⟩ rfl rfl hl.1 rfl (lv_room (Nat.le_of_ble_eq_true rfl)) dX6_setCurve_24 ⟨Nat.le_of_ble_eq_true rfl, Nat.le_of_ble_eq_true rfl⟩) ?_
    refine zr_ifb_eq (tgt := 69) hx hb dX6_setCurve_27 (by decide) (fun c3 => ?_) (fun c3 => ?_)
    · refine zr_iconst hx hb dX6_setCurve_69 ?_
      refine lv_istore (lv' := [(5, .int (zI 0)), (4, .int (zI (zB (0 ≤ xk ∧ xk ≤ 10)))), (0, .ref (o 0)), (1, .int (zI xk)), (2, .int (zI xl)), (3, .int (zI xu))]) hx hb dX6_setCurve_70 hl (by decide) rfl (fun ls hl => ?_)
      refine lv_aload_n hx hb dX6_setCurve_72 rfl (lv_at hl 2 rfl) ?_
      refine lv_iload hx hb dX6_setCurve_73 (lv_at hl 1 rfl) ?_
      refine lv_iload hx hb dX6_setCurve_75 (lv_at hl 0 rfl) ?_
      refine zc_i (va_runV (As := [.int (zI (zB (0 ≤ xk ∧ xk ≤ 10))), .int (zI 0)]) (rest := []) ⟨hx, hb, hml, hown, hts⟩ (met_X6_goes l D cs o s.heap.size A S T xsm xth xam f xtl xpl g (0 ≤ xk ∧ xk ≤ 10) False ) (cwV 2 hts gX6_setCurve_X6_goes rfl rfl rfl (by decide +kernel) ⟨Nat.le_of_ble_eq_true rfl, Nat.le_of_ble_eq_true rfl⟩) ⟨zPreZ.blind, va_recv hK hP (ci := 6) (q0 := 0) rfl rfl, fun U hU hW => zp_Z hP hK hD hN hU hW⟩ rfl rfl hl.1 rfl (lv_room (Nat.le_of_ble_eq_true rfl)) dX6_setCurve_77 ⟨Nat.le_of_ble_eq_true rfl, Nat.le_of_ble_eq_true rfl⟩) hS hD hA (fun H locs hP hD hS => ?_)
      have hP : va_P D vwCl (zmod cs o A S T xsm 1 xam f xtl xpl g) H := by rw [show zGo (0 ≤ xk ∧ xk ≤ 10) False = 1 from zGo_1 (by first | trivial | omega | (simp only [not_true, not_false_eq_true]) | (intro h; omega))] at hP; exact hP
      have hD : va_D A0 (zmod cs o A S T xsm 1 xam f xtl xpl g) := zD_addr hD rfl
      refine zr_ifb_ne (tgt := 85) hx hb dX6_setCurve_80 (by decide) (fun c4 => ?_) (fun c4 => ?_)
      · exfalso; first | omega | (simp only [and_true, true_and] at c4; omega) | exact c4.2.elim
      · refine zr_iconst hx hb dX6_setCurve_83 ?_
        have hP9 : va_P D vwCl (zmod cs o A S T xsm 1 xam f xtl xpl g) H := hP
        have hD9 : va_D A0 (zmod cs o A S T xsm 1 xam f xtl xpl g) := zD_addr hD rfl
        subst hAe
        exact W.iret hx hb hr (fun t ht hW => ⟨⟨_, (), rfl, (congrArg zI (show 0 = 0 from by rfl)), by rw [ht]; exact hP9, hD9⟩, hS.F ht⟩) hS.2.2 dX6_setCurve_84
    · refine lv_iload_n hx hb dX6_setCurve_30 rfl (lv_at hl 4 rfl) ?_
      refine zr_i2l hx hb dX6_setCurve_31 (by omega) ?_
      refine lv_iload_n hx hb dX6_setCurve_32 rfl (lv_at hl 3 rfl) ?_
      refine zr_i2l hx hb dX6_setCurve_33 (by omega) ?_
      refine zr_ldc2 (n := 5000) hx hb hown (hts (.constantLong RX6 30 (5000)) (List.mem_of_getElem? (i := 3) rfl)) rfl dX6_setCurve_34 ?_
      refine zc_ri (va_runS (As := [.long (zL xu), .long (zL xl), .long (zL 5000)]) (rest := []) ⟨hx, hb, hml, hown, hts⟩ (met_X6_in l xu xl 5000 (by first | assumption | omega) (by first | assumption | omega) (by first | assumption | omega)) (va_cwS 3 hts gX6_setCurve_X6_in rfl rfl rfl (by decide +kernel) ⟨Nat.le_of_ble_eq_true rfl, Nat.le_of_ble_eq_true rfl⟩) ⟨zTrue.blind, fun U hU hW => ⟨rfl, trivial⟩⟩ rfl rfl hl.1 rfl (lv_room (Nat.le_of_ble_eq_true rfl)) dX6_setCurve_37 ⟨Nat.le_of_ble_eq_true rfl, Nat.le_of_ble_eq_true rfl⟩) ?_
      refine zr_ifb_eq (tgt := 69) hx hb dX6_setCurve_40 (by decide) (fun c5 => ?_) (fun c5 => ?_)
      · refine zr_iconst hx hb dX6_setCurve_69 ?_
        refine lv_istore (lv' := [(5, .int (zI 0)), (4, .int (zI (zB (0 ≤ xk ∧ xk ≤ 10)))), (0, .ref (o 0)), (1, .int (zI xk)), (2, .int (zI xl)), (3, .int (zI xu))]) hx hb dX6_setCurve_70 hl (by decide) rfl (fun ls hl => ?_)
        refine lv_aload_n hx hb dX6_setCurve_72 rfl (lv_at hl 2 rfl) ?_
        refine lv_iload hx hb dX6_setCurve_73 (lv_at hl 1 rfl) ?_
        refine lv_iload hx hb dX6_setCurve_75 (lv_at hl 0 rfl) ?_
        refine zc_i (va_runV (As := [.int (zI (zB (0 ≤ xk ∧ xk ≤ 10))), .int (zI 0)]) (rest := []) ⟨hx, hb, hml, hown, hts⟩ (met_X6_goes l D cs o s.heap.size A S T xsm xth xam f xtl xpl g (0 ≤ xk ∧ xk ≤ 10) False ) (cwV 2 hts gX6_setCurve_X6_goes rfl rfl rfl (by decide +kernel) ⟨Nat.le_of_ble_eq_true rfl, Nat.le_of_ble_eq_true rfl⟩) ⟨zPreZ.blind, va_recv hK hP (ci := 6) (q0 := 0) rfl rfl, fun U hU hW => zp_Z hP hK hD hN hU hW⟩ rfl rfl hl.1 rfl (lv_room (Nat.le_of_ble_eq_true rfl)) dX6_setCurve_77 ⟨Nat.le_of_ble_eq_true rfl, Nat.le_of_ble_eq_true rfl⟩) hS hD hA (fun H locs hP hD hS => ?_)
        have hP : va_P D vwCl (zmod cs o A S T xsm 1 xam f xtl xpl g) H := by rw [show zGo (0 ≤ xk ∧ xk ≤ 10) False = 1 from zGo_1 (by first | trivial | omega | (simp only [not_true, not_false_eq_true]) | (intro h; omega))] at hP; exact hP
        have hD : va_D A0 (zmod cs o A S T xsm 1 xam f xtl xpl g) := zD_addr hD rfl
        refine zr_ifb_ne (tgt := 85) hx hb dX6_setCurve_80 (by decide) (fun c6 => ?_) (fun c6 => ?_)
        · exfalso; first | omega | (simp only [and_true, true_and] at c6; omega) | exact c6.2.elim
        · refine zr_iconst hx hb dX6_setCurve_83 ?_
          have hP9 : va_P D vwCl (zmod cs o A S T xsm 1 xam f xtl xpl g) H := hP
          have hD9 : va_D A0 (zmod cs o A S T xsm 1 xam f xtl xpl g) := zD_addr hD rfl
          subst hAe
          exact W.iret hx hb hr (fun t ht hW => ⟨⟨_, (), rfl, (congrArg zI (show 0 = 0 from by rfl)), by rw [ht]; exact hP9, hD9⟩, hS.F ht⟩) hS.2.2 dX6_setCurve_84
      · refine lv_aload_n hx hb dX6_setCurve_43 rfl (lv_at hl 1 rfl) ?_
        refine zr_bipush hx hb dX6_setCurve_44 (by decide) ?_
        refine lv_iload_n hx hb dX6_setCurve_46 rfl (lv_at hl 2 rfl) ?_
        refine lv_iload_n hx hb dX6_setCurve_47 rfl (lv_at hl 3 rfl) ?_
        refine zc_ri (va_runV (As := [.int (zI 12), .int (zI xk), .int (zI xl)]) (rest := []) ⟨hx, hb, hml, hown, hts⟩ (met_X6_ascends l D cs o A S T xsm xth xam f xtl xpl g _ 12 xk xl (by assumption) (by assumption) (by first | decide | omega) (by first | assumption | omega) (by first | assumption | omega)) (cwV 3 hts gX6_setCurve_X6_ascends rfl rfl rfl (by decide +kernel) ⟨Nat.le_of_ble_eq_true rfl, Nat.le_of_ble_eq_true rfl⟩) ⟨zPre.blind, va_recv hK hP (ci := 6) (q0 := 0) rfl rfl, fun U hU hW => zp_R hP hK hD hN hU hW⟩ rfl rfl hl.1 rfl (lv_room (Nat.le_of_ble_eq_true rfl)) dX6_setCurve_48 ⟨Nat.le_of_ble_eq_true rfl, Nat.le_of_ble_eq_true rfl⟩) ?_
        refine zr_ifb_eq (tgt := 69) hx hb dX6_setCurve_51 (by decide) (fun c7 => ?_) (fun c7 => ?_)
        · refine zr_iconst hx hb dX6_setCurve_69 ?_
          refine lv_istore (lv' := [(5, .int (zI 0)), (4, .int (zI (zB (0 ≤ xk ∧ xk ≤ 10)))), (0, .ref (o 0)), (1, .int (zI xk)), (2, .int (zI xl)), (3, .int (zI xu))]) hx hb dX6_setCurve_70 hl (by decide) rfl (fun ls hl => ?_)
          refine lv_aload_n hx hb dX6_setCurve_72 rfl (lv_at hl 2 rfl) ?_
          refine lv_iload hx hb dX6_setCurve_73 (lv_at hl 1 rfl) ?_
          refine lv_iload hx hb dX6_setCurve_75 (lv_at hl 0 rfl) ?_
          refine zc_i (va_runV (As := [.int (zI (zB (0 ≤ xk ∧ xk ≤ 10))), .int (zI 0)]) (rest := []) ⟨hx, hb, hml, hown, hts⟩ (met_X6_goes l D cs o s.heap.size A S T xsm xth xam f xtl xpl g (0 ≤ xk ∧ xk ≤ 10) False ) (cwV 2 hts gX6_setCurve_X6_goes rfl rfl rfl (by decide +kernel) ⟨Nat.le_of_ble_eq_true rfl, Nat.le_of_ble_eq_true rfl⟩) ⟨zPreZ.blind, va_recv hK hP (ci := 6) (q0 := 0) rfl rfl, fun U hU hW => zp_Z hP hK hD hN hU hW⟩ rfl rfl hl.1 rfl (lv_room (Nat.le_of_ble_eq_true rfl)) dX6_setCurve_77 ⟨Nat.le_of_ble_eq_true rfl, Nat.le_of_ble_eq_true rfl⟩) hS hD hA (fun H locs hP hD hS => ?_)
          have hP : va_P D vwCl (zmod cs o A S T xsm 1 xam f xtl xpl g) H := by rw [show zGo (0 ≤ xk ∧ xk ≤ 10) False = 1 from zGo_1 (by first | trivial | omega | (simp only [not_true, not_false_eq_true]) | (intro h; omega))] at hP; exact hP
          have hD : va_D A0 (zmod cs o A S T xsm 1 xam f xtl xpl g) := zD_addr hD rfl
          refine zr_ifb_ne (tgt := 85) hx hb dX6_setCurve_80 (by decide) (fun c8 => ?_) (fun c8 => ?_)
          · exfalso; first | omega | (simp only [and_true, true_and] at c8; omega) | exact c8.2.elim
          · refine zr_iconst hx hb dX6_setCurve_83 ?_
            have hP9 : va_P D vwCl (zmod cs o A S T xsm 1 xam f xtl xpl g) H := hP
            have hD9 : va_D A0 (zmod cs o A S T xsm 1 xam f xtl xpl g) := zD_addr hD rfl
            subst hAe
            exact W.iret hx hb hr (fun t ht hW => ⟨⟨_, (), rfl, (congrArg zI (show 0 = 0 from by rfl)), by rw [ht]; exact hP9, hD9⟩, hS.F ht⟩) hS.2.2 dX6_setCurve_84
        · refine lv_aload_n hx hb dX6_setCurve_54 rfl (lv_at hl 1 rfl) ?_
          refine zr_bipush hx hb dX6_setCurve_55 (by decide) ?_
          refine lv_iload_n hx hb dX6_setCurve_57 rfl (lv_at hl 2 rfl) ?_
          refine lv_iload_n hx hb dX6_setCurve_58 rfl (lv_at hl 4 rfl) ?_
          refine zc_ri (va_runV (As := [.int (zI 23), .int (zI xk), .int (zI xu)]) (rest := []) ⟨hx, hb, hml, hown, hts⟩ (met_X6_ascends l D cs o A S T xsm xth xam f xtl xpl g _ 23 xk xu (by assumption) (by assumption) (by first | decide | omega) (by first | assumption | omega) (by first | assumption | omega)) (cwV 3 hts gX6_setCurve_X6_ascends rfl rfl rfl (by decide +kernel) ⟨Nat.le_of_ble_eq_true rfl, Nat.le_of_ble_eq_true rfl⟩) ⟨zPre.blind, va_recv hK hP (ci := 6) (q0 := 0) rfl rfl, fun U hU hW => zp_R hP hK hD hN hU hW⟩ rfl rfl hl.1 rfl (lv_room (Nat.le_of_ble_eq_true rfl)) dX6_setCurve_59 ⟨Nat.le_of_ble_eq_true rfl, Nat.le_of_ble_eq_true rfl⟩) ?_
          refine zr_ifb_eq (tgt := 69) hx hb dX6_setCurve_62 (by decide) (fun c9 => ?_) (fun c9 => ?_)
          · refine zr_iconst hx hb dX6_setCurve_69 ?_
            refine lv_istore (lv' := [(5, .int (zI 0)), (4, .int (zI (zB (0 ≤ xk ∧ xk ≤ 10)))), (0, .ref (o 0)), (1, .int (zI xk)), (2, .int (zI xl)), (3, .int (zI xu))]) hx hb dX6_setCurve_70 hl (by decide) rfl (fun ls hl => ?_)
            refine lv_aload_n hx hb dX6_setCurve_72 rfl (lv_at hl 2 rfl) ?_
            refine lv_iload hx hb dX6_setCurve_73 (lv_at hl 1 rfl) ?_
            refine lv_iload hx hb dX6_setCurve_75 (lv_at hl 0 rfl) ?_
            refine zc_i (va_runV (As := [.int (zI (zB (0 ≤ xk ∧ xk ≤ 10))), .int (zI 0)]) (rest := []) ⟨hx, hb, hml, hown, hts⟩ (met_X6_goes l D cs o s.heap.size A S T xsm xth xam f xtl xpl g (0 ≤ xk ∧ xk ≤ 10) False ) (cwV 2 hts gX6_setCurve_X6_goes rfl rfl rfl (by decide +kernel) ⟨Nat.le_of_ble_eq_true rfl, Nat.le_of_ble_eq_true rfl⟩) ⟨zPreZ.blind, va_recv hK hP (ci := 6) (q0 := 0) rfl rfl, fun U hU hW => zp_Z hP hK hD hN hU hW⟩ rfl rfl hl.1 rfl (lv_room (Nat.le_of_ble_eq_true rfl)) dX6_setCurve_77 ⟨Nat.le_of_ble_eq_true rfl, Nat.le_of_ble_eq_true rfl⟩) hS hD hA (fun H locs hP hD hS => ?_)
            have hP : va_P D vwCl (zmod cs o A S T xsm 1 xam f xtl xpl g) H := by rw [show zGo (0 ≤ xk ∧ xk ≤ 10) False = 1 from zGo_1 (by first | trivial | omega | (simp only [not_true, not_false_eq_true]) | (intro h; omega))] at hP; exact hP
            have hD : va_D A0 (zmod cs o A S T xsm 1 xam f xtl xpl g) := zD_addr hD rfl
            refine zr_ifb_ne (tgt := 85) hx hb dX6_setCurve_80 (by decide) (fun c10 => ?_) (fun c10 => ?_)
            · exfalso; first | omega | (simp only [and_true, true_and] at c10; omega) | exact c10.2.elim
            · refine zr_iconst hx hb dX6_setCurve_83 ?_
              have hP9 : va_P D vwCl (zmod cs o A S T xsm 1 xam f xtl xpl g) H := hP
              have hD9 : va_D A0 (zmod cs o A S T xsm 1 xam f xtl xpl g) := zD_addr hD rfl
              subst hAe
              exact W.iret hx hb hr (fun t ht hW => ⟨⟨_, (), rfl, (congrArg zI (show 0 = 0 from by rfl)), by rw [ht]; exact hP9, hD9⟩, hS.F ht⟩) hS.2.2 dX6_setCurve_84
          · refine zr_iconst hx hb dX6_setCurve_65 ?_
            refine lv_goto (tgt := 70) hx hb dX6_setCurve_66 (by decide) ?_
            refine lv_istore (lv' := [(5, .int (zI 1)), (4, .int (zI (zB (0 ≤ xk ∧ xk ≤ 10)))), (0, .ref (o 0)), (1, .int (zI xk)), (2, .int (zI xl)), (3, .int (zI xu))]) hx hb dX6_setCurve_70 hl (by decide) rfl (fun ls hl => ?_)
            refine lv_aload_n hx hb dX6_setCurve_72 rfl (lv_at hl 2 rfl) ?_
            refine lv_iload hx hb dX6_setCurve_73 (lv_at hl 1 rfl) ?_
            refine lv_iload hx hb dX6_setCurve_75 (lv_at hl 0 rfl) ?_
            refine zc_i (va_runV (As := [.int (zI (zB (0 ≤ xk ∧ xk ≤ 10))), .int (zI 1)]) (rest := []) ⟨hx, hb, hml, hown, hts⟩ (met_X6_goes l D cs o s.heap.size A S T xsm xth xam f xtl xpl g (0 ≤ xk ∧ xk ≤ 10) True ) (cwV 2 hts gX6_setCurve_X6_goes rfl rfl rfl (by decide +kernel) ⟨Nat.le_of_ble_eq_true rfl, Nat.le_of_ble_eq_true rfl⟩) ⟨zPreZ.blind, va_recv hK hP (ci := 6) (q0 := 0) rfl rfl, fun U hU hW => zp_Z hP hK hD hN hU hW⟩ rfl rfl hl.1 rfl (lv_room (Nat.le_of_ble_eq_true rfl)) dX6_setCurve_77 ⟨Nat.le_of_ble_eq_true rfl, Nat.le_of_ble_eq_true rfl⟩) hS hD hA (fun H locs hP hD hS => ?_)
            have hP : va_P D vwCl (zmod cs o A S T xsm 1 xam f xtl xpl g) H := by rw [show zGo (0 ≤ xk ∧ xk ≤ 10) True = 1 from zGo_1 (by first | trivial | omega | (simp only [not_true, not_false_eq_true]) | (intro h; omega))] at hP; exact hP
            have hD : va_D A0 (zmod cs o A S T xsm 1 xam f xtl xpl g) := zD_addr hD rfl
            refine zr_ifb_ne (tgt := 85) hx hb dX6_setCurve_80 (by decide) (fun c11 => ?_) (fun c11 => ?_)
            · exfalso; first | omega | (simp only [and_true, true_and] at c11; omega) | exact c11.2.elim
            · refine zr_iconst hx hb dX6_setCurve_83 ?_
              have hP9 : va_P D vwCl (zmod cs o A S T xsm 1 xam f xtl xpl g) H := hP
              have hD9 : va_D A0 (zmod cs o A S T xsm 1 xam f xtl xpl g) := zD_addr hD rfl
              subst hAe
              exact W.iret hx hb hr (fun t ht hW => ⟨⟨_, (), rfl, (congrArg zI (show 0 = 0 from by rfl)), by rw [ht]; exact hP9, hD9⟩, hS.F ht⟩) hS.2.2 dX6_setCurve_84
set_option maxHeartbeats 4000000 in
set_option maxRecDepth 100000 in
theorem met_X6_setCurve_no2 (l : Launch) (D : va_G) (cs : Nat → ClassId) (o : Nat → Nat) (sz : Nat) (A S T : Int → Int) (xsm xth xam : Int) (f : Int → Int) (xtl xpl : Int) (g : Int → Int) (n : Int) (xk xl xu : Int) (hI : zOK n A) (hn : 0 ≤ n ∧ n ≤ 3100000) (ksm : 0 ≤ xsm ∧ xsm ≤ 4) (rxk : -2147483648 ≤ xk ∧ xk ≤ 2147483647) (rxl : -2147483648 ≤ xl ∧ xl ≤ 2147483647) (rxu : -2147483648 ≤ xu ∧ xu ≤ 2147483647) (kno : (0 ≤ xk ∧ xk ≤ 10) ∧ ¬ ((2000 ≤ xl ∧ xl ≤ 5000) ∧ (xl ≤ xu ∧ xu ≤ 5000) ∧ ((xk = 0 ∨ A (12 + xk - 1) < xl) ∧ (xk = 10 ∨ xl < A (12 + xk + 1))) ∧ ((xk = 0 ∨ A (23 + xk - 1) < xu) ∧ (xk = 10 ∨ xu < A (23 + xk + 1))))) : Met l yX6_setCurve wsX6_setCurve ({ frames := 1, cells := 0, slots := 0, locals := 25 }) (va_Pc [.ref (o 0), .int (zI xk), .int (zI xl), .int (zI xu)] (zPreZ D (zTy cs) (zmod cs o A S T xsm xth xam f xtl xpl g) sz)) (zQi D (zmod cs o A S T xsm xth xam f xtl xpl g) sz (zI (0)) (zmod cs o A S T xsm 2 xam f xtl xpl g)) 0 0 (va_A (zmod cs o A S T xsm xth xam f xtl xpl g) sz) := by
  refine Met.ofW (cc := cX6_setCurve) (maxL := 7) (ret := (some .int)) (by decide) rfl ?_
  intro p e s m args below meth c s₁ B hml hv
  obtain ⟨rfl, hsz, hP, hK, hD0, hN⟩ := hv
  have hx := B.exec
  have hb := B.bytes
  have hr := B.returns
  have hts := atoms_spec (ws := wsX6_setCurve) B.pre
  have hown : s.vm.findClass RX6 = some m.cls := findClass_of_methodNamed B.named
  have hlocks := B.notSynchronized
  subst hsz
  obtain ⟨A0, hAe⟩ : ∃ A0, A0 = va_A (zmod cs o A S T xsm xth xam f xtl xpl g) s.heap.size := ⟨_, rfl⟩
  have hD := hD0.self (sz := s.heap.size)
  rw [← hAe] at hD
  have hA : ∀ q : Nat, s.heap.size ≤ q → A0 q := fun q h => by rw [hAe]; exact Or.inr h
  have hS : va_S A0 s.heap s.heap [] := va_S.rf
  have hP : va_P D vwCl (zmod cs o A S T xsm xth xam f xtl xpl g) s.heap := hP
  have hl := lv_entry ([.ref (o 0), .int (zI xk), .int (zI xl), .int (zI xu)]) (n := 7) (Nat.le_of_ble_eq_true rfl)
  rw [lg_entry_eq]
  generalize (lg_sl ([.ref (o 0), .int (zI xk), .int (zI xl), .int (zI xu)]) ++ List.replicate (7 - (lg_sl ([.ref (o 0), .int (zI xk), .int (zI xl), .int (zI xu)])).length) Slot.unset).toArray = ls at hl ⊢
  have hl : lv_has ls 7 [(0, .ref (o 0)), (1, .int (zI xk)), (2, .int (zI xl)), (3, .int (zI xu))] := hl
  refine lv_iload_n hx hb dX6_setCurve_0 rfl (lv_at hl 1 rfl) ?_
  refine zr_i2l hx hb dX6_setCurve_1 (by omega) ?_
  refine zr_lconst0 hx hb dX6_setCurve_2 ?_
  refine zr_ldc2 (n := 10) hx hb hown (hts (.constantLong RX6 32 (10)) (List.mem_of_getElem? (i := 1) rfl)) rfl dX6_setCurve_3 ?_
  refine zc_ri (va_runS (As := [.long (zL xk), .long (zL 0), .long (zL 10)]) (rest := []) ⟨hx, hb, hml, hown, hts⟩ (met_X6_in l xk 0 10 (by first | assumption | omega) (by first | assumption | omega) (by first | assumption | omega)) (va_cwS 3 hts gX6_setCurve_X6_in rfl rfl rfl (by decide +kernel) ⟨Nat.le_of_ble_eq_true rfl, Nat.le_of_ble_eq_true rfl⟩) ⟨zTrue.blind, fun U hU hW => ⟨rfl, trivial⟩⟩ rfl rfl hl.1 rfl (lv_room (Nat.le_of_ble_eq_true rfl)) dX6_setCurve_6 ⟨Nat.le_of_ble_eq_true rfl, Nat.le_of_ble_eq_true rfl⟩) ?_
  refine lv_istore (lv' := [(4, .int (zI (zB (0 ≤ xk ∧ xk ≤ 10)))), (0, .ref (o 0)), (1, .int (zI xk)), (2, .int (zI xl)), (3, .int (zI xu))]) hx hb dX6_setCurve_9 hl (by decide) rfl (fun ls hl => ?_)
  refine lv_iload hx hb dX6_setCurve_11 (lv_at hl 0 rfl) ?_
  refine zr_ifb_eq (tgt := 69) hx hb dX6_setCurve_13 (by decide) (fun c1 => ?_) (fun c1 => ?_)
  · refine zr_iconst hx hb dX6_setCurve_69 ?_
    refine lv_istore (lv' := [(5, .int (zI 0)), (4, .int (zI (zB (0 ≤ xk ∧ xk ≤ 10)))), (0, .ref (o 0)), (1, .int (zI xk)), (2, .int (zI xl)), (3, .int (zI xu))]) hx hb dX6_setCurve_70 hl (by decide) rfl (fun ls hl => ?_)
    refine lv_aload_n hx hb dX6_setCurve_72 rfl (lv_at hl 2 rfl) ?_
    refine lv_iload hx hb dX6_setCurve_73 (lv_at hl 1 rfl) ?_
    refine lv_iload hx hb dX6_setCurve_75 (lv_at hl 0 rfl) ?_
    refine zc_i (va_runV (As := [.int (zI (zB (0 ≤ xk ∧ xk ≤ 10))), .int (zI 0)]) (rest := []) ⟨hx, hb, hml, hown, hts⟩ (met_X6_goes l D cs o s.heap.size A S T xsm xth xam f xtl xpl g (0 ≤ xk ∧ xk ≤ 10) False ) (cwV 2 hts gX6_setCurve_X6_goes rfl rfl rfl (by decide +kernel) ⟨Nat.le_of_ble_eq_true rfl, Nat.le_of_ble_eq_true rfl⟩) ⟨zPreZ.blind, va_recv hK hP (ci := 6) (q0 := 0) rfl rfl, fun U hU hW => zp_Z hP hK hD hN hU hW⟩ rfl rfl hl.1 rfl (lv_room (Nat.le_of_ble_eq_true rfl)) dX6_setCurve_77 ⟨Nat.le_of_ble_eq_true rfl, Nat.le_of_ble_eq_true rfl⟩) hS hD hA (fun H locs hP hD hS => ?_)
    have hP : va_P D vwCl (zmod cs o A S T xsm 2 xam f xtl xpl g) H := by rw [show zGo (0 ≤ xk ∧ xk ≤ 10) False = 2 from zGo_2 (by first | trivial | omega | (simp only [not_true, not_false_eq_true]) | (intro h; omega)) (by first | trivial | omega | (simp only [not_true, not_false_eq_true]) | (intro h; omega))] at hP; exact hP
    have hD : va_D A0 (zmod cs o A S T xsm 2 xam f xtl xpl g) := zD_addr hD rfl
    refine zr_ifb_ne (tgt := 85) hx hb dX6_setCurve_80 (by decide) (fun c2 => ?_) (fun c2 => ?_)
    · exfalso; first | omega | (simp only [and_true, true_and] at c2; omega) | exact c2.2.elim
    · refine zr_iconst hx hb dX6_setCurve_83 ?_
      have hP9 : va_P D vwCl (zmod cs o A S T xsm 2 xam f xtl xpl g) H := hP
      have hD9 : va_D A0 (zmod cs o A S T xsm 2 xam f xtl xpl g) := zD_addr hD rfl
      subst hAe
      exact W.iret hx hb hr (fun t ht hW => ⟨⟨_, (), rfl, (congrArg zI (show 0 = 0 from by rfl)), by rw [ht]; exact hP9, hD9⟩, hS.F ht⟩) hS.2.2 dX6_setCurve_84
  · refine lv_iload_n hx hb dX6_setCurve_16 rfl (lv_at hl 3 rfl) ?_
    refine zr_i2l hx hb dX6_setCurve_17 (by omega) ?_
    refine zr_ldc2 (n := 2000) hx hb hown (hts (.constantLong RX6 56 (2000)) (List.mem_of_getElem? (i := 2) rfl)) rfl dX6_setCurve_18 ?_
    refine zr_ldc2 (n := 5000) hx hb hown (hts (.constantLong RX6 30 (5000)) (List.mem_of_getElem? (i := 3) rfl)) rfl dX6_setCurve_21 ?_
    refine zc_ri (va_runS (As := [.long (zL xl), .long (zL 2000), .long (zL 5000)]) (rest := []) ⟨hx, hb, hml, hown, hts⟩ (met_X6_in l xl 2000 5000 (by first | assumption | omega) (by first | assumption | omega) (by first | assumption | omega)) (va_cwS 3 hts gX6_setCurve_X6_in rfl rfl rfl (by decide +kernel) ⟨Nat.le_of_ble_eq_true rfl, Nat.le_of_ble_eq_true rfl⟩) ⟨zTrue.blind, fun U hU hW => ⟨rfl, trivial⟩⟩ rfl rfl hl.1 rfl (lv_room (Nat.le_of_ble_eq_true rfl)) dX6_setCurve_24 ⟨Nat.le_of_ble_eq_true rfl, Nat.le_of_ble_eq_true rfl⟩) ?_
    refine zr_ifb_eq (tgt := 69) hx hb dX6_setCurve_27 (by decide) (fun c3 => ?_) (fun c3 => ?_)
    · refine zr_iconst hx hb dX6_setCurve_69 ?_
      refine lv_istore (lv' := [(5, .int (zI 0)), (4, .int (zI (zB (0 ≤ xk ∧ xk ≤ 10)))), (0, .ref (o 0)), (1, .int (zI xk)), (2, .int (zI xl)), (3, .int (zI xu))]) hx hb dX6_setCurve_70 hl (by decide) rfl (fun ls hl => ?_)
      refine lv_aload_n hx hb dX6_setCurve_72 rfl (lv_at hl 2 rfl) ?_
      refine lv_iload hx hb dX6_setCurve_73 (lv_at hl 1 rfl) ?_
      refine lv_iload hx hb dX6_setCurve_75 (lv_at hl 0 rfl) ?_
      refine zc_i (va_runV (As := [.int (zI (zB (0 ≤ xk ∧ xk ≤ 10))), .int (zI 0)]) (rest := []) ⟨hx, hb, hml, hown, hts⟩ (met_X6_goes l D cs o s.heap.size A S T xsm xth xam f xtl xpl g (0 ≤ xk ∧ xk ≤ 10) False ) (cwV 2 hts gX6_setCurve_X6_goes rfl rfl rfl (by decide +kernel) ⟨Nat.le_of_ble_eq_true rfl, Nat.le_of_ble_eq_true rfl⟩) ⟨zPreZ.blind, va_recv hK hP (ci := 6) (q0 := 0) rfl rfl, fun U hU hW => zp_Z hP hK hD hN hU hW⟩ rfl rfl hl.1 rfl (lv_room (Nat.le_of_ble_eq_true rfl)) dX6_setCurve_77 ⟨Nat.le_of_ble_eq_true rfl, Nat.le_of_ble_eq_true rfl⟩) hS hD hA (fun H locs hP hD hS => ?_)
      have hP : va_P D vwCl (zmod cs o A S T xsm 2 xam f xtl xpl g) H := by rw [show zGo (0 ≤ xk ∧ xk ≤ 10) False = 2 from zGo_2 (by first | trivial | omega | (simp only [not_true, not_false_eq_true]) | (intro h; omega)) (by first | trivial | omega | (simp only [not_true, not_false_eq_true]) | (intro h; omega))] at hP; exact hP
      have hD : va_D A0 (zmod cs o A S T xsm 2 xam f xtl xpl g) := zD_addr hD rfl
      refine zr_ifb_ne (tgt := 85) hx hb dX6_setCurve_80 (by decide) (fun c4 => ?_) (fun c4 => ?_)
      · exfalso; first | omega | (simp only [and_true, true_and] at c4; omega) | exact c4.2.elim
      · refine zr_iconst hx hb dX6_setCurve_83 ?_
        have hP9 : va_P D vwCl (zmod cs o A S T xsm 2 xam f xtl xpl g) H := hP
        have hD9 : va_D A0 (zmod cs o A S T xsm 2 xam f xtl xpl g) := zD_addr hD rfl
        subst hAe
        exact W.iret hx hb hr (fun t ht hW => ⟨⟨_, (), rfl, (congrArg zI (show 0 = 0 from by rfl)), by rw [ht]; exact hP9, hD9⟩, hS.F ht⟩) hS.2.2 dX6_setCurve_84
    · refine lv_iload_n hx hb dX6_setCurve_30 rfl (lv_at hl 4 rfl) ?_
      refine zr_i2l hx hb dX6_setCurve_31 (by omega) ?_
      refine lv_iload_n hx hb dX6_setCurve_32 rfl (lv_at hl 3 rfl) ?_
      refine zr_i2l hx hb dX6_setCurve_33 (by omega) ?_
      refine zr_ldc2 (n := 5000) hx hb hown (hts (.constantLong RX6 30 (5000)) (List.mem_of_getElem? (i := 3) rfl)) rfl dX6_setCurve_34 ?_
      refine zc_ri (va_runS (As := [.long (zL xu), .long (zL xl), .long (zL 5000)]) (rest := []) ⟨hx, hb, hml, hown, hts⟩ (met_X6_in l xu xl 5000 (by first | assumption | omega) (by first | assumption | omega) (by first | assumption | omega)) (va_cwS 3 hts gX6_setCurve_X6_in rfl rfl rfl (by decide +kernel) ⟨Nat.le_of_ble_eq_true rfl, Nat.le_of_ble_eq_true rfl⟩) ⟨zTrue.blind, fun U hU hW => ⟨rfl, trivial⟩⟩ rfl rfl hl.1 rfl (lv_room (Nat.le_of_ble_eq_true rfl)) dX6_setCurve_37 ⟨Nat.le_of_ble_eq_true rfl, Nat.le_of_ble_eq_true rfl⟩) ?_
      refine zr_ifb_eq (tgt := 69) hx hb dX6_setCurve_40 (by decide) (fun c5 => ?_) (fun c5 => ?_)
      · refine zr_iconst hx hb dX6_setCurve_69 ?_
        refine lv_istore (lv' := [(5, .int (zI 0)), (4, .int (zI (zB (0 ≤ xk ∧ xk ≤ 10)))), (0, .ref (o 0)), (1, .int (zI xk)), (2, .int (zI xl)), (3, .int (zI xu))]) hx hb dX6_setCurve_70 hl (by decide) rfl (fun ls hl => ?_)
        refine lv_aload_n hx hb dX6_setCurve_72 rfl (lv_at hl 2 rfl) ?_
        refine lv_iload hx hb dX6_setCurve_73 (lv_at hl 1 rfl) ?_
        refine lv_iload hx hb dX6_setCurve_75 (lv_at hl 0 rfl) ?_
        refine zc_i (va_runV (As := [.int (zI (zB (0 ≤ xk ∧ xk ≤ 10))), .int (zI 0)]) (rest := []) ⟨hx, hb, hml, hown, hts⟩ (met_X6_goes l D cs o s.heap.size A S T xsm xth xam f xtl xpl g (0 ≤ xk ∧ xk ≤ 10) False ) (cwV 2 hts gX6_setCurve_X6_goes rfl rfl rfl (by decide +kernel) ⟨Nat.le_of_ble_eq_true rfl, Nat.le_of_ble_eq_true rfl⟩) ⟨zPreZ.blind, va_recv hK hP (ci := 6) (q0 := 0) rfl rfl, fun U hU hW => zp_Z hP hK hD hN hU hW⟩ rfl rfl hl.1 rfl (lv_room (Nat.le_of_ble_eq_true rfl)) dX6_setCurve_77 ⟨Nat.le_of_ble_eq_true rfl, Nat.le_of_ble_eq_true rfl⟩) hS hD hA (fun H locs hP hD hS => ?_)
        have hP : va_P D vwCl (zmod cs o A S T xsm 2 xam f xtl xpl g) H := by rw [show zGo (0 ≤ xk ∧ xk ≤ 10) False = 2 from zGo_2 (by first | trivial | omega | (simp only [not_true, not_false_eq_true]) | (intro h; omega)) (by first | trivial | omega | (simp only [not_true, not_false_eq_true]) | (intro h; omega))] at hP; exact hP
        have hD : va_D A0 (zmod cs o A S T xsm 2 xam f xtl xpl g) := zD_addr hD rfl
        refine zr_ifb_ne (tgt := 85) hx hb dX6_setCurve_80 (by decide) (fun c6 => ?_) (fun c6 => ?_)
        · exfalso; first | omega | (simp only [and_true, true_and] at c6; omega) | exact c6.2.elim
        · refine zr_iconst hx hb dX6_setCurve_83 ?_
          have hP9 : va_P D vwCl (zmod cs o A S T xsm 2 xam f xtl xpl g) H := hP
          have hD9 : va_D A0 (zmod cs o A S T xsm 2 xam f xtl xpl g) := zD_addr hD rfl
          subst hAe
          exact W.iret hx hb hr (fun t ht hW => ⟨⟨_, (), rfl, (congrArg zI (show 0 = 0 from by rfl)), by rw [ht]; exact hP9, hD9⟩, hS.F ht⟩) hS.2.2 dX6_setCurve_84
      · refine lv_aload_n hx hb dX6_setCurve_43 rfl (lv_at hl 1 rfl) ?_
        refine zr_bipush hx hb dX6_setCurve_44 (by decide) ?_
        refine lv_iload_n hx hb dX6_setCurve_46 rfl (lv_at hl 2 rfl) ?_
        refine lv_iload_n hx hb dX6_setCurve_47 rfl (lv_at hl 3 rfl) ?_
        refine zc_ri (va_runV (As := [.int (zI 12), .int (zI xk), .int (zI xl)]) (rest := []) ⟨hx, hb, hml, hown, hts⟩ (met_X6_ascends l D cs o A S T xsm xth xam f xtl xpl g _ 12 xk xl (by assumption) (by assumption) (by first | decide | omega) (by first | assumption | omega) (by first | assumption | omega)) (cwV 3 hts gX6_setCurve_X6_ascends rfl rfl rfl (by decide +kernel) ⟨Nat.le_of_ble_eq_true rfl, Nat.le_of_ble_eq_true rfl⟩) ⟨zPre.blind, va_recv hK hP (ci := 6) (q0 := 0) rfl rfl, fun U hU hW => zp_R hP hK hD hN hU hW⟩ rfl rfl hl.1 rfl (lv_room (Nat.le_of_ble_eq_true rfl)) dX6_setCurve_48 ⟨Nat.le_of_ble_eq_true rfl, Nat.le_of_ble_eq_true rfl⟩) ?_
        refine zr_ifb_eq (tgt := 69) hx hb dX6_setCurve_51 (by decide) (fun c7 => ?_) (fun c7 => ?_)
        · refine zr_iconst hx hb dX6_setCurve_69 ?_
          refine lv_istore (lv' := [(5, .int (zI 0)), (4, .int (zI (zB (0 ≤ xk ∧ xk ≤ 10)))), (0, .ref (o 0)), (1, .int (zI xk)), (2, .int (zI xl)), (3, .int (zI xu))]) hx hb dX6_setCurve_70 hl (by decide) rfl (fun ls hl => ?_)
          refine lv_aload_n hx hb dX6_setCurve_72 rfl (lv_at hl 2 rfl) ?_
          refine lv_iload hx hb dX6_setCurve_73 (lv_at hl 1 rfl) ?_
          refine lv_iload hx hb dX6_setCurve_75 (lv_at hl 0 rfl) ?_
          refine zc_i (va_runV (As := [.int (zI (zB (0 ≤ xk ∧ xk ≤ 10))), .int (zI 0)]) (rest := []) ⟨hx, hb, hml, hown, hts⟩ (met_X6_goes l D cs o s.heap.size A S T xsm xth xam f xtl xpl g (0 ≤ xk ∧ xk ≤ 10) False ) (cwV 2 hts gX6_setCurve_X6_goes rfl rfl rfl (by decide +kernel) ⟨Nat.le_of_ble_eq_true rfl, Nat.le_of_ble_eq_true rfl⟩) ⟨zPreZ.blind, va_recv hK hP (ci := 6) (q0 := 0) rfl rfl, fun U hU hW => zp_Z hP hK hD hN hU hW⟩ rfl rfl hl.1 rfl (lv_room (Nat.le_of_ble_eq_true rfl)) dX6_setCurve_77 ⟨Nat.le_of_ble_eq_true rfl, Nat.le_of_ble_eq_true rfl⟩) hS hD hA (fun H locs hP hD hS => ?_)
          have hP : va_P D vwCl (zmod cs o A S T xsm 2 xam f xtl xpl g) H := by rw [show zGo (0 ≤ xk ∧ xk ≤ 10) False = 2 from zGo_2 (by first | trivial | omega | (simp only [not_true, not_false_eq_true]) | (intro h; omega)) (by first | trivial | omega | (simp only [not_true, not_false_eq_true]) | (intro h; omega))] at hP; exact hP
          have hD : va_D A0 (zmod cs o A S T xsm 2 xam f xtl xpl g) := zD_addr hD rfl
          refine zr_ifb_ne (tgt := 85) hx hb dX6_setCurve_80 (by decide) (fun c8 => ?_) (fun c8 => ?_)
          · exfalso; first | omega | (simp only [and_true, true_and] at c8; omega) | exact c8.2.elim
          · refine zr_iconst hx hb dX6_setCurve_83 ?_
            have hP9 : va_P D vwCl (zmod cs o A S T xsm 2 xam f xtl xpl g) H := hP
            have hD9 : va_D A0 (zmod cs o A S T xsm 2 xam f xtl xpl g) := zD_addr hD rfl
            subst hAe
            exact W.iret hx hb hr (fun t ht hW => ⟨⟨_, (), rfl, (congrArg zI (show 0 = 0 from by rfl)), by rw [ht]; exact hP9, hD9⟩, hS.F ht⟩) hS.2.2 dX6_setCurve_84
        · refine lv_aload_n hx hb dX6_setCurve_54 rfl (lv_at hl 1 rfl) ?_
          refine zr_bipush hx hb dX6_setCurve_55 (by decide) ?_
          refine lv_iload_n hx hb dX6_setCurve_57 rfl (lv_at hl 2 rfl) ?_
          refine lv_iload_n hx hb dX6_setCurve_58 rfl (lv_at hl 4 rfl) ?_
          refine zc_ri (va_runV (As := [.int (zI 23), .int (zI xk), .int (zI xu)]) (rest := []) ⟨hx, hb, hml, hown, hts⟩ (met_X6_ascends l D cs o A S T xsm xth xam f xtl xpl g _ 23 xk xu (by assumption) (by assumption) (by first | decide | omega) (by first | assumption | omega) (by first | assumption | omega)) (cwV 3 hts gX6_setCurve_X6_ascends rfl rfl rfl (by decide +kernel) ⟨Nat.le_of_ble_eq_true rfl, Nat.le_of_ble_eq_true rfl⟩) ⟨zPre.blind, va_recv hK hP (ci := 6) (q0 := 0) rfl rfl, fun U hU hW => zp_R hP hK hD hN hU hW⟩ rfl rfl hl.1 rfl (lv_room (Nat.le_of_ble_eq_true rfl)) dX6_setCurve_59 ⟨Nat.le_of_ble_eq_true rfl, Nat.le_of_ble_eq_true rfl⟩) ?_
          refine zr_ifb_eq (tgt := 69) hx hb dX6_setCurve_62 (by decide) (fun c9 => ?_) (fun c9 => ?_)
          · refine zr_iconst hx hb dX6_setCurve_69 ?_
            refine lv_istore (lv' := [(5, .int (zI 0)), (4, .int (zI (zB (0 ≤ xk ∧ xk ≤ 10)))), (0, .ref (o 0)), (1, .int (zI xk)), (2, .int (zI xl)), (3, .int (zI xu))]) hx hb dX6_setCurve_70 hl (by decide) rfl (fun ls hl => ?_)
            refine lv_aload_n hx hb dX6_setCurve_72 rfl (lv_at hl 2 rfl) ?_
            refine lv_iload hx hb dX6_setCurve_73 (lv_at hl 1 rfl) ?_
            refine lv_iload hx hb dX6_setCurve_75 (lv_at hl 0 rfl) ?_
            refine zc_i (va_runV (As := [.int (zI (zB (0 ≤ xk ∧ xk ≤ 10))), .int (zI 0)]) (rest := []) ⟨hx, hb, hml, hown, hts⟩ (met_X6_goes l D cs o s.heap.size A S T xsm xth xam f xtl xpl g (0 ≤ xk ∧ xk ≤ 10) False ) (cwV 2 hts gX6_setCurve_X6_goes rfl rfl rfl (by decide +kernel) ⟨Nat.le_of_ble_eq_true rfl, Nat.le_of_ble_eq_true rfl⟩) ⟨zPreZ.blind, va_recv hK hP (ci := 6) (q0 := 0) rfl rfl, fun U hU hW => zp_Z hP hK hD hN hU hW⟩ rfl rfl hl.1 rfl (lv_room (Nat.le_of_ble_eq_true rfl)) dX6_setCurve_77 ⟨Nat.le_of_ble_eq_true rfl, Nat.le_of_ble_eq_true rfl⟩) hS hD hA (fun H locs hP hD hS => ?_)
            have hP : va_P D vwCl (zmod cs o A S T xsm 2 xam f xtl xpl g) H := by rw [show zGo (0 ≤ xk ∧ xk ≤ 10) False = 2 from zGo_2 (by first | trivial | omega | (simp only [not_true, not_false_eq_true]) | (intro h; omega)) (by first | trivial | omega | (simp only [not_true, not_false_eq_true]) | (intro h; omega))] at hP; exact hP
            have hD : va_D A0 (zmod cs o A S T xsm 2 xam f xtl xpl g) := zD_addr hD rfl
            refine zr_ifb_ne (tgt := 85) hx hb dX6_setCurve_80 (by decide) (fun c10 => ?_) (fun c10 => ?_)
            · exfalso; first | omega | (simp only [and_true, true_and] at c10; omega) | exact c10.2.elim
            · refine zr_iconst hx hb dX6_setCurve_83 ?_
              have hP9 : va_P D vwCl (zmod cs o A S T xsm 2 xam f xtl xpl g) H := hP
              have hD9 : va_D A0 (zmod cs o A S T xsm 2 xam f xtl xpl g) := zD_addr hD rfl
              subst hAe
              exact W.iret hx hb hr (fun t ht hW => ⟨⟨_, (), rfl, (congrArg zI (show 0 = 0 from by rfl)), by rw [ht]; exact hP9, hD9⟩, hS.F ht⟩) hS.2.2 dX6_setCurve_84
          · refine zr_iconst hx hb dX6_setCurve_65 ?_
            refine lv_goto (tgt := 70) hx hb dX6_setCurve_66 (by decide) ?_
            refine lv_istore (lv' := [(5, .int (zI 1)), (4, .int (zI (zB (0 ≤ xk ∧ xk ≤ 10)))), (0, .ref (o 0)), (1, .int (zI xk)), (2, .int (zI xl)), (3, .int (zI xu))]) hx hb dX6_setCurve_70 hl (by decide) rfl (fun ls hl => ?_)
            refine lv_aload_n hx hb dX6_setCurve_72 rfl (lv_at hl 2 rfl) ?_
            refine lv_iload hx hb dX6_setCurve_73 (lv_at hl 1 rfl) ?_
            refine lv_iload hx hb dX6_setCurve_75 (lv_at hl 0 rfl) ?_
            refine zc_i (va_runV (As := [.int (zI (zB (0 ≤ xk ∧ xk ≤ 10))), .int (zI 1)]) (rest := []) ⟨hx, hb, hml, hown, hts⟩ (met_X6_goes l D cs o s.heap.size A S T xsm xth xam f xtl xpl g (0 ≤ xk ∧ xk ≤ 10) True ) (cwV 2 hts gX6_setCurve_X6_goes rfl rfl rfl (by decide +kernel) ⟨Nat.le_of_ble_eq_true rfl, Nat.le_of_ble_eq_true rfl⟩) ⟨zPreZ.blind, va_recv hK hP (ci := 6) (q0 := 0) rfl rfl, fun U hU hW => zp_Z hP hK hD hN hU hW⟩ rfl rfl hl.1 rfl (lv_room (Nat.le_of_ble_eq_true rfl)) dX6_setCurve_77 ⟨Nat.le_of_ble_eq_true rfl, Nat.le_of_ble_eq_true rfl⟩) hS hD hA (fun H locs hP hD hS => ?_)
            have hP : va_P D vwCl (zmod cs o A S T xsm 2 xam f xtl xpl g) H := by rw [show zGo (0 ≤ xk ∧ xk ≤ 10) True = 2 from zGo_2 (by first | trivial | omega | (simp only [not_true, not_false_eq_true]) | (intro h; omega)) (by first | trivial | omega | (simp only [not_true, not_false_eq_true]) | (intro h; omega))] at hP; exact hP
            have hD : va_D A0 (zmod cs o A S T xsm 2 xam f xtl xpl g) := zD_addr hD rfl
            refine zr_ifb_ne (tgt := 85) hx hb dX6_setCurve_80 (by decide) (fun c11 => ?_) (fun c11 => ?_)
            · exfalso; first | omega | (simp only [and_true, true_and] at c11; omega) | exact c11.2.elim
            · refine zr_iconst hx hb dX6_setCurve_83 ?_
              have hP9 : va_P D vwCl (zmod cs o A S T xsm 2 xam f xtl xpl g) H := hP
              have hD9 : va_D A0 (zmod cs o A S T xsm 2 xam f xtl xpl g) := zD_addr hD rfl
              subst hAe
              exact W.iret hx hb hr (fun t ht hW => ⟨⟨_, (), rfl, (congrArg zI (show 0 = 0 from by rfl)), by rw [ht]; exact hP9, hD9⟩, hS.F ht⟩) hS.2.2 dX6_setCurve_84
def zCu (A : Int → Int) (k : Int) (P : Prop) [Decidable P] : Int := if P then A (23 + k) else A (12 + k)
set_option maxHeartbeats 4000000 in
set_option maxRecDepth 100000 in
theorem met_X6_curve_ok (l : Launch) (D : va_G) (cs : Nat → ClassId) (o : Nat → Nat) (sz : Nat) (A S T : Int → Int) (xsm xth xam : Int) (f : Int → Int) (xtl xpl : Int) (g : Int → Int) (xk : Int) (xp : Prop) [Decidable xp] (rxk : -2147483648 ≤ xk ∧ xk ≤ 2147483647) (kok : 0 ≤ xk ∧ xk ≤ 10) : Met l yX6_curve wsX6_curve ({ frames := 1, cells := 0, slots := 0, locals := 25 }) (va_Pc [.ref (o 0), .int (zI xk), .int (zI (zB (xp)))] (zPreZ D (zTy cs) (zmod cs o A S T xsm xth xam f xtl xpl g) sz)) (zQi D (zmod cs o A S T xsm xth xam f xtl xpl g) sz (zI (zCu A xk xp)) (zmod cs o A S T xsm 0 xam f xtl xpl g)) 0 0 (va_A (zmod cs o A S T xsm xth xam f xtl xpl g) sz) := by
  refine Met.ofW (cc := cX6_curve) (maxL := 3) (ret := (some .int)) (by decide) rfl ?_
  intro p e s m args below meth c s₁ B hml hv
  obtain ⟨rfl, hsz, hP, hK, hD0, hN⟩ := hv
  have hx := B.exec
  have hb := B.bytes
  have hr := B.returns
  have hts := atoms_spec (ws := wsX6_curve) B.pre
  have hown : s.vm.findClass RX6 = some m.cls := findClass_of_methodNamed B.named
  have hlocks := B.notSynchronized
  subst hsz
  obtain ⟨A0, hAe⟩ : ∃ A0, A0 = va_A (zmod cs o A S T xsm xth xam f xtl xpl g) s.heap.size := ⟨_, rfl⟩
  have hD := hD0.self (sz := s.heap.size)
  rw [← hAe] at hD
  have hA : ∀ q : Nat, s.heap.size ≤ q → A0 q := fun q h => by rw [hAe]; exact Or.inr h
  have hS : va_S A0 s.heap s.heap [] := va_S.rf
  have hP : va_P D vwCl (zmod cs o A S T xsm xth xam f xtl xpl g) s.heap := hP
  have hl := lv_entry ([.ref (o 0), .int (zI xk), .int (zI (zB (xp)))]) (n := 3) (Nat.le_of_ble_eq_true rfl)
  rw [lg_entry_eq]
  generalize (lg_sl ([.ref (o 0), .int (zI xk), .int (zI (zB (xp)))]) ++ List.replicate (3 - (lg_sl ([.ref (o 0), .int (zI xk), .int (zI (zB (xp)))])).length) Slot.unset).toArray = ls at hl ⊢
  have hl : lv_has ls 3 [(0, .ref (o 0)), (1, .int (zI xk)), (2, .int (zI (zB (xp))))] := hl
  have hiX6 : ∀ w ∈ wsX60, w ∈ wsX6_curve := by decide +kernel
  refine lv_aload_n hx hb dX6_curve_0 rfl (lv_at hl 0 rfl) ?_
  refine lv_iload_n hx hb dX6_curve_1 rfl (lv_at hl 1 rfl) ?_
  refine zr_i2l hx hb dX6_curve_2 (by omega) ?_
  refine zr_lconst0 hx hb dX6_curve_3 ?_
  refine zr_ldc2 (n := 10) hx hb hown (hts (.constantLong RX6 32 (10)) (List.mem_of_getElem? (i := 1) rfl)) rfl dX6_curve_4 ?_
  refine zc_ri (va_runS (As := [.long (zL xk), .long (zL 0), .long (zL 10)]) (rest := [.ref (o 0)]) ⟨hx, hb, hml, hown, hts⟩ (met_X6_in l xk 0 10 (by first | assumption | omega) (by first | assumption | omega) (by first | assumption | omega)) (va_cwS 3 hts gX6_curve_X6_in rfl rfl rfl (by decide +kernel) ⟨Nat.le_of_ble_eq_true rfl, Nat.le_of_ble_eq_true rfl⟩) ⟨zTrue.blind, fun U hU hW => ⟨rfl, trivial⟩⟩ rfl rfl hl.1 rfl (lv_room (Nat.le_of_ble_eq_true rfl)) dX6_curve_7 ⟨Nat.le_of_ble_eq_true rfl, Nat.le_of_ble_eq_true rfl⟩) ?_
  refine zr_iconst hx hb dX6_curve_10 ?_
  refine zc_i (va_runV (As := [.int (zI (zB (0 ≤ xk ∧ xk ≤ 10))), .int (zI 1)]) (rest := []) ⟨hx, hb, hml, hown, hts⟩ (met_X6_goes l D cs o s.heap.size A S T xsm xth xam f xtl xpl g (0 ≤ xk ∧ xk ≤ 10) True ) (cwV 2 hts gX6_curve_X6_goes rfl rfl rfl (by decide +kernel) ⟨Nat.le_of_ble_eq_true rfl, Nat.le_of_ble_eq_true rfl⟩) ⟨zPreZ.blind, va_recv hK hP (ci := 6) (q0 := 0) rfl rfl, fun U hU hW => zp_Z hP hK hD hN hU hW⟩ rfl rfl hl.1 rfl (lv_room (Nat.le_of_ble_eq_true rfl)) dX6_curve_11 ⟨Nat.le_of_ble_eq_true rfl, Nat.le_of_ble_eq_true rfl⟩) hS hD hA (fun H locs hP hD hS => ?_)
  have hP : va_P D vwCl (zmod cs o A S T xsm 0 xam f xtl xpl g) H := by rw [show zGo (0 ≤ xk ∧ xk ≤ 10) True = 0 from zGo_0 (by first | trivial | omega | (simp only [not_true, not_false_eq_true]) | (intro h; omega)) (by first | trivial | omega | (simp only [not_true, not_false_eq_true]) | (intro h; omega))] at hP; exact hP
  have hD : va_D A0 (zmod cs o A S T xsm 0 xam f xtl xpl g) := zD_addr hD rfl
  refine zr_ifb_eq (tgt := 39) hx hb dX6_curve_14 (by decide) (fun c1 => ?_) (fun c1 => ?_)
  · exfalso; first | omega | (simp only [and_true, true_and] at c1; omega) | exact c1.2.elim
  · refine lv_aload_n hx hb dX6_curve_17 rfl (lv_at hl 0 rfl) ?_
    refine va_get (D := D) (ci := 6) (v := .ref (o 1)) (C := RX6) (T := TX6) (N := 10) hx hb hts hiX6 hown hK hP 0 rfl rfl 0 (by decide) (hts (.fieldLink RX6 7 "ChargeEstimatorModel" "all" "[J") (List.mem_of_getElem? (i := 2) rfl)) (fun _ h9 => h9) rfl dX6_curve_18 ?_
    refine lv_iload_n hx hb dX6_curve_21 rfl (lv_at hl 2 rfl) ?_
    refine zr_ifb_eq (tgt := 30) hx hb dX6_curve_22 (by decide) (fun c2 => ?_) (fun c2 => ?_)
    · refine zr_bipush hx hb dX6_curve_30 (by decide) ?_
      refine lv_iload_n hx hb dX6_curve_32 rfl (lv_at hl 1 rfl) ?_
      refine zr_iadd hx hb dX6_curve_33 ?_
      refine zr_lald (D := D) (g := A) hx hb hK hP 1 2 rfl rfl (by decide) (by omega) dX6_curve_34 ?_
      refine zr_l2i hx hb dX6_curve_35 ?_
      refine lv_goto (tgt := 40) hx hb dX6_curve_36 (by decide) ?_
      have hP9 : va_P D vwCl (zmod cs o A S T xsm 0 xam f xtl xpl g) H := hP
      have hD9 : va_D A0 (zmod cs o A S T xsm 0 xam f xtl xpl g) := zD_addr hD rfl
      subst hAe
      exact W.iret hx hb hr (fun t ht hW => ⟨⟨_, (), rfl, (congrArg zI (show A (12 + xk) = zCu A xk xp from by unfold zCu; first | (rw [if_pos (by assumption)]) | (rw [if_neg (by assumption)]))), by rw [ht]; exact hP9, hD9⟩, hS.F ht⟩) hS.2.2 dX6_curve_40
    · refine zr_bipush hx hb dX6_curve_25 (by decide) ?_
      refine lv_goto (tgt := 32) hx hb dX6_curve_27 (by decide) ?_
      refine lv_iload_n hx hb dX6_curve_32 rfl (lv_at hl 1 rfl) ?_
      refine zr_iadd hx hb dX6_curve_33 ?_
      refine zr_lald (D := D) (g := A) hx hb hK hP 1 2 rfl rfl (by decide) (by omega) dX6_curve_34 ?_
      refine zr_l2i hx hb dX6_curve_35 ?_
      refine lv_goto (tgt := 40) hx hb dX6_curve_36 (by decide) ?_
      have hP9 : va_P D vwCl (zmod cs o A S T xsm 0 xam f xtl xpl g) H := hP
      have hD9 : va_D A0 (zmod cs o A S T xsm 0 xam f xtl xpl g) := zD_addr hD rfl
      subst hAe
      exact W.iret hx hb hr (fun t ht hW => ⟨⟨_, (), rfl, (congrArg zI (show A (23 + xk) = zCu A xk xp from by unfold zCu; first | (rw [if_pos (by assumption)]) | (rw [if_neg (by assumption)]))), by rw [ht]; exact hP9, hD9⟩, hS.F ht⟩) hS.2.2 dX6_curve_40
set_option maxHeartbeats 4000000 in
set_option maxRecDepth 100000 in
theorem met_X6_curve_no1 (l : Launch) (D : va_G) (cs : Nat → ClassId) (o : Nat → Nat) (sz : Nat) (A S T : Int → Int) (xsm xth xam : Int) (f : Int → Int) (xtl xpl : Int) (g : Int → Int) (xk : Int) (xp : Prop) [Decidable xp] (rxk : -2147483648 ≤ xk ∧ xk ≤ 2147483647) (kno : ¬ (0 ≤ xk ∧ xk ≤ 10)) : Met l yX6_curve wsX6_curve ({ frames := 1, cells := 0, slots := 0, locals := 25 }) (va_Pc [.ref (o 0), .int (zI xk), .int (zI (zB (xp)))] (zPreZ D (zTy cs) (zmod cs o A S T xsm xth xam f xtl xpl g) sz)) (zQi D (zmod cs o A S T xsm xth xam f xtl xpl g) sz (zI (0)) (zmod cs o A S T xsm 1 xam f xtl xpl g)) 0 0 (va_A (zmod cs o A S T xsm xth xam f xtl xpl g) sz) := by
  refine Met.ofW (cc := cX6_curve) (maxL := 3) (ret := (some .int)) (by decide) rfl ?_
  intro p e s m args below meth c s₁ B hml hv
  obtain ⟨rfl, hsz, hP, hK, hD0, hN⟩ := hv
  have hx := B.exec
  have hb := B.bytes
  have hr := B.returns
  have hts := atoms_spec (ws := wsX6_curve) B.pre
  have hown : s.vm.findClass RX6 = some m.cls := findClass_of_methodNamed B.named
  have hlocks := B.notSynchronized
  subst hsz
  obtain ⟨A0, hAe⟩ : ∃ A0, A0 = va_A (zmod cs o A S T xsm xth xam f xtl xpl g) s.heap.size := ⟨_, rfl⟩
  have hD := hD0.self (sz := s.heap.size)
  rw [← hAe] at hD
  have hA : ∀ q : Nat, s.heap.size ≤ q → A0 q := fun q h => by rw [hAe]; exact Or.inr h
  have hS : va_S A0 s.heap s.heap [] := va_S.rf
  have hP : va_P D vwCl (zmod cs o A S T xsm xth xam f xtl xpl g) s.heap := hP
  have hl := lv_entry ([.ref (o 0), .int (zI xk), .int (zI (zB (xp)))]) (n := 3) (Nat.le_of_ble_eq_true rfl)
  rw [lg_entry_eq]
  generalize (lg_sl ([.ref (o 0), .int (zI xk), .int (zI (zB (xp)))]) ++ List.replicate (3 - (lg_sl ([.ref (o 0), .int (zI xk), .int (zI (zB (xp)))])).length) Slot.unset).toArray = ls at hl ⊢
  have hl : lv_has ls 3 [(0, .ref (o 0)), (1, .int (zI xk)), (2, .int (zI (zB (xp))))] := hl
  refine lv_aload_n hx hb dX6_curve_0 rfl (lv_at hl 0 rfl) ?_
  refine lv_iload_n hx hb dX6_curve_1 rfl (lv_at hl 1 rfl) ?_
  refine zr_i2l hx hb dX6_curve_2 (by omega) ?_
  refine zr_lconst0 hx hb dX6_curve_3 ?_
  refine zr_ldc2 (n := 10) hx hb hown (hts (.constantLong RX6 32 (10)) (List.mem_of_getElem? (i := 1) rfl)) rfl dX6_curve_4 ?_
  refine zc_ri (va_runS (As := [.long (zL xk), .long (zL 0), .long (zL 10)]) (rest := [.ref (o 0)]) ⟨hx, hb, hml, hown, hts⟩ (met_X6_in l xk 0 10 (by first | assumption | omega) (by first | assumption | omega) (by first | assumption | omega)) (va_cwS 3 hts gX6_curve_X6_in rfl rfl rfl (by decide +kernel) ⟨Nat.le_of_ble_eq_true rfl, Nat.le_of_ble_eq_true rfl⟩) ⟨zTrue.blind, fun U hU hW => ⟨rfl, trivial⟩⟩ rfl rfl hl.1 rfl (lv_room (Nat.le_of_ble_eq_true rfl)) dX6_curve_7 ⟨Nat.le_of_ble_eq_true rfl, Nat.le_of_ble_eq_true rfl⟩) ?_
  refine zr_iconst hx hb dX6_curve_10 ?_
  refine zc_i (va_runV (As := [.int (zI (zB (0 ≤ xk ∧ xk ≤ 10))), .int (zI 1)]) (rest := []) ⟨hx, hb, hml, hown, hts⟩ (met_X6_goes l D cs o s.heap.size A S T xsm xth xam f xtl xpl g (0 ≤ xk ∧ xk ≤ 10) True ) (cwV 2 hts gX6_curve_X6_goes rfl rfl rfl (by decide +kernel) ⟨Nat.le_of_ble_eq_true rfl, Nat.le_of_ble_eq_true rfl⟩) ⟨zPreZ.blind, va_recv hK hP (ci := 6) (q0 := 0) rfl rfl, fun U hU hW => zp_Z hP hK hD hN hU hW⟩ rfl rfl hl.1 rfl (lv_room (Nat.le_of_ble_eq_true rfl)) dX6_curve_11 ⟨Nat.le_of_ble_eq_true rfl, Nat.le_of_ble_eq_true rfl⟩) hS hD hA (fun H locs hP hD hS => ?_)
  have hP : va_P D vwCl (zmod cs o A S T xsm 1 xam f xtl xpl g) H := by rw [show zGo (0 ≤ xk ∧ xk ≤ 10) True = 1 from zGo_1 (by first | trivial | omega | (simp only [not_true, not_false_eq_true]) | (intro h; omega))] at hP; exact hP
  have hD : va_D A0 (zmod cs o A S T xsm 1 xam f xtl xpl g) := zD_addr hD rfl
  refine zr_ifb_eq (tgt := 39) hx hb dX6_curve_14 (by decide) (fun c1 => ?_) (fun c1 => ?_)
  · refine zr_iconst hx hb dX6_curve_39 ?_
    have hP9 : va_P D vwCl (zmod cs o A S T xsm 1 xam f xtl xpl g) H := hP
    have hD9 : va_D A0 (zmod cs o A S T xsm 1 xam f xtl xpl g) := zD_addr hD rfl
    subst hAe
    exact W.iret hx hb hr (fun t ht hW => ⟨⟨_, (), rfl, (congrArg zI (show 0 = 0 from by rfl)), by rw [ht]; exact hP9, hD9⟩, hS.F ht⟩) hS.2.2 dX6_curve_40
  · exfalso; first | omega | (simp only [and_true, true_and] at c1; omega) | exact c1.2.elim
