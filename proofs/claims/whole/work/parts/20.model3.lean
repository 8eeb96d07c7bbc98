/-! the reference: runs of measurements, predictions, undo, hash -/
noncomputable def zRp (A : Int → Int) (i v t : Int) : Nat → Int → Int
  | 0 => A
  | n + 1 => zTr (zRp A i v t n) i v t
noncomputable def zRc (A : Int → Int) (i v t : Int) : Nat → Int
  | 0 => 0
  | n + 1 => zRc A i v t n + zMany (zRp A i v t n) i v t
noncomputable def zMp (A : Int → Int) (i t r : Int) : Nat → Int → Int
  | 0 => A
  | n + 1 => zTr (zMp A i t r n) i (zMod (zMp A i t r n) i r) t
noncomputable def zMc (A : Int → Int) (i t r : Int) : Nat → Int
  | 0 => 0
  | n + 1 => zMc A i t r n + zMany (zMp A i t r n) i (zMod (zMp A i t r n) i r) t
def zOr (a b : Int) : Int := ((a.toNat ||| b.toNat : Nat) : Int)
noncomputable def zMb (A : Int → Int) (i t r : Int) : Nat → Int
  | 0 => 0
  | n + 1 => zOr (zMb A i t r n) (zBits (zMp A i t r n) i (zMod (zMp A i t r n) i r) t)
theorem zOr_r {a b : Int} (ha : 0 ≤ a ∧ a ≤ 7) (hb : 0 ≤ b ∧ b ≤ 7) : 0 ≤ zOr a b ∧ zOr a b ≤ 7 := by
  unfold zOr
  have : a.toNat ||| b.toNat < 2 ^ 3 := Nat.or_lt_two_pow (by omega) (by omega)
  omega
theorem zI_or {a b : Int} (ha : 0 ≤ a ∧ a ≤ 7) (hb : 0 ≤ b ∧ b ≤ 7) : zI a ||| zI b = zI (zOr a b) := by
  rcases (show a = 0 ∨ a = 1 ∨ a = 2 ∨ a = 3 ∨ a = 4 ∨ a = 5 ∨ a = 6 ∨ a = 7 by omega) with rfl | rfl | rfl | rfl | rfl | rfl | rfl | rfl <;> rcases (show b = 0 ∨ b = 1 ∨ b = 2 ∨ b = 3 ∨ b = 4 ∨ b = 5 ∨ b = 6 ∨ b = 7 by omega) with rfl | rfl | rfl | rfl | rfl | rfl | rfl | rfl <;> decide +kernel
theorem zBits_r (A : Int → Int) (i v t : Int) : 0 ≤ zBits A i v t ∧ zBits A i v t ≤ 7 := by
  unfold zBits zI_f
  (repeat' split) <;> omega
theorem zMany_r (A : Int → Int) (i v t : Int) : 0 ≤ zMany A i v t ∧ zMany A i v t ≤ 3 := by
  unfold zMany zI_f
  (repeat' split) <;> omega
theorem zMod_r {n : Int} {A : Int → Int} (i r : Int) : 0 ≤ zMod A i r ∧ zMod A i r ≤ 6000 := zclamp_r (by decide)
theorem zOK_rp {n : Int} {A : Int → Int} (h : zOK n A) (hn : 0 ≤ n) {i v t : Int} (hi : -50000 ≤ i ∧ i ≤ 50000) (hv : 0 ≤ v ∧ v ≤ 6000) (ht : 1 ≤ t ∧ t ≤ 600) : ∀ k : Nat, n + 12 * k ≤ 3099900 → zOK (n + 12 * k) (zRp A i v t k)
  | 0, _ => by
    show zOK (n + 12 * ((0 : Nat) : Int)) A
    exact zOK_mono h (by omega)
  | k + 1, hk => by
    have := zOK_tr (zOK_rp h hn hi hv ht k (by omega)) (by omega) hi hv ht
    exact zOK_mono this (by omega)
theorem zOK_mp {n : Int} {A : Int → Int} (h : zOK n A) (hn : 0 ≤ n) {i t r : Int} (hi : -50000 ≤ i ∧ i ≤ 50000) (ht : 1 ≤ t ∧ t ≤ 600) : ∀ k : Nat, n + 12 * k ≤ 3099900 → zOK (n + 12 * k) (zMp A i t r k)
  | 0, _ => by
    show zOK (n + 12 * ((0 : Nat) : Int)) A
    exact zOK_mono h (by omega)
  | k + 1, hk => by
    have h9 := zOK_tr (zOK_mp (r := r) h hn hi ht k (by omega)) (by omega) hi (zMod_r (n := n) (A := zMp A i t r k) i r) ht
    exact zOK_mono h9 (by omega)
theorem zMb_r (A : Int → Int) (i t r : Int) : ∀ k : Nat, 0 ≤ zMb A i t r k ∧ zMb A i t r k ≤ 7
  | 0 => by
    show (0 : Int) ≤ 0 ∧ (0 : Int) ≤ 7
    decide
  | k + 1 => zOr_r (zMb_r A i t r k) (zBits_r _ _ _ _)
theorem ztn (j : Int) (h : 0 ≤ j) : (j + 1).toNat = j.toNat + 1 := by omega
section ZOR
variable {p : Program} {l : Launch} {e : Env} {R : Room} {s : State} {m : MethodId} {args : Array Value} {below : List Frame} {meth : Method} {c : Code} {H : Heap} {locs : List Loc} {cells slots : Nat} {Q : State → Prop}
variable {cc : ByteArray} {pc : Nat} {ls : Array Slot} {rest : List Value}
theorem zr_ior (hx : p.tables.exec = Jvm.exec) (hb : c.code = cc) {a b : Int} (d : decode cc pc = .ok (.ior, 1)) (ha : 0 ≤ a ∧ a ≤ 7) (hb2 : 0 ≤ b ∧ b ≤ 7) (k : W p l e R s m args below meth c H locs cells slots Q (F0 m (pc + 1) ls (.int (zI (zOr a b)) :: rest))) : W p l e R s m args below meth c H locs cells slots Q (F0 m pc ls (.int (zI b) :: .int (zI a) :: rest)) := lv_ior hx hb d (by rw [zI_or ha hb2]; exact k)
end ZOR
set_option maxHeartbeats 4000000 in
set_option maxRecDepth 100000 in
theorem met_X6_measure_ok (l : Launch) (D : va_G) (cs : Nat → ClassId) (o : Nat → Nat) (sz : Nat) (A S T : Int → Int) (xsm xth xam : Int) (f : Int → Int) (xtl xpl : Int) (g : Int → Int) (n : Int) (xi xv xt : Int) (hI : zOK n A) (hn : 0 ≤ n ∧ n ≤ 3100000) (kn9 : n ≤ 3099900) (ksm : 0 ≤ xsm ∧ xsm ≤ 4) (rxi : -2147483648 ≤ xi ∧ xi ≤ 2147483647) (rxv : -2147483648 ≤ xv ∧ xv ≤ 2147483647) (rxt : -2147483648 ≤ xt ∧ xt ≤ 2147483647) (kok : (-50000 ≤ xi ∧ xi ≤ 50000) ∧ (0 ≤ xv ∧ xv ≤ 6000) ∧ 1 ≤ xt ∧ xt ≤ 600) : Met l yX6_measure wsX6_measure ({ frames := 5, cells := 0, slots := 0, locals := 137 }) (va_Pc [.ref (o 0), .int (zI xi), .int (zI xv), .int (zI xt)] (zPreZ D (zTy cs) (zmod cs o A S T xsm xth xam f xtl xpl g) sz)) (zQi D (zmod cs o A S T xsm xth xam f xtl xpl g) sz (zI (zBits A xi xv xt)) (zmod cs o (zTr A xi xv xt) (zSvF S A xsm) T (zm4 xsm) 0 (xam + zMany A xi xv xt) f xtl xpl g)) 0 0 (va_A (zmod cs o A S T xsm xth xam f xtl xpl g) sz) := by
  refine Met.ofW (cc := cX6_measure) (maxL := 4) (ret := (some .int)) (by decide) rfl ?_
  intro p e s m args below meth c s₁ B hml hv
  obtain ⟨rfl, hsz, hP, hK, hD0, hN⟩ := hv
  have hx := B.exec
  have hb := B.bytes
  have hr := B.returns
  have hts := atoms_spec (ws := wsX6_measure) B.pre
  have hown : s.vm.findClass RX6 = some m.cls := findClass_of_methodNamed B.named
  have hlocks := B.notSynchronized
  subst hsz
  obtain ⟨A0, hAe⟩ : ∃ A0, A0 = va_A (zmod cs o A S T xsm xth xam f xtl xpl g) s.heap.size := ⟨_, rfl⟩
  have hD := hD0.self (sz := s.heap.size)
  rw [← hAe] at hD
  have hA : ∀ q : Nat, s.heap.size ≤ q → A0 q := fun q h => by rw [hAe]; exact Or.inr h
  have hS : va_S A0 s.heap s.heap [] := va_S.rf
  have hP : va_P D vwCl (zmod cs o A S T xsm xth xam f xtl xpl g) s.heap := hP
  have hl := lv_entry ([.ref (o 0), .int (zI xi), .int (zI xv), .int (zI xt)]) (n := 4) (Nat.le_of_ble_eq_true rfl)
  rw [lg_entry_eq]
  generalize (lg_sl ([.ref (o 0), .int (zI xi), .int (zI xv), .int (zI xt)]) ++ List.replicate (4 - (lg_sl ([.ref (o 0), .int (zI xi), .int (zI xv), .int (zI xt)])).length) Slot.unset).toArray = ls at hl ⊢
  have hl : lv_has ls 4 [(0, .ref (o 0)), (1, .int (zI xi)), (2, .int (zI xv)), (3, .int (zI xt))] := hl
  refine lv_aload_n hx hb dX6_measure_0 rfl (lv_at hl 0 rfl) ?_
  refine lv_iload_n hx hb dX6_measure_1 rfl (lv_at hl 1 rfl) ?_
  refine lv_iload_n hx hb dX6_measure_2 rfl (lv_at hl 2 rfl) ?_
  refine lv_iload_n hx hb dX6_measure_3 rfl (lv_at hl 3 rfl) ?_
  refine zc_ri (va_runS (As := [.int (zI xi), .int (zI xv), .int (zI xt)]) (rest := [.ref (o 0)]) ⟨hx, hb, hml, hown, hts⟩ (met_X6_isMeasurement l xi xv xt (by first | assumption | omega) (by first | assumption | omega) (by first | assumption | omega)) (va_cwS 3 hts gX6_measure_X6_isMeasurement rfl rfl rfl (by decide +kernel) ⟨Nat.le_of_ble_eq_true rfl, Nat.le_of_ble_eq_true rfl⟩) ⟨zTrue.blind, fun U hU hW => ⟨rfl, trivial⟩⟩ rfl rfl hl.1 rfl (lv_room (Nat.le_of_ble_eq_true rfl)) dX6_measure_4 ⟨Nat.le_of_ble_eq_true rfl, Nat.le_of_ble_eq_true rfl⟩) ?_
  refine zr_iconst hx hb dX6_measure_7 ?_
  refine zc_i (va_runV (As := [.int (zI (zB ((-50000 ≤ xi ∧ xi ≤ 50000) ∧ (0 ≤ xv ∧ xv ≤ 6000) ∧ 1 ≤ xt ∧ xt ≤ 600))), .int (zI 1)]) (rest := []) ⟨hx, hb, hml, hown, hts⟩ (met_X6_goes l D cs o s.heap.size A S T xsm xth xam f xtl xpl g ((-50000 ≤ xi ∧ xi ≤ 50000) ∧ (0 ≤ xv ∧ xv ≤ 6000) ∧ 1 ≤ xt ∧ xt ≤ 600) True ) (cwV 2 hts gX6_measure_X6_goes rfl rfl rfl (by decide +kernel) ⟨Nat.le_of_ble_eq_true rfl, Nat.le_of_ble_eq_true rfl⟩) ⟨zPreZ.blind, va_recv hK hP (ci := 6) (q0 := 0) rfl rfl, fun U hU hW => zp_Z hP hK hD hN hU hW⟩ rfl rfl hl.1 rfl (lv_room (Nat.le_of_ble_eq_true rfl)) dX6_measure_8 ⟨Nat.le_of_ble_eq_true rfl, Nat.le_of_ble_eq_true rfl⟩) hS hD hA (fun H locs hP hD hS => ?_)
  have hP : va_P D vwCl (zmod cs o A S T xsm 0 xam f xtl xpl g) H := by rw [show zGo ((-50000 ≤ xi ∧ xi ≤ 50000) ∧ (0 ≤ xv ∧ xv ≤ 6000) ∧ 1 ≤ xt ∧ xt ≤ 600) True = 0 from zGo_0 (by first | trivial | omega | (simp only [not_true, not_false_eq_true]) | (intro h; omega)) (by first | trivial | omega | (simp only [not_true, not_false_eq_true]) | (intro h; omega))] at hP; exact hP
  have hD : va_D A0 (zmod cs o A S T xsm 0 xam f xtl xpl g) := zD_addr hD rfl
  refine zr_ifb_ne (tgt := 16) hx hb dX6_measure_11 (by decide) (fun c1 => ?_) (fun c1 => ?_)
  · refine lv_aload_n hx hb dX6_measure_16 rfl (lv_at hl 0 rfl) ?_
    refine zc_v (va_runV (As := []) (rest := []) ⟨hx, hb, hml, hown, hts⟩ (met_X6_save l D cs o H.size A S T xsm 0 xam f xtl xpl g (by first | assumption | omega)) (cwV 0 hts gX6_measure_X6_save rfl rfl rfl (by decide +kernel) ⟨Nat.le_of_ble_eq_true rfl, Nat.le_of_ble_eq_true rfl⟩) ⟨zPreZ.blind, va_recv hK hP (ci := 6) (q0 := 0) rfl rfl, fun U hU hW => zp_Z hP hK hD hN hU hW⟩ rfl rfl hl.1 rfl (lv_room (Nat.le_of_ble_eq_true rfl)) dX6_measure_17 ⟨Nat.le_of_ble_eq_true rfl, Nat.le_of_ble_eq_true rfl⟩) hS hD hA (fun H locs hP hD hS => ?_)
    refine lv_aload_n hx hb dX6_measure_20 rfl (lv_at hl 0 rfl) ?_
    refine lv_iload_n hx hb dX6_measure_21 rfl (lv_at hl 1 rfl) ?_
    refine zr_i2l hx hb dX6_measure_22 (by omega) ?_
    refine lv_iload_n hx hb dX6_measure_23 rfl (lv_at hl 2 rfl) ?_
    refine zr_i2l hx hb dX6_measure_24 (by omega) ?_
    refine lv_iload_n hx hb dX6_measure_25 rfl (lv_at hl 3 rfl) ?_
    refine zr_i2l hx hb dX6_measure_26 (by omega) ?_
    refine zc_i (va_runV (As := [.long (zL xi), .long (zL xv), .long (zL xt)]) (rest := []) ⟨hx, hb, hml, hown, hts⟩ (met_X6_treats l D cs o H.size A (zSvF S A xsm) T (zm4 xsm) 0 xam f xtl xpl g _ xi xv xt (by assumption) (by assumption) (by first | assumption | omega) (by first | assumption | omega) (by first | assumption | omega) (by first | assumption | omega)) (cwV 3 hts gX6_measure_X6_treats rfl rfl rfl (by decide +kernel) ⟨Nat.le_of_ble_eq_true rfl, Nat.le_of_ble_eq_true rfl⟩) ⟨zPreZ.blind, va_recv hK hP (ci := 6) (q0 := 0) rfl rfl, fun U hU hW => zp_Z hP hK hD hN hU hW⟩ rfl rfl hl.1 rfl (lv_room (Nat.le_of_ble_eq_true rfl)) dX6_measure_27 ⟨Nat.le_of_ble_eq_true rfl, Nat.le_of_ble_eq_true rfl⟩) hS hD hA (fun H locs hP hD hS => ?_)
    have hP9 : va_P D vwCl (zmod cs o (zTr A xi xv xt) (zSvF S A xsm) T (zm4 xsm) 0 (xam + zMany A xi xv xt) f xtl xpl g) H := hP
    have hD9 : va_D A0 (zmod cs o (zTr A xi xv xt) (zSvF S A xsm) T (zm4 xsm) 0 (xam + zMany A xi xv xt) f xtl xpl g) := zD_addr hD rfl
    subst hAe
    exact W.iret hx hb hr (fun t ht hW => ⟨⟨_, (), rfl, (congrArg zI (show zBits A xi xv xt = zBits A xi xv xt from by rfl)), by rw [ht]; exact hP9, hD9⟩, hS.F ht⟩) hS.2.2 dX6_measure_30
  · exfalso; first | omega | (simp only [and_true, true_and] at c1; omega) | exact c1.2.elim
set_option maxHeartbeats 4000000 in
set_option maxRecDepth 100000 in
theorem met_X6_measure_no1 (l : Launch) (D : va_G) (cs : Nat → ClassId) (o : Nat → Nat) (sz : Nat) (A S T : Int → Int) (xsm xth xam : Int) (f : Int → Int) (xtl xpl : Int) (g : Int → Int) (xi xv xt : Int) (rxi : -2147483648 ≤ xi ∧ xi ≤ 2147483647) (rxv : -2147483648 ≤ xv ∧ xv ≤ 2147483647) (rxt : -2147483648 ≤ xt ∧ xt ≤ 2147483647) (kno : ¬ ((-50000 ≤ xi ∧ xi ≤ 50000) ∧ (0 ≤ xv ∧ xv ≤ 6000) ∧ 1 ≤ xt ∧ xt ≤ 600)) : Met l yX6_measure wsX6_measure ({ frames := 2, cells := 0, slots := 0, locals := 47 }) (va_Pc [.ref (o 0), .int (zI xi), .int (zI xv), .int (zI xt)] (zPreZ D (zTy cs) (zmod cs o A S T xsm xth xam f xtl xpl g) sz)) (zQi D (zmod cs o A S T xsm xth xam f xtl xpl g) sz (zI (0)) (zmod cs o A S T xsm 1 xam f xtl xpl g)) 0 0 (va_A (zmod cs o A S T xsm xth xam f xtl xpl g) sz) := by
  refine Met.ofW (cc := cX6_measure) (maxL := 4) (ret := (some .int)) (by decide) rfl ?_
  intro p e s m args below meth c s₁ B hml hv
  obtain ⟨rfl, hsz, hP, hK, hD0, hN⟩ := hv
  have hx := B.exec
  have hb := B.bytes
  have hr := B.returns
  have hts := atoms_spec (ws := wsX6_measure) B.pre
  have hown : s.vm.findClass RX6 = some m.cls := findClass_of_methodNamed B.named
  have hlocks := B.notSynchronized
  subst hsz
  obtain ⟨A0, hAe⟩ : ∃ A0, A0 = va_A (zmod cs o A S T xsm xth xam f xtl xpl g) s.heap.size := ⟨_, rfl⟩
  have hD := hD0.self (sz := s.heap.size)
  rw [← hAe] at hD
  have hA : ∀ q : Nat, s.heap.size ≤ q → A0 q := fun q h => by rw [hAe]; exact Or.inr h
  have hS : va_S A0 s.heap s.heap [] := va_S.rf
  have hP : va_P D vwCl (zmod cs o A S T xsm xth xam f xtl xpl g) s.heap := hP
  have hl := lv_entry ([.ref (o 0), .int (zI xi), .int (zI xv), .int (zI xt)]) (n := 4) (Nat.le_of_ble_eq_true rfl)
  rw [lg_entry_eq]
  generalize (lg_sl ([.ref (o 0), .int (zI xi), .int (zI xv), .int (zI xt)]) ++ List.replicate (4 - (lg_sl ([.ref (o 0), .int (zI xi), .int (zI xv), .int (zI xt)])).length) Slot.unset).toArray = ls at hl ⊢
  have hl : lv_has ls 4 [(0, .ref (o 0)), (1, .int (zI xi)), (2, .int (zI xv)), (3, .int (zI xt))] := hl
  refine lv_aload_n hx hb dX6_measure_0 rfl (lv_at hl 0 rfl) ?_
  refine lv_iload_n hx hb dX6_measure_1 rfl (lv_at hl 1 rfl) ?_
  refine lv_iload_n hx hb dX6_measure_2 rfl (lv_at hl 2 rfl) ?_
  refine lv_iload_n hx hb dX6_measure_3 rfl (lv_at hl 3 rfl) ?_
  refine zc_ri (va_runS (As := [.int (zI xi), .int (zI xv), .int (zI xt)]) (rest := [.ref (o 0)]) ⟨hx, hb, hml, hown, hts⟩ (met_X6_isMeasurement l xi xv xt (by first | assumption | omega) (by first | assumption | omega) (by first | assumption | omega)) (va_cwS 3 hts gX6_measure_X6_isMeasurement rfl rfl rfl (by decide +kernel) ⟨Nat.le_of_ble_eq_true rfl, Nat.le_of_ble_eq_true rfl⟩) ⟨zTrue.blind, fun U hU hW => ⟨rfl, trivial⟩⟩ rfl rfl hl.1 rfl (lv_room (Nat.le_of_ble_eq_true rfl)) dX6_measure_4 ⟨Nat.le_of_ble_eq_true rfl, Nat.le_of_ble_eq_true rfl⟩) ?_
  refine zr_iconst hx hb dX6_measure_7 ?_
  refine zc_i (va_runV (As := [.int (zI (zB ((-50000 ≤ xi ∧ xi ≤ 50000) ∧ (0 ≤ xv ∧ xv ≤ 6000) ∧ 1 ≤ xt ∧ xt ≤ 600))), .int (zI 1)]) (rest := []) ⟨hx, hb, hml, hown, hts⟩ (met_X6_goes l D cs o s.heap.size A S T xsm xth xam f xtl xpl g ((-50000 ≤ xi ∧ xi ≤ 50000) ∧ (0 ≤ xv ∧ xv ≤ 6000) ∧ 1 ≤ xt ∧ xt ≤ 600) True ) (cwV 2 hts gX6_measure_X6_goes rfl rfl rfl (by decide +kernel) ⟨Nat.le_of_ble_eq_true rfl, Nat.le_of_ble_eq_true rfl⟩) ⟨zPreZ.blind, va_recv hK hP (ci := 6) (q0 := 0) rfl rfl, fun U hU hW => zp_Z hP hK hD hN hU hW⟩ rfl rfl hl.1 rfl (lv_room (Nat.le_of_ble_eq_true rfl)) dX6_measure_8 ⟨Nat.le_of_ble_eq_true rfl, Nat.le_of_ble_eq_true rfl⟩) hS hD hA (fun H locs hP hD hS => ?_)
  have hP : va_P D vwCl (zmod cs o A S T xsm 1 xam f xtl xpl g) H := by rw [show zGo ((-50000 ≤ xi ∧ xi ≤ 50000) ∧ (0 ≤ xv ∧ xv ≤ 6000) ∧ 1 ≤ xt ∧ xt ≤ 600) True = 1 from zGo_1 (by first | trivial | omega | (simp only [not_true, not_false_eq_true]) | (intro h; omega))] at hP; exact hP
  have hD : va_D A0 (zmod cs o A S T xsm 1 xam f xtl xpl g) := zD_addr hD rfl
  refine zr_ifb_ne (tgt := 16) hx hb dX6_measure_11 (by decide) (fun c1 => ?_) (fun c1 => ?_)
  · exfalso; first | omega | (simp only [and_true, true_and] at c1; omega) | exact c1.2.elim
  · refine zr_iconst hx hb dX6_measure_14 ?_
    have hP9 : va_P D vwCl (zmod cs o A S T xsm 1 xam f xtl xpl g) H := hP
    have hD9 : va_D A0 (zmod cs o A S T xsm 1 xam f xtl xpl g) := zD_addr hD rfl
    subst hAe
    exact W.iret hx hb hr (fun t ht hW => ⟨⟨_, (), rfl, (congrArg zI (show 0 = 0 from by rfl)), by rw [ht]; exact hP9, hD9⟩, hS.F ht⟩) hS.2.2 dX6_measure_15
set_option maxHeartbeats 4000000 in
set_option maxRecDepth 100000 in
theorem met_X6_repeat_ok (l : Launch) (D : va_G) (cs : Nat → ClassId) (o : Nat → Nat) (sz : Nat) (A S T : Int → Int) (xsm xth xam : Int) (f : Int → Int) (xtl xpl : Int) (g : Int → Int) (n : Int) (xi xv xt xn : Int) (hI : zOK n A) (hn : 0 ≤ n ∧ n ≤ 3100000) (kn6 : n ≤ 3090000) (ksm : 0 ≤ xsm ∧ xsm ≤ 4) (rxi : -2147483648 ≤ xi ∧ xi ≤ 2147483647) (rxv : -2147483648 ≤ xv ∧ xv ≤ 2147483647) (rxt : -2147483648 ≤ xt ∧ xt ≤ 2147483647) (rxn : -2147483648 ≤ xn ∧ xn ≤ 2147483647) (kok : ((-50000 ≤ xi ∧ xi ≤ 50000) ∧ (0 ≤ xv ∧ xv ≤ 6000) ∧ 1 ≤ xt ∧ xt ≤ 600) ∧ 0 ≤ xn ∧ xn ≤ 500) : Met l yX6_repeat wsX6_repeat ({ frames := 5, cells := 0, slots := 0, locals := 137 }) (va_Pc [.ref (o 0), .int (zI xi), .int (zI xv), .int (zI xt), .int (zI xn)] (zPreZ D (zTy cs) (zmod cs o A S T xsm xth xam f xtl xpl g) sz)) (zQi D (zmod cs o A S T xsm xth xam f xtl xpl g) sz (zI (zRc A xi xv xt xn.toNat)) (zmod cs o (zRp A xi xv xt xn.toNat) (zSvF S A xsm) T (zm4 xsm) 0 (zRc A xi xv xt xn.toNat) f xtl xpl g)) 0 0 (va_A (zmod cs o A S T xsm xth xam f xtl xpl g) sz) := by
  refine Met.ofW (cc := cX6_repeat) (maxL := 7) (ret := (some .int)) (by decide) rfl ?_
  intro p e s m args below meth c s₁ B hml hv
  obtain ⟨rfl, hsz, hP, hK, hD0, hN⟩ := hv
  have hx := B.exec
  have hb := B.bytes
  have hr := B.returns
  have hts := atoms_spec (ws := wsX6_repeat) B.pre
  have hown : s.vm.findClass RX6 = some m.cls := findClass_of_methodNamed B.named
  have hlocks := B.notSynchronized
  subst hsz
  obtain ⟨A0, hAe⟩ : ∃ A0, A0 = va_A (zmod cs o A S T xsm xth xam f xtl xpl g) s.heap.size := ⟨_, rfl⟩
  have hD := hD0.self (sz := s.heap.size)
  rw [← hAe] at hD
  have hA : ∀ q : Nat, s.heap.size ≤ q → A0 q := fun q h => by rw [hAe]; exact Or.inr h
  have hS : va_S A0 s.heap s.heap [] := va_S.rf
  have hP : va_P D vwCl (zmod cs o A S T xsm xth xam f xtl xpl g) s.heap := hP
  have hl := lv_entry ([.ref (o 0), .int (zI xi), .int (zI xv), .int (zI xt), .int (zI xn)]) (n := 7) (Nat.le_of_ble_eq_true rfl)
  rw [lg_entry_eq]
  generalize (lg_sl ([.ref (o 0), .int (zI xi), .int (zI xv), .int (zI xt), .int (zI xn)]) ++ List.replicate (7 - (lg_sl ([.ref (o 0), .int (zI xi), .int (zI xv), .int (zI xt), .int (zI xn)])).length) Slot.unset).toArray = ls at hl ⊢
  have hl : lv_has ls 7 [(0, .ref (o 0)), (1, .int (zI xi)), (2, .int (zI xv)), (3, .int (zI xt)), (4, .int (zI xn))] := hl
  have hiX6 : ∀ w ∈ wsX60, w ∈ wsX6_repeat := by decide +kernel
  refine lv_aload_n hx hb dX6_repeat_0 rfl (lv_at hl 0 rfl) ?_
  refine lv_iload_n hx hb dX6_repeat_1 rfl (lv_at hl 1 rfl) ?_
  refine lv_iload_n hx hb dX6_repeat_2 rfl (lv_at hl 2 rfl) ?_
  refine lv_iload_n hx hb dX6_repeat_3 rfl (lv_at hl 3 rfl) ?_
  refine zc_ri (va_runS (As := [.int (zI xi), .int (zI xv), .int (zI xt)]) (rest := [.ref (o 0)]) ⟨hx, hb, hml, hown, hts⟩ (met_X6_isMeasurement l xi xv xt (by first | assumption | omega) (by first | assumption | omega) (by first | assumption | omega)) (va_cwS 3 hts gX6_repeat_X6_isMeasurement rfl rfl rfl (by decide +kernel) ⟨Nat.le_of_ble_eq_true rfl, Nat.le_of_ble_eq_true rfl⟩) ⟨zTrue.blind, fun U hU hW => ⟨rfl, trivial⟩⟩ rfl rfl hl.1 rfl (lv_room (Nat.le_of_ble_eq_true rfl)) dX6_repeat_4 ⟨Nat.le_of_ble_eq_true rfl, Nat.le_of_ble_eq_true rfl⟩) ?_
  refine zr_ifb_eq (tgt := 27) hx hb dX6_repeat_7 (by decide) (fun c1 => ?_) (fun c1 => ?_)
  · refine zr_iconst hx hb dX6_repeat_27 ?_
    refine zr_iconst hx hb dX6_repeat_28 ?_
    refine zc_i (va_runV (As := [.int (zI 0), .int (zI 1)]) (rest := []) ⟨hx, hb, hml, hown, hts⟩ (met_X6_goes l D cs o s.heap.size A S T xsm xth xam f xtl xpl g False True ) (cwV 2 hts gX6_repeat_X6_goes rfl rfl rfl (by decide +kernel) ⟨Nat.le_of_ble_eq_true rfl, Nat.le_of_ble_eq_true rfl⟩) ⟨zPreZ.blind, va_recv hK hP (ci := 6) (q0 := 0) rfl rfl, fun U hU hW => zp_Z hP hK hD hN hU hW⟩ rfl rfl hl.1 rfl (lv_room (Nat.le_of_ble_eq_true rfl)) dX6_repeat_29 ⟨Nat.le_of_ble_eq_true rfl, Nat.le_of_ble_eq_true rfl⟩) hS hD hA (fun H locs hP hD hS => ?_)
    have hP : va_P D vwCl (zmod cs o A S T xsm 0 xam f xtl xpl g) H := by rw [show zGo False True = 0 from zGo_0 (by first | trivial | omega | (simp only [not_true, not_false_eq_true]) | (intro h; omega)) (by first | trivial | omega | (simp only [not_true, not_false_eq_true]) | (intro h; omega))] at hP; exact hP
    have hD : va_D A0 (zmod cs o A S T xsm 0 xam f xtl xpl g) := zD_addr hD rfl
    refine zr_ifb_ne (tgt := 37) hx hb dX6_repeat_32 (by decide) (fun c2 => ?_) (fun c2 => ?_)
    · first | exact absurd c2 (by decide) | exact absurd (by decide) c2
    · exfalso; first | omega | (simp only [and_true, true_and] at c2; omega) | exact c2.2.elim
  · refine lv_iload hx hb dX6_repeat_10 (lv_at hl 4 rfl) ?_
    refine zr_i2l hx hb dX6_repeat_12 (by omega) ?_
    refine zr_lconst0 hx hb dX6_repeat_13 ?_
    refine zr_ldc2 (n := 500) hx hb hown (hts (.constantLong RX6 28 (500)) (List.mem_of_getElem? (i := 1) rfl)) rfl dX6_repeat_14 ?_
    refine zc_ri (va_runS (As := [.long (zL xn), .long (zL 0), .long (zL 500)]) (rest := [.ref (o 0)]) ⟨hx, hb, hml, hown, hts⟩ (met_X6_in l xn 0 500 (by first | assumption | omega) (by first | assumption | omega) (by first | assumption | omega)) (va_cwS 3 hts gX6_repeat_X6_in rfl rfl rfl (by decide +kernel) ⟨Nat.le_of_ble_eq_true rfl, Nat.le_of_ble_eq_true rfl⟩) ⟨zTrue.blind, fun U hU hW => ⟨rfl, trivial⟩⟩ rfl rfl hl.1 rfl (lv_room (Nat.le_of_ble_eq_true rfl)) dX6_repeat_17 ⟨Nat.le_of_ble_eq_true rfl, Nat.le_of_ble_eq_true rfl⟩) ?_
    refine zr_ifb_eq (tgt := 27) hx hb dX6_repeat_20 (by decide) (fun c3 => ?_) (fun c3 => ?_)
    · refine zr_iconst hx hb dX6_repeat_27 ?_
      refine zr_iconst hx hb dX6_repeat_28 ?_
      refine zc_i (va_runV (As := [.int (zI 0), .int (zI 1)]) (rest := []) ⟨hx, hb, hml, hown, hts⟩ (met_X6_goes l D cs o s.heap.size A S T xsm xth xam f xtl xpl g False True ) (cwV 2 hts gX6_repeat_X6_goes rfl rfl rfl (by decide +kernel) ⟨Nat.le_of_ble_eq_true rfl, Nat.le_of_ble_eq_true rfl⟩) ⟨zPreZ.blind, va_recv hK hP (ci := 6) (q0 := 0) rfl rfl, fun U hU hW => zp_Z hP hK hD hN hU hW⟩ rfl rfl hl.1 rfl (lv_room (Nat.le_of_ble_eq_true rfl)) dX6_repeat_29 ⟨Nat.le_of_ble_eq_true rfl, Nat.le_of_ble_eq_true rfl⟩) hS hD hA (fun H locs hP hD hS => ?_)
      have hP : va_P D vwCl (zmod cs o A S T xsm 0 xam f xtl xpl g) H := by rw [show zGo False True = 0 from zGo_0 (by first | trivial | omega | (simp only [not_true, not_false_eq_true]) | (intro h; omega)) (by first | trivial | omega | (simp only [not_true, not_false_eq_true]) | (intro h; omega))] at hP; exact hP
      have hD : va_D A0 (zmod cs o A S T xsm 0 xam f xtl xpl g) := zD_addr hD rfl
      refine zr_ifb_ne (tgt := 37) hx hb dX6_repeat_32 (by decide) (fun c4 => ?_) (fun c4 => ?_)
      · first | exact absurd c4 (by decide) | exact absurd (by decide) c4
      · exfalso; first | omega | (simp only [and_true, true_and] at c4; omega) | exact c4.2.elim
    · refine zr_iconst hx hb dX6_repeat_23 ?_
      refine lv_goto (tgt := 28) hx hb dX6_repeat_24 (by decide) ?_
      refine zr_iconst hx hb dX6_repeat_28 ?_
      refine zc_i (va_runV (As := [.int (zI 1), .int (zI 1)]) (rest := []) ⟨hx, hb, hml, hown, hts⟩ (met_X6_goes l D cs o s.heap.size A S T xsm xth xam f xtl xpl g True True ) (cwV 2 hts gX6_repeat_X6_goes rfl rfl rfl (by decide +kernel) ⟨Nat.le_of_ble_eq_true rfl, Nat.le_of_ble_eq_true rfl⟩) ⟨zPreZ.blind, va_recv hK hP (ci := 6) (q0 := 0) rfl rfl, fun U hU hW => zp_Z hP hK hD hN hU hW⟩ rfl rfl hl.1 rfl (lv_room (Nat.le_of_ble_eq_true rfl)) dX6_repeat_29 ⟨Nat.le_of_ble_eq_true rfl, Nat.le_of_ble_eq_true rfl⟩) hS hD hA (fun H locs hP hD hS => ?_)
      have hP : va_P D vwCl (zmod cs o A S T xsm 0 xam f xtl xpl g) H := by rw [show zGo True True = 0 from zGo_0 (by first | trivial | omega | (simp only [not_true, not_false_eq_true]) | (intro h; omega)) (by first | trivial | omega | (simp only [not_true, not_false_eq_true]) | (intro h; omega))] at hP; exact hP
      have hD : va_D A0 (zmod cs o A S T xsm 0 xam f xtl xpl g) := zD_addr hD rfl
      refine zr_ifb_ne (tgt := 37) hx hb dX6_repeat_32 (by decide) (fun c5 => ?_) (fun c5 => ?_)
      · refine lv_aload_n hx hb dX6_repeat_37 rfl (lv_at hl 0 rfl) ?_
        refine zc_v (va_runV (As := []) (rest := []) ⟨hx, hb, hml, hown, hts⟩ (met_X6_save l D cs o H.size A S T xsm 0 xam f xtl xpl g (by first | assumption | omega)) (cwV 0 hts gX6_repeat_X6_save rfl rfl rfl (by decide +kernel) ⟨Nat.le_of_ble_eq_true rfl, Nat.le_of_ble_eq_true rfl⟩) ⟨zPreZ.blind, va_recv hK hP (ci := 6) (q0 := 0) rfl rfl, fun U hU hW => zp_Z hP hK hD hN hU hW⟩ rfl rfl hl.1 rfl (lv_room (Nat.le_of_ble_eq_true rfl)) dX6_repeat_38 ⟨Nat.le_of_ble_eq_true rfl, Nat.le_of_ble_eq_true rfl⟩) hS hD hA (fun H locs hP hD hS => ?_)
        refine lv_aload_n hx hb dX6_repeat_41 rfl (lv_at hl 0 rfl) ?_
        refine zr_iconst hx hb dX6_repeat_42 ?_
        refine va_put (D := D) (ci := 6) (v := .int (zI 0)) (ty := .int) (C := RX6) (T := TX6) (N := 10) hx hb hts hiX6 tyX6 tyX6_ok nmX6 hown hK hP hD hS 0 rfl rfl 5 (by decide) (hts (.fieldLink RX6 167 "ChargeEstimatorModel" "anchorsMade" "I") (List.mem_of_getElem? (i := 2) rfl)) (fun _ h9 => h9) rfl (by decide +kernel) rfl rfl (Nat.le_of_ble_eq_true rfl) dX6_repeat_43 (fun H locs hP hD hS => ?_)
        have hP : va_P D vwCl (zmod cs o A (zSvF S A xsm) T (zm4 xsm) 0 0 f xtl xpl g) H := hP
        have hD : va_D A0 (zmod cs o A (zSvF S A xsm) T (zm4 xsm) 0 0 f xtl xpl g) := zD_addr hD rfl
        refine zr_iconst hx hb dX6_repeat_46 ?_
        refine lv_istore (lv' := [(5, .int (zI 0)), (0, .ref (o 0)), (1, .int (zI xi)), (2, .int (zI xv)), (3, .int (zI xt)), (4, .int (zI xn))]) hx hb dX6_repeat_47 hl (by decide) rfl (fun ls hl => ?_)
        refine zr_iconst hx hb dX6_repeat_49 ?_
        refine lv_istore (lv' := [(6, .int (zI 0)), (5, .int (zI 0)), (0, .ref (o 0)), (1, .int (zI xi)), (2, .int (zI xv)), (3, .int (zI xt)), (4, .int (zI xn))]) hx hb dX6_repeat_50 hl (by decide) rfl (fun ls hl => ?_)
        suffices J_52 : ∀ (nn : Nat) (xj : Int) (xb : Int) (jj : 0 ≤ xj ∧ xj ≤ xn) (jb : 0 ≤ xb ∧ xb ≤ 7) (hmu : xn - xj < (nn : Int)) (H : Heap) (locs : List Loc) (hP : va_P D vwCl (zmod cs o (zRp A xi xv xt xj.toNat) (zSvF S A xsm) T (zm4 xsm) 0 (zRc A xi xv xt xj.toNat) f xtl xpl g) H) (hD : va_D A0 (zmod cs o (zRp A xi xv xt xj.toNat) (zSvF S A xsm) T (zm4 xsm) 0 (zRc A xi xv xt xj.toNat) f xtl xpl g)) (hS : va_S A0 s.heap H locs) (ls : Array Slot) (hl : lv_has ls 7 [(6, .int (zI xj)), (5, .int (zI xb)), (4, .int (zI xn)), (0, .ref (o 0)), (1, .int (zI xi)), (2, .int (zI xv)), (3, .int (zI xt))]), W p l e (headSpec wsX6_repeat ({ frames := 5, cells := 0, slots := 0, locals := 137 })).room s m ([.ref (o 0), .int (zI xi), .int (zI xv), .int (zI xt), .int (zI xn)] : List Value).toArray below meth c H locs 0 0 (MQ below (zQi D (zmod cs o A S T xsm xth xam f xtl xpl g) s.heap.size (zI (zRc A xi xv xt xn.toNat)) (zmod cs o (zRp A xi xv xt xn.toNat) (zSvF S A xsm) T (zm4 xsm) 0 (zRc A xi xv xt xn.toNat) f xtl xpl g)) ([.ref (o 0), .int (zI xi), .int (zI xv), .int (zI xt), .int (zI xn)] : List Value).toArray s 0 0 (va_A (zmod cs o A S T xsm xth xam f xtl xpl g) s.heap.size)) (F0 m 52 ls []) by
          exact J_52 (((xn - 0) : Int).toNat + 1) 0 0 (by omega) (by first | decide | exact zOr_r jb (zBits_r _ _ _ _)) (by have : (0 : Int) ≤ xn - 0 := (by omega); omega) _ _ (by exact hP) (zD_addr hD rfl) hS _ (lv_sub hl [0, 1, 6, 2, 3, 4, 5] rfl)
        intro nn
        induction nn with
        | zero => intro xj xb jj jb hmu; exfalso; have : (0 : Int) ≤ xn - xj := (by omega); omega
        | succ nn ih =>
          intro xj xb jj jb hmu H locs hP hD hS ls hl
          have hj := zOK_rp hI hn.1 kok.1.1 kok.1.2.1 kok.1.2.2 xj.toNat (by omega)
          refine lv_iload hx hb dX6_repeat_52 (lv_at hl 0 rfl) ?_
          refine lv_iload hx hb dX6_repeat_54 (lv_at hl 2 rfl) ?_
          refine zr_icmp_ge (tgt := 80) hx hb dX6_repeat_56 (by decide) (by omega) (by omega) (fun c6 => ?_) (fun c6 => ?_)
          · refine lv_aload_n hx hb dX6_repeat_80 rfl (lv_at hl 3 rfl) ?_
            refine va_get (D := D) (ci := 6) (v := .int (zI (zRc A xi xv xt xj.toNat))) (C := RX6) (T := TX6) (N := 10) hx hb hts hiX6 hown hK hP 0 rfl rfl 5 (by decide) (hts (.fieldLink RX6 167 "ChargeEstimatorModel" "anchorsMade" "I") (List.mem_of_getElem? (i := 2) rfl)) (fun _ h9 => h9) rfl dX6_repeat_81 ?_
            have e9 : xj = xn := by omega
            rw [e9] at hP
            have hP8 := hP
            have hP9 : va_P D vwCl (zmod cs o (zRp A xi xv xt xn.toNat) (zSvF S A xsm) T (zm4 xsm) 0 (zRc A xi xv xt xn.toNat) f xtl xpl g) H := hP8
            have hD9 : va_D A0 (zmod cs o (zRp A xi xv xt xn.toNat) (zSvF S A xsm) T (zm4 xsm) 0 (zRc A xi xv xt xn.toNat) f xtl xpl g) := zD_addr hD rfl
            subst hAe
            exact W.iret hx hb hr (fun t ht hW => ⟨⟨_, (), rfl, (congrArg zI (show zRc A xi xv xt xj.toNat = zRc A xi xv xt xn.toNat from by rw [e9])), by rw [ht]; exact hP9, hD9⟩, hS.F ht⟩) hS.2.2 dX6_repeat_84
          · refine lv_iload hx hb dX6_repeat_59 (lv_at hl 1 rfl) ?_
            refine lv_aload_n hx hb dX6_repeat_61 rfl (lv_at hl 3 rfl) ?_
            refine lv_iload_n hx hb dX6_repeat_62 rfl (lv_at hl 4 rfl) ?_
            refine zr_i2l hx hb dX6_repeat_63 (by omega) ?_
            refine lv_iload_n hx hb dX6_repeat_64 rfl (lv_at hl 5 rfl) ?_
            refine zr_i2l hx hb dX6_repeat_65 (by omega) ?_
            refine lv_iload_n hx hb dX6_repeat_66 rfl (lv_at hl 6 rfl) ?_
            refine zr_i2l hx hb dX6_repeat_67 (by omega) ?_
            refine zc_i (va_runV (As := [.long (zL xi), .long (zL xv), .long (zL xt)]) (rest := [.int (zI xb)]) ⟨hx, hb, hml, hown, hts⟩ (met_X6_treats l D cs o H.size (zRp A xi xv xt xj.toNat) (zSvF S A xsm) T (zm4 xsm) 0 (zRc A xi xv xt xj.toNat) f xtl xpl g _ xi xv xt (by exact hj) (by omega) (by omega) (by first | assumption | omega) (by first | assumption | omega) (by first | assumption | omega)) (cwV 3 hts gX6_repeat_X6_treats rfl rfl rfl (by decide +kernel) ⟨Nat.le_of_ble_eq_true rfl, Nat.le_of_ble_eq_true rfl⟩) ⟨zPreZ.blind, va_recv hK hP (ci := 6) (q0 := 0) rfl rfl, fun U hU hW => zp_Z hP hK hD hN hU hW⟩ rfl rfl hl.1 rfl (lv_room (Nat.le_of_ble_eq_true rfl)) dX6_repeat_68 ⟨Nat.le_of_ble_eq_true rfl, Nat.le_of_ble_eq_true rfl⟩) hS hD hA (fun H locs hP hD hS => ?_)
            have hbr := zBits_r (zRp A xi xv xt xj.toNat) xi xv xt
            refine zr_ior hx hb dX6_repeat_71 (by omega) (by omega) ?_
            refine lv_istore (lv' := [(5, .int (zI (zOr xb (zBits (zRp A xi xv xt xj.toNat) xi xv xt)))), (6, .int (zI xj)), (4, .int (zI xn)), (0, .ref (o 0)), (1, .int (zI xi)), (2, .int (zI xv)), (3, .int (zI xt))]) hx hb dX6_repeat_72 hl (by decide) rfl (fun ls hl => ?_)
            refine zr_iinc (kk := 1) (lv' := [(6, .int (zI (xj + 1))), (5, .int (zI (zOr xb (zBits (zRp A xi xv xt xj.toNat) xi xv xt)))), (4, .int (zI xn)), (0, .ref (o 0)), (1, .int (zI xi)), (2, .int (zI xv)), (3, .int (zI xt))]) hx hb dX6_repeat_74 hl rfl (by decide) rfl (fun ls hl => ?_)
            refine lv_goto (tgt := 52) hx hb dX6_repeat_77 (by decide) ?_
            exact ih (xj + 1) (zOr xb (zBits (zRp A xi xv xt xj.toNat) xi xv xt)) (by omega) (by first | decide | exact zOr_r jb (zBits_r _ _ _ _)) (by omega) _ _ (by rw [ztn xj (by omega)]; exact hP) (zD_addr hD rfl) hS _ (lv_sub hl [0, 1, 2, 3, 4, 5, 6] rfl)
      · first | exact absurd c5 (by decide) | exact absurd (by decide) c5
set_option maxHeartbeats 4000000 in
set_option maxRecDepth 100000 in
theorem met_X6_repeat_no1 (l : Launch) (D : va_G) (cs : Nat → ClassId) (o : Nat → Nat) (sz : Nat) (A S T : Int → Int) (xsm xth xam : Int) (f : Int → Int) (xtl xpl : Int) (g : Int → Int) (xi xv xt xn : Int) (rxi : -2147483648 ≤ xi ∧ xi ≤ 2147483647) (rxv : -2147483648 ≤ xv ∧ xv ≤ 2147483647) (rxt : -2147483648 ≤ xt ∧ xt ≤ 2147483647) (rxn : -2147483648 ≤ xn ∧ xn ≤ 2147483647) (kno : ¬ (((-50000 ≤ xi ∧ xi ≤ 50000) ∧ (0 ≤ xv ∧ xv ≤ 6000) ∧ 1 ≤ xt ∧ xt ≤ 600) ∧ 0 ≤ xn ∧ xn ≤ 500)) : Met l yX6_repeat wsX6_repeat ({ frames := 2, cells := 0, slots := 0, locals := 47 }) (va_Pc [.ref (o 0), .int (zI xi), .int (zI xv), .int (zI xt), .int (zI xn)] (zPreZ D (zTy cs) (zmod cs o A S T xsm xth xam f xtl xpl g) sz)) (zQi D (zmod cs o A S T xsm xth xam f xtl xpl g) sz (zI (0)) (zmod cs o A S T xsm 1 xam f xtl xpl g)) 0 0 (va_A (zmod cs o A S T xsm xth xam f xtl xpl g) sz) := by
  refine Met.ofW (cc := cX6_repeat) (maxL := 7) (ret := (some .int)) (by decide) rfl ?_
  intro p e s m args below meth c s₁ B hml hv
  obtain ⟨rfl, hsz, hP, hK, hD0, hN⟩ := hv
  have hx := B.exec
  have hb := B.bytes
  have hr := B.returns
  have hts := atoms_spec (ws := wsX6_repeat) B.pre
  have hown : s.vm.findClass RX6 = some m.cls := findClass_of_methodNamed B.named
  have hlocks := B.notSynchronized
  subst hsz
  obtain ⟨A0, hAe⟩ : ∃ A0, A0 = va_A (zmod cs o A S T xsm xth xam f xtl xpl g) s.heap.size := ⟨_, rfl⟩
  have hD := hD0.self (sz := s.heap.size)
  rw [← hAe] at hD
  have hA : ∀ q : Nat, s.heap.size ≤ q → A0 q := fun q h => by rw [hAe]; exact Or.inr h
  have hS : va_S A0 s.heap s.heap [] := va_S.rf
  have hP : va_P D vwCl (zmod cs o A S T xsm xth xam f xtl xpl g) s.heap := hP
  have hl := lv_entry ([.ref (o 0), .int (zI xi), .int (zI xv), .int (zI xt), .int (zI xn)]) (n := 7) (Nat.le_of_ble_eq_true rfl)
  rw [lg_entry_eq]
  generalize (lg_sl ([.ref (o 0), .int (zI xi), .int (zI xv), .int (zI xt), .int (zI xn)]) ++ List.replicate (7 - (lg_sl ([.ref (o 0), .int (zI xi), .int (zI xv), .int (zI xt), .int (zI xn)])).length) Slot.unset).toArray = ls at hl ⊢
  have hl : lv_has ls 7 [(0, .ref (o 0)), (1, .int (zI xi)), (2, .int (zI xv)), (3, .int (zI xt)), (4, .int (zI xn))] := hl
  refine lv_aload_n hx hb dX6_repeat_0 rfl (lv_at hl 0 rfl) ?_
  refine lv_iload_n hx hb dX6_repeat_1 rfl (lv_at hl 1 rfl) ?_
  refine lv_iload_n hx hb dX6_repeat_2 rfl (lv_at hl 2 rfl) ?_
  refine lv_iload_n hx hb dX6_repeat_3 rfl (lv_at hl 3 rfl) ?_
  refine zc_ri (va_runS (As := [.int (zI xi), .int (zI xv), .int (zI xt)]) (rest := [.ref (o 0)]) ⟨hx, hb, hml, hown, hts⟩ (met_X6_isMeasurement l xi xv xt (by first | assumption | omega) (by first | assumption | omega) (by first | assumption | omega)) (va_cwS 3 hts gX6_repeat_X6_isMeasurement rfl rfl rfl (by decide +kernel) ⟨Nat.le_of_ble_eq_true rfl, Nat.le_of_ble_eq_true rfl⟩) ⟨zTrue.blind, fun U hU hW => ⟨rfl, trivial⟩⟩ rfl rfl hl.1 rfl (lv_room (Nat.le_of_ble_eq_true rfl)) dX6_repeat_4 ⟨Nat.le_of_ble_eq_true rfl, Nat.le_of_ble_eq_true rfl⟩) ?_
  refine zr_ifb_eq (tgt := 27) hx hb dX6_repeat_7 (by decide) (fun c1 => ?_) (fun c1 => ?_)
  · refine zr_iconst hx hb dX6_repeat_27 ?_
    refine zr_iconst hx hb dX6_repeat_28 ?_
    refine zc_i (va_runV (As := [.int (zI 0), .int (zI 1)]) (rest := []) ⟨hx, hb, hml, hown, hts⟩ (met_X6_goes l D cs o s.heap.size A S T xsm xth xam f xtl xpl g False True ) (cwV 2 hts gX6_repeat_X6_goes rfl rfl rfl (by decide +kernel) ⟨Nat.le_of_ble_eq_true rfl, Nat.le_of_ble_eq_true rfl⟩) ⟨zPreZ.blind, va_recv hK hP (ci := 6) (q0 := 0) rfl rfl, fun U hU hW => zp_Z hP hK hD hN hU hW⟩ rfl rfl hl.1 rfl (lv_room (Nat.le_of_ble_eq_true rfl)) dX6_repeat_29 ⟨Nat.le_of_ble_eq_true rfl, Nat.le_of_ble_eq_true rfl⟩) hS hD hA (fun H locs hP hD hS => ?_)
    have hP : va_P D vwCl (zmod cs o A S T xsm 1 xam f xtl xpl g) H := by rw [show zGo False True = 1 from zGo_1 (by first | trivial | omega | (simp only [not_true, not_false_eq_true]) | (intro h; omega))] at hP; exact hP
    have hD : va_D A0 (zmod cs o A S T xsm 1 xam f xtl xpl g) := zD_addr hD rfl
    refine zr_ifb_ne (tgt := 37) hx hb dX6_repeat_32 (by decide) (fun c2 => ?_) (fun c2 => ?_)
    · first | exact absurd c2 (by decide) | exact absurd (by decide) c2
    · refine zr_iconst hx hb dX6_repeat_35 ?_
      have hP9 : va_P D vwCl (zmod cs o A S T xsm 1 xam f xtl xpl g) H := hP
      have hD9 : va_D A0 (zmod cs o A S T xsm 1 xam f xtl xpl g) := zD_addr hD rfl
      subst hAe
      exact W.iret hx hb hr (fun t ht hW => ⟨⟨_, (), rfl, (congrArg zI (show 0 = 0 from by rfl)), by rw [ht]; exact hP9, hD9⟩, hS.F ht⟩) hS.2.2 dX6_repeat_36
  · refine lv_iload hx hb dX6_repeat_10 (lv_at hl 4 rfl) ?_
    refine zr_i2l hx hb dX6_repeat_12 (by omega) ?_
    refine zr_lconst0 hx hb dX6_repeat_13 ?_
    refine zr_ldc2 (n := 500) hx hb hown (hts (.constantLong RX6 28 (500)) (List.mem_of_getElem? (i := 1) rfl)) rfl dX6_repeat_14 ?_
    refine zc_ri (va_runS (As := [.long (zL xn), .long (zL 0), .long (zL 500)]) (rest := [.ref (o 0)]) ⟨hx, hb, hml, hown, hts⟩ (met_X6_in l xn 0 500 (by first | assumption | omega) (by first | assumption | omega) (by first | assumption | omega)) (va_cwS 3 hts gX6_repeat_X6_in rfl rfl rfl (by decide +kernel) ⟨Nat.le_of_ble_eq_true rfl, Nat.le_of_ble_eq_true rfl⟩) ⟨zTrue.blind, fun U hU hW => ⟨rfl, trivial⟩⟩ rfl rfl hl.1 rfl (lv_room (Nat.le_of_ble_eq_true rfl)) dX6_repeat_17 ⟨Nat.le_of_ble_eq_true rfl, Nat.le_of_ble_eq_true rfl⟩) ?_
    refine zr_ifb_eq (tgt := 27) hx hb dX6_repeat_20 (by decide) (fun c3 => ?_) (fun c3 => ?_)
    · refine zr_iconst hx hb dX6_repeat_27 ?_
      refine zr_iconst hx hb dX6_repeat_28 ?_
      refine zc_i (va_runV (As := [.int (zI 0), .int (zI 1)]) (rest := []) ⟨hx, hb, hml, hown, hts⟩ (met_X6_goes l D cs o s.heap.size A S T xsm xth xam f xtl xpl g False True ) (cwV 2 hts gX6_repeat_X6_goes rfl rfl rfl (by decide +kernel) ⟨Nat.le_of_ble_eq_true rfl, Nat.le_of_ble_eq_true rfl⟩) ⟨zPreZ.blind, va_recv hK hP (ci := 6) (q0 := 0) rfl rfl, fun U hU hW => zp_Z hP hK hD hN hU hW⟩ rfl rfl hl.1 rfl (lv_room (Nat.le_of_ble_eq_true rfl)) dX6_repeat_29 ⟨Nat.le_of_ble_eq_true rfl, Nat.le_of_ble_eq_true rfl⟩) hS hD hA (fun H locs hP hD hS => ?_)
      have hP : va_P D vwCl (zmod cs o A S T xsm 1 xam f xtl xpl g) H := by rw [show zGo False True = 1 from zGo_1 (by first | trivial | omega | (simp only [not_true, not_false_eq_true]) | (intro h; omega))] at hP; exact hP
      have hD : va_D A0 (zmod cs o A S T xsm 1 xam f xtl xpl g) := zD_addr hD rfl
      refine zr_ifb_ne (tgt := 37) hx hb dX6_repeat_32 (by decide) (fun c4 => ?_) (fun c4 => ?_)
      · first | exact absurd c4 (by decide) | exact absurd (by decide) c4
      · refine zr_iconst hx hb dX6_repeat_35 ?_
        have hP9 : va_P D vwCl (zmod cs o A S T xsm 1 xam f xtl xpl g) H := hP
        have hD9 : va_D A0 (zmod cs o A S T xsm 1 xam f xtl xpl g) := zD_addr hD rfl
        subst hAe
        exact W.iret hx hb hr (fun t ht hW => ⟨⟨_, (), rfl, (congrArg zI (show 0 = 0 from by rfl)), by rw [ht]; exact hP9, hD9⟩, hS.F ht⟩) hS.2.2 dX6_repeat_36
    · refine zr_iconst hx hb dX6_repeat_23 ?_
      refine lv_goto (tgt := 28) hx hb dX6_repeat_24 (by decide) ?_
      refine zr_iconst hx hb dX6_repeat_28 ?_
      refine zc_i (va_runV (As := [.int (zI 1), .int (zI 1)]) (rest := []) ⟨hx, hb, hml, hown, hts⟩ (met_X6_goes l D cs o s.heap.size A S T xsm xth xam f xtl xpl g True True ) (cwV 2 hts gX6_repeat_X6_goes rfl rfl rfl (by decide +kernel) ⟨Nat.le_of_ble_eq_true rfl, Nat.le_of_ble_eq_true rfl⟩) ⟨zPreZ.blind, va_recv hK hP (ci := 6) (q0 := 0) rfl rfl, fun U hU hW => zp_Z hP hK hD hN hU hW⟩ rfl rfl hl.1 rfl (lv_room (Nat.le_of_ble_eq_true rfl)) dX6_repeat_29 ⟨Nat.le_of_ble_eq_true rfl, Nat.le_of_ble_eq_true rfl⟩) hS hD hA (fun H locs hP hD hS => ?_)
      have hP : va_P D vwCl (zmod cs o A S T xsm 1 xam f xtl xpl g) H := by rw [show zGo True True = 1 from zGo_1 (by first | trivial | omega | (simp only [not_true, not_false_eq_true]) | (intro h; omega))] at hP; exact hP
      have hD : va_D A0 (zmod cs o A S T xsm 1 xam f xtl xpl g) := zD_addr hD rfl
      refine zr_ifb_ne (tgt := 37) hx hb dX6_repeat_32 (by decide) (fun c5 => ?_) (fun c5 => ?_)
      · exfalso; first | omega | (simp only [and_true, true_and] at c5; omega) | exact c5.2.elim
      · first | exact absurd c5 (by decide) | exact absurd (by decide) c5
set_option maxHeartbeats 4000000 in
set_option maxRecDepth 100000 in
theorem met_X6_models (l : Launch) (D : va_G) (cs : Nat → ClassId) (o : Nat → Nat) (sz : Nat) (A S T : Int → Int) (xsm xth xam : Int) (f : Int → Int) (xtl xpl : Int) (g : Int → Int) (n : Int) (xi xt xr xn : Int) (hI : zOK n A) (hn : 0 ≤ n ∧ n ≤ 3100000) (kn6 : n ≤ 3090000) (kxi : -50000 ≤ xi ∧ xi ≤ 50000) (kxt : 1 ≤ xt ∧ xt ≤ 600) (kxr : 0 ≤ xr ∧ xr ≤ 1000) (kxn : 0 ≤ xn ∧ xn ≤ 500) : Met l yX6_models wsX6_models ({ frames := 5, cells := 0, slots := 0, locals := 137 }) (va_Pc [.ref (o 0), .long (zL xi), .long (zL xt), .long (zL xr), .int (zI xn)] (zPreZ D (zTy cs) (zmod cs o A S T xsm xth xam f xtl xpl g) sz)) (zQi D (zmod cs o A S T xsm xth xam f xtl xpl g) sz (zI (zMb A xi xt xr xn.toNat)) (zmod cs o (zMp A xi xt xr xn.toNat) S T xsm xth (zMc A xi xt xr xn.toNat) f xtl xpl g)) 0 0 (va_A (zmod cs o A S T xsm xth xam f xtl xpl g) sz) := by
  refine Met.ofW (cc := cX6_models) (maxL := 12) (ret := (some .int)) (by decide) rfl ?_
  intro p e s m args below meth c s₁ B hml hv
  obtain ⟨rfl, hsz, hP, hK, hD0, hN⟩ := hv
  have hx := B.exec
  have hb := B.bytes
  have hr := B.returns
  have hts := atoms_spec (ws := wsX6_models) B.pre
  have hown : s.vm.findClass RX6 = some m.cls := findClass_of_methodNamed B.named
  have hlocks := B.notSynchronized
  subst hsz
  obtain ⟨A0, hAe⟩ : ∃ A0, A0 = va_A (zmod cs o A S T xsm xth xam f xtl xpl g) s.heap.size := ⟨_, rfl⟩
  have hD := hD0.self (sz := s.heap.size)
  rw [← hAe] at hD
  have hA : ∀ q : Nat, s.heap.size ≤ q → A0 q := fun q h => by rw [hAe]; exact Or.inr h
  have hS : va_S A0 s.heap s.heap [] := va_S.rf
  have hP : va_P D vwCl (zmod cs o A S T xsm xth xam f xtl xpl g) s.heap := hP
  have hl := lv_entry ([.ref (o 0), .long (zL xi), .long (zL xt), .long (zL xr), .int (zI xn)]) (n := 12) (Nat.le_of_ble_eq_true rfl)
  rw [lg_entry_eq]
  generalize (lg_sl ([.ref (o 0), .long (zL xi), .long (zL xt), .long (zL xr), .int (zI xn)]) ++ List.replicate (12 - (lg_sl ([.ref (o 0), .long (zL xi), .long (zL xt), .long (zL xr), .int (zI xn)])).length) Slot.unset).toArray = ls at hl ⊢
  have hl : lv_has ls 12 [(0, .ref (o 0)), (1, .long (zL xi)), (3, .long (zL xt)), (5, .long (zL xr)), (7, .int (zI xn))] := hl
  have hiX6 : ∀ w ∈ wsX60, w ∈ wsX6_models := by decide +kernel
  refine lv_aload_n hx hb dX6_models_0 rfl (lv_at hl 0 rfl) ?_
  refine zr_iconst hx hb dX6_models_1 ?_
  refine va_put (D := D) (ci := 6) (v := .int (zI 0)) (ty := .int) (C := RX6) (T := TX6) (N := 10) hx hb hts hiX6 tyX6 tyX6_ok nmX6 hown hK hP hD hS 0 rfl rfl 5 (by decide) (hts (.fieldLink RX6 167 "ChargeEstimatorModel" "anchorsMade" "I") (List.mem_of_getElem? (i := 1) rfl)) (fun _ h9 => h9) rfl (by decide +kernel) rfl rfl (Nat.le_of_ble_eq_true rfl) dX6_models_2 (fun H locs hP hD hS => ?_)
  have hP : va_P D vwCl (zmod cs o A S T xsm xth 0 f xtl xpl g) H := hP
  have hD : va_D A0 (zmod cs o A S T xsm xth 0 f xtl xpl g) := zD_addr hD rfl
  refine zr_iconst hx hb dX6_models_5 ?_
  refine lv_istore (lv' := [(8, .int (zI 0)), (0, .ref (o 0)), (1, .long (zL xi)), (3, .long (zL xt)), (5, .long (zL xr)), (7, .int (zI xn))]) hx hb dX6_models_6 hl (by decide) rfl (fun ls hl => ?_)
  refine zr_iconst hx hb dX6_models_8 ?_
  refine lv_istore (lv' := [(9, .int (zI 0)), (8, .int (zI 0)), (0, .ref (o 0)), (1, .long (zL xi)), (3, .long (zL xt)), (5, .long (zL xr)), (7, .int (zI xn))]) hx hb dX6_models_9 hl (by decide) rfl (fun ls hl => ?_)
  suffices J_11 : ∀ (nn : Nat) (xj : Int) (xb : Int) (jj : 0 ≤ xj ∧ xj ≤ xn) (jbe : xb = zMb A xi xt xr xj.toNat) (hmu : xn - xj < (nn : Int)) (H : Heap) (locs : List Loc) (hP : va_P D vwCl (zmod cs o (zMp A xi xt xr xj.toNat) S T xsm xth (zMc A xi xt xr xj.toNat) f xtl xpl g) H) (hD : va_D A0 (zmod cs o (zMp A xi xt xr xj.toNat) S T xsm xth (zMc A xi xt xr xj.toNat) f xtl xpl g)) (hS : va_S A0 s.heap H locs) (ls : Array Slot) (hl : lv_has ls 12 [(9, .int (zI xj)), (8, .int (zI xb)), (7, .int (zI xn)), (0, .ref (o 0)), (1, .long (zL xi)), (3, .long (zL xt)), (5, .long (zL xr))]), W p l e (headSpec wsX6_models ({ frames := 5, cells := 0, slots := 0, locals := 137 })).room s m ([.ref (o 0), .long (zL xi), .long (zL xt), .long (zL xr), .int (zI xn)] : List Value).toArray below meth c H locs 0 0 (MQ below (zQi D (zmod cs o A S T xsm xth xam f xtl xpl g) s.heap.size (zI (zMb A xi xt xr xn.toNat)) (zmod cs o (zMp A xi xt xr xn.toNat) S T xsm xth (zMc A xi xt xr xn.toNat) f xtl xpl g)) ([.ref (o 0), .long (zL xi), .long (zL xt), .long (zL xr), .int (zI xn)] : List Value).toArray s 0 0 (va_A (zmod cs o A S T xsm xth xam f xtl xpl g) s.heap.size)) (F0 m 11 ls []) by
    exact J_11 (((xn - 0) : Int).toNat + 1) 0 0 (by omega) (by first | rfl | (rw [ztn xj (by omega), jbe]; rfl)) (by have : (0 : Int) ≤ xn - 0 := (by omega); omega) _ _ (by exact hP) (zD_addr hD rfl) hS _ (lv_sub hl [0, 1, 6, 2, 3, 4, 5] rfl)
  intro nn
  induction nn with
  | zero => intro xj xb jj jbe hmu; exfalso; have : (0 : Int) ≤ xn - xj := (by omega); omega
  | succ nn ih =>
    intro xj xb jj jbe hmu H locs hP hD hS ls hl
    have hj := zOK_mp (r := xr) hI hn.1 kxi kxt xj.toNat (by omega)
    have jq := zOK_q hj
    have jC := zOK_C hj
    have jq3 := jq.2.2.1
    have js := zsoc_r hj (x := zMp A xi xt xr xj.toNat 34) (by omega)
    have jh := zHys_r hj
    have jv := zV_r (zOK_c hj) js jh
    have jm := zmul_s (x := xi) (y := xr) (a := 50000) (b := 1000) (by omega) (by omega)
    have jb := zMb_r A xi xt xr xj.toNat
    rw [← jbe] at jb
    have jd := zMod_r (n := n) (A := zMp A xi xt xr xj.toNat) xi xr
    have jt := zBits_r (zMp A xi xt xr xj.toNat) xi (zMod (zMp A xi xt xr xj.toNat) xi xr) xt
    refine lv_iload hx hb dX6_models_11 (lv_at hl 0 rfl) ?_
    refine lv_iload hx hb dX6_models_13 (lv_at hl 2 rfl) ?_
    refine zr_icmp_ge (tgt := 70) hx hb dX6_models_15 (by decide) (by omega) (by omega) (fun c1 => ?_) (fun c1 => ?_)
    · refine lv_iload hx hb dX6_models_70 (lv_at hl 1 rfl) ?_
      have e9 : xn = xj := by omega
      subst e9
      have hP8 := hP
      have hP9 : va_P D vwCl (zmod cs o (zMp A xi xt xr xn.toNat) S T xsm xth (zMc A xi xt xr xn.toNat) f xtl xpl g) H := hP8
      have hD9 : va_D A0 (zmod cs o (zMp A xi xt xr xn.toNat) S T xsm xth (zMc A xi xt xr xn.toNat) f xtl xpl g) := zD_addr hD rfl
      subst hAe
      exact W.iret hx hb hr (fun t ht hW => ⟨⟨_, (), rfl, (congrArg zI (show xb = zMb A xi xt xr xn.toNat from by exact jbe)), by rw [ht]; exact hP9, hD9⟩, hS.F ht⟩) hS.2.2 dX6_models_72
    · refine lv_aload_n hx hb dX6_models_18 rfl (lv_at hl 3 rfl) ?_
      refine lv_aload_n hx hb dX6_models_19 rfl (lv_at hl 3 rfl) ?_
      refine zr_iconst hx hb dX6_models_20 ?_
      refine zc_ri (va_runV (As := [.int (zI 0)]) (rest := [.ref (o 0)]) ⟨hx, hb, hml, hown, hts⟩ (met_X6_socOf l D cs o (zMp A xi xt xr xj.toNat) S T xsm xth (zMc A xi xt xr xj.toNat) f xtl xpl g _ 0 (by exact hj) (by omega) (by first | assumption | omega)) (cwV 1 hts gX6_models_X6_socOf rfl rfl rfl (by decide +kernel) ⟨Nat.le_of_ble_eq_true rfl, Nat.le_of_ble_eq_true rfl⟩) ⟨zPre.blind, va_recv hK hP (ci := 6) (q0 := 0) rfl rfl, fun U hU hW => zp_R hP hK hD hN hU hW⟩ rfl rfl hl.1 rfl (lv_room (Nat.le_of_ble_eq_true rfl)) dX6_models_21 ⟨Nat.le_of_ble_eq_true rfl, Nat.le_of_ble_eq_true rfl⟩) ?_
      refine zr_topi (b := zMp A xi xt xr xj.toNat 34 * 10000 / zMp A xi xt xr xj.toNat 37) (by rfl) ?_
      refine lv_aload_n hx hb dX6_models_24 rfl (lv_at hl 3 rfl) ?_
      refine zc_rl (va_runV (As := []) (rest := [.int (zI (zMp A xi xt xr xj.toNat 34 * 10000 / zMp A xi xt xr xj.toNat 37)), .ref (o 0)]) ⟨hx, hb, hml, hown, hts⟩ (met_X6_hysteresis l D cs o (zMp A xi xt xr xj.toNat) S T xsm xth (zMc A xi xt xr xj.toNat) f xtl xpl g _ (by exact hj) (by omega)) (cwV 0 hts gX6_models_X6_hysteresis rfl rfl rfl (by decide +kernel) ⟨Nat.le_of_ble_eq_true rfl, Nat.le_of_ble_eq_true rfl⟩) ⟨zPre.blind, va_recv hK hP (ci := 6) (q0 := 0) rfl rfl, fun U hU hW => zp_R hP hK hD hN hU hW⟩ rfl rfl hl.1 rfl (lv_room (Nat.le_of_ble_eq_true rfl)) dX6_models_25 ⟨Nat.le_of_ble_eq_true rfl, Nat.le_of_ble_eq_true rfl⟩) ?_
      refine zc_rl (va_runV (As := [.int (zI (zMp A xi xt xr xj.toNat 34 * 10000 / zMp A xi xt xr xj.toNat 37)), .long (zL (zHys (zMp A xi xt xr xj.toNat)))]) (rest := []) ⟨hx, hb, hml, hown, hts⟩ (met_X6_voltage l D cs o (zMp A xi xt xr xj.toNat) S T xsm xth (zMc A xi xt xr xj.toNat) f xtl xpl g _ (zMp A xi xt xr xj.toNat 34 * 10000 / zMp A xi xt xr xj.toNat 37) (zHys (zMp A xi xt xr xj.toNat)) (by exact hj) (by omega) (by first | assumption | omega) (by first | assumption | omega)) (cwV 2 hts gX6_models_X6_voltage rfl rfl rfl (by decide +kernel) ⟨Nat.le_of_ble_eq_true rfl, Nat.le_of_ble_eq_true rfl⟩) ⟨zPre.blind, va_recv hK hP (ci := 6) (q0 := 0) rfl rfl, fun U hU hW => zp_R hP hK hD hN hU hW⟩ rfl rfl hl.1 rfl (lv_room (Nat.le_of_ble_eq_true rfl)) dX6_models_28 ⟨Nat.le_of_ble_eq_true rfl, Nat.le_of_ble_eq_true rfl⟩) ?_
      refine lv_lload_n hx hb dX6_models_31 rfl (lv_at hl 4 rfl) ?_
      refine lv_lload hx hb dX6_models_32 (lv_at hl 6 rfl) ?_
      refine zr_lmul hx hb dX6_models_34 ?_
      refine zr_ldc2 (n := 1000) hx hb hown (hts (.constantLong RX6 114 (1000)) (List.mem_of_getElem? (i := 2) rfl)) rfl dX6_models_35 ?_
      refine zc_rl (va_runS (As := [.long (zL (xi * xr)), .long (zL 1000)]) (rest := [.long (zL (zV (zMp A xi xt xr xj.toNat) (zMp A xi xt xr xj.toNat 34 * 10000 / zMp A xi xt xr xj.toNat 37) (zHys (zMp A xi xt xr xj.toNat))))]) ⟨hx, hb, hml, hown, hts⟩ (met_X6_floor l (xi * xr) 1000 (by first | assumption | omega) (by first | assumption | omega)) (va_cwS 2 hts gX6_models_X6_floor rfl rfl rfl (by decide +kernel) ⟨Nat.le_of_ble_eq_true rfl, Nat.le_of_ble_eq_true rfl⟩) ⟨zTrue.blind, fun U hU hW => ⟨rfl, trivial⟩⟩ rfl rfl hl.1 rfl (lv_room (Nat.le_of_ble_eq_true rfl)) dX6_models_38 ⟨Nat.le_of_ble_eq_true rfl, Nat.le_of_ble_eq_true rfl⟩) ?_
      refine zr_ladd hx hb dX6_models_41 ?_
      refine lv_lstore (lv' := [(10, .long (zL ((zV (zMp A xi xt xr xj.toNat) (zMp A xi xt xr xj.toNat 34 * 10000 / zMp A xi xt xr xj.toNat 37) (zHys (zMp A xi xt xr xj.toNat))) + ((xi * xr) / 1000)))), (9, .int (zI xj)), (8, .int (zI xb)), (7, .int (zI xn)), (0, .ref (o 0)), (1, .long (zL xi)), (3, .long (zL xt)), (5, .long (zL xr))]) hx hb dX6_models_42 hl (by decide) rfl (fun ls hl => ?_)
      refine lv_iload hx hb dX6_models_44 (lv_at hl 2 rfl) ?_
      refine lv_aload_n hx hb dX6_models_46 rfl (lv_at hl 4 rfl) ?_
      refine lv_lload_n hx hb dX6_models_47 rfl (lv_at hl 5 rfl) ?_
      refine lv_lload hx hb dX6_models_48 (lv_at hl 0 rfl) ?_
      refine zr_lconst0 hx hb dX6_models_50 ?_
      refine zr_ldc2 (n := 6000) hx hb hown (hts (.constantLong RX6 143 (6000)) (List.mem_of_getElem? (i := 3) rfl)) rfl dX6_models_51 ?_
      refine zc_rl (va_runS (As := [.long (zL ((zV (zMp A xi xt xr xj.toNat) (zMp A xi xt xr xj.toNat 34 * 10000 / zMp A xi xt xr xj.toNat 37) (zHys (zMp A xi xt xr xj.toNat))) + ((xi * xr) / 1000))), .long (zL 0), .long (zL 6000)]) (rest := [.long (zL xi), .ref (o 0), .int (zI xb)]) ⟨hx, hb, hml, hown, hts⟩ (met_X6_clamp l ((zV (zMp A xi xt xr xj.toNat) (zMp A xi xt xr xj.toNat 34 * 10000 / zMp A xi xt xr xj.toNat 37) (zHys (zMp A xi xt xr xj.toNat))) + ((xi * xr) / 1000)) 0 6000 (by first | assumption | omega) (by first | assumption | omega) (by first | assumption | omega)) (va_cwS 3 hts gX6_models_X6_clamp rfl rfl rfl (by decide +kernel) ⟨Nat.le_of_ble_eq_true rfl, Nat.le_of_ble_eq_true rfl⟩) ⟨zTrue.blind, fun U hU hW => ⟨rfl, trivial⟩⟩ rfl rfl hl.1 rfl (lv_room (Nat.le_of_ble_eq_true rfl)) dX6_models_54 ⟨Nat.le_of_ble_eq_true rfl, Nat.le_of_ble_eq_true rfl⟩) ?_
      refine zr_topl (b := zMod (zMp A xi xt xr xj.toNat) xi xr) (by rfl) ?_
      refine lv_lload_n hx hb dX6_models_57 rfl (lv_at hl 6 rfl) ?_
      refine zc_i (va_runV (As := [.long (zL xi), .long (zL (zMod (zMp A xi xt xr xj.toNat) xi xr)), .long (zL xt)]) (rest := [.int (zI xb)]) ⟨hx, hb, hml, hown, hts⟩ (met_X6_treats l D cs o H.size (zMp A xi xt xr xj.toNat) S T xsm xth (zMc A xi xt xr xj.toNat) f xtl xpl g _ xi (zMod (zMp A xi xt xr xj.toNat) xi xr) xt (by exact hj) (by omega) (by omega) (by first | assumption | omega) (by first | assumption | omega) (by first | assumption | omega)) (cwV 3 hts gX6_models_X6_treats rfl rfl rfl (by decide +kernel) ⟨Nat.le_of_ble_eq_true rfl, Nat.le_of_ble_eq_true rfl⟩) ⟨zPreZ.blind, va_recv hK hP (ci := 6) (q0 := 0) rfl rfl, fun U hU hW => zp_Z hP hK hD hN hU hW⟩ rfl rfl hl.1 rfl (lv_room (Nat.le_of_ble_eq_true rfl)) dX6_models_58 ⟨Nat.le_of_ble_eq_true rfl, Nat.le_of_ble_eq_true rfl⟩) hS hD hA (fun H locs hP hD hS => ?_)
      refine zr_ior hx hb dX6_models_61 (by omega) (by omega) ?_
      refine lv_istore (lv' := [(8, .int (zI (zOr xb (zBits (zMp A xi xt xr xj.toNat) xi (zMod (zMp A xi xt xr xj.toNat) xi xr) xt)))), (10, .long (zL ((zV (zMp A xi xt xr xj.toNat) (zMp A xi xt xr xj.toNat 34 * 10000 / zMp A xi xt xr xj.toNat 37) (zHys (zMp A xi xt xr xj.toNat))) + ((xi * xr) / 1000)))), (9, .int (zI xj)), (7, .int (zI xn)), (0, .ref (o 0)), (1, .long (zL xi)), (3, .long (zL xt)), (5, .long (zL xr))]) hx hb dX6_models_62 hl (by decide) rfl (fun ls hl => ?_)
      refine zr_iinc (kk := 2) (lv' := [(9, .int (zI (xj + 1))), (8, .int (zI (zOr xb (zBits (zMp A xi xt xr xj.toNat) xi (zMod (zMp A xi xt xr xj.toNat) xi xr) xt)))), (10, .long (zL ((zV (zMp A xi xt xr xj.toNat) (zMp A xi xt xr xj.toNat 34 * 10000 / zMp A xi xt xr xj.toNat 37) (zHys (zMp A xi xt xr xj.toNat))) + ((xi * xr) / 1000)))), (7, .int (zI xn)), (0, .ref (o 0)), (1, .long (zL xi)), (3, .long (zL xt)), (5, .long (zL xr))]) hx hb dX6_models_64 hl rfl (by decide) rfl (fun ls hl => ?_)
      refine lv_goto (tgt := 11) hx hb dX6_models_67 (by decide) ?_
      exact ih (xj + 1) (zOr xb (zBits (zMp A xi xt xr xj.toNat) xi (zMod (zMp A xi xt xr xj.toNat) xi xr) xt)) (by omega) (by first | rfl | (rw [ztn xj (by omega), jbe]; rfl)) (by omega) _ _ (by rw [ztn xj (by omega)]; exact hP) (zD_addr hD rfl) hS _ (lv_sub hl [0, 1, 3, 4, 5, 6, 7] rfl)
set_option maxHeartbeats 4000000 in
set_option maxRecDepth 100000 in
theorem met_X6_simulate_ok (l : Launch) (D : va_G) (cs : Nat → ClassId) (o : Nat → Nat) (sz : Nat) (A S T : Int → Int) (xsm xth xam : Int) (f : Int → Int) (xtl xpl : Int) (g : Int → Int) (n : Int) (xi xt xr xn : Int) (hI : zOK n A) (hn : 0 ≤ n ∧ n ≤ 3100000) (kn6 : n ≤ 3090000) (ksm : 0 ≤ xsm ∧ xsm ≤ 4) (rxi : -2147483648 ≤ xi ∧ xi ≤ 2147483647) (rxt : -2147483648 ≤ xt ∧ xt ≤ 2147483647) (rxr : -2147483648 ≤ xr ∧ xr ≤ 2147483647) (rxn : -2147483648 ≤ xn ∧ xn ≤ 2147483647) (kok : ((-50000 ≤ xi ∧ xi ≤ 50000) ∧ (0 ≤ (0 : Int) ∧ (0 : Int) ≤ 6000) ∧ 1 ≤ xt ∧ xt ≤ 600) ∧ (0 ≤ xr ∧ xr ≤ 1000) ∧ 0 ≤ xn ∧ xn ≤ 500) : Met l yX6_simulate wsX6_simulate ({ frames := 6, cells := 0, slots := 0, locals := 168 }) (va_Pc [.ref (o 0), .int (zI xi), .int (zI xt), .int (zI xr), .int (zI xn)] (zPreZ D (zTy cs) (zmod cs o A S T xsm xth xam f xtl xpl g) sz)) (zQi D (zmod cs o A S T xsm xth xam f xtl xpl g) sz (zI (zMc A xi xt xr xn.toNat)) (zmod cs o (zMp A xi xt xr xn.toNat) (zSvF S A xsm) T (zm4 xsm) 0 (zMc A xi xt xr xn.toNat) f xtl xpl g)) 0 0 (va_A (zmod cs o A S T xsm xth xam f xtl xpl g) sz) := by
  refine Met.ofW (cc := cX6_simulate) (maxL := 6) (ret := (some .int)) (by decide) rfl ?_
  intro p e s m args below meth c s₁ B hml hv
  obtain ⟨rfl, hsz, hP, hK, hD0, hN⟩ := hv
  have hx := B.exec
  have hb := B.bytes
  have hr := B.returns
  have hts := atoms_spec (ws := wsX6_simulate) B.pre
  have hown : s.vm.findClass RX6 = some m.cls := findClass_of_methodNamed B.named
  have hlocks := B.notSynchronized
  subst hsz
  obtain ⟨A0, hAe⟩ : ∃ A0, A0 = va_A (zmod cs o A S T xsm xth xam f xtl xpl g) s.heap.size := ⟨_, rfl⟩
  have hD := hD0.self (sz := s.heap.size)
  rw [← hAe] at hD
  have hA : ∀ q : Nat, s.heap.size ≤ q → A0 q := fun q h => by rw [hAe]; exact Or.inr h
  have hS : va_S A0 s.heap s.heap [] := va_S.rf
  have hP : va_P D vwCl (zmod cs o A S T xsm xth xam f xtl xpl g) s.heap := hP
  have hl := lv_entry ([.ref (o 0), .int (zI xi), .int (zI xt), .int (zI xr), .int (zI xn)]) (n := 6) (Nat.le_of_ble_eq_true rfl)
  rw [lg_entry_eq]
  generalize (lg_sl ([.ref (o 0), .int (zI xi), .int (zI xt), .int (zI xr), .int (zI xn)]) ++ List.replicate (6 - (lg_sl ([.ref (o 0), .int (zI xi), .int (zI xt), .int (zI xr), .int (zI xn)])).length) Slot.unset).toArray = ls at hl ⊢
  have hl : lv_has ls 6 [(0, .ref (o 0)), (1, .int (zI xi)), (2, .int (zI xt)), (3, .int (zI xr)), (4, .int (zI xn))] := hl
  have hiX6 : ∀ w ∈ wsX60, w ∈ wsX6_simulate := by decide +kernel
  refine lv_aload_n hx hb dX6_simulate_0 rfl (lv_at hl 0 rfl) ?_
  refine lv_iload_n hx hb dX6_simulate_1 rfl (lv_at hl 1 rfl) ?_
  refine lv_iload_n hx hb dX6_simulate_2 rfl (lv_at hl 2 rfl) ?_
  refine lv_iload_n hx hb dX6_simulate_3 rfl (lv_at hl 3 rfl) ?_
  refine lv_iload hx hb dX6_simulate_4 (lv_at hl 4 rfl) ?_
  refine zc_ri (va_runS (As := [.int (zI xi), .int (zI xt), .int (zI xr), .int (zI xn)]) (rest := [.ref (o 0)]) ⟨hx, hb, hml, hown, hts⟩ (met_X6_isModel l xi xt xr xn (by first | assumption | omega) (by first | assumption | omega) (by first | assumption | omega) (by first | assumption | omega)) (va_cwS 4 hts gX6_simulate_X6_isModel rfl rfl rfl (by decide +kernel) ⟨Nat.le_of_ble_eq_true rfl, Nat.le_of_ble_eq_true rfl⟩) ⟨zTrue.blind, fun U hU hW => ⟨rfl, trivial⟩⟩ rfl rfl hl.1 rfl (lv_room (Nat.le_of_ble_eq_true rfl)) dX6_simulate_6 ⟨Nat.le_of_ble_eq_true rfl, Nat.le_of_ble_eq_true rfl⟩) ?_
  refine zr_iconst hx hb dX6_simulate_9 ?_
  refine zc_i (va_runV (As := [.int (zI (zB (((-50000 ≤ xi ∧ xi ≤ 50000) ∧ (0 ≤ (0 : Int) ∧ (0 : Int) ≤ 6000) ∧ 1 ≤ xt ∧ xt ≤ 600) ∧ (0 ≤ xr ∧ xr ≤ 1000) ∧ 0 ≤ xn ∧ xn ≤ 500))), .int (zI 1)]) (rest := []) ⟨hx, hb, hml, hown, hts⟩ (met_X6_goes l D cs o s.heap.size A S T xsm xth xam f xtl xpl g (((-50000 ≤ xi ∧ xi ≤ 50000) ∧ (0 ≤ (0 : Int) ∧ (0 : Int) ≤ 6000) ∧ 1 ≤ xt ∧ xt ≤ 600) ∧ (0 ≤ xr ∧ xr ≤ 1000) ∧ 0 ≤ xn ∧ xn ≤ 500) True ) (cwV 2 hts gX6_simulate_X6_goes rfl rfl rfl (by decide +kernel) ⟨Nat.le_of_ble_eq_true rfl, Nat.le_of_ble_eq_true rfl⟩) ⟨zPreZ.blind, va_recv hK hP (ci := 6) (q0 := 0) rfl rfl, fun U hU hW => zp_Z hP hK hD hN hU hW⟩ rfl rfl hl.1 rfl (lv_room (Nat.le_of_ble_eq_true rfl)) dX6_simulate_10 ⟨Nat.le_of_ble_eq_true rfl, Nat.le_of_ble_eq_true rfl⟩) hS hD hA (fun H locs hP hD hS => ?_)
  have hP : va_P D vwCl (zmod cs o A S T xsm 0 xam f xtl xpl g) H := by rw [show zGo (((-50000 ≤ xi ∧ xi ≤ 50000) ∧ (0 ≤ (0 : Int) ∧ (0 : Int) ≤ 6000) ∧ 1 ≤ xt ∧ xt ≤ 600) ∧ (0 ≤ xr ∧ xr ≤ 1000) ∧ 0 ≤ xn ∧ xn ≤ 500) True = 0 from zGo_0 (by first | trivial | omega | (simp only [not_true, not_false_eq_true]) | (intro h; omega)) (by first | trivial | omega | (simp only [not_true, not_false_eq_true]) | (intro h; omega))] at hP; exact hP
  have hD : va_D A0 (zmod cs o A S T xsm 0 xam f xtl xpl g) := zD_addr hD rfl
  refine zr_ifb_ne (tgt := 18) hx hb dX6_simulate_13 (by decide) (fun c1 => ?_) (fun c1 => ?_)
  · refine lv_aload_n hx hb dX6_simulate_18 rfl (lv_at hl 0 rfl) ?_
    refine zc_v (va_runV (As := []) (rest := []) ⟨hx, hb, hml, hown, hts⟩ (met_X6_save l D cs o H.size A S T xsm 0 xam f xtl xpl g (by first | assumption | omega)) (cwV 0 hts gX6_simulate_X6_save rfl rfl rfl (by decide +kernel) ⟨Nat.le_of_ble_eq_true rfl, Nat.le_of_ble_eq_true rfl⟩) ⟨zPreZ.blind, va_recv hK hP (ci := 6) (q0 := 0) rfl rfl, fun U hU hW => zp_Z hP hK hD hN hU hW⟩ rfl rfl hl.1 rfl (lv_room (Nat.le_of_ble_eq_true rfl)) dX6_simulate_19 ⟨Nat.le_of_ble_eq_true rfl, Nat.le_of_ble_eq_true rfl⟩) hS hD hA (fun H locs hP hD hS => ?_)
    refine lv_aload_n hx hb dX6_simulate_22 rfl (lv_at hl 0 rfl) ?_
    refine lv_iload_n hx hb dX6_simulate_23 rfl (lv_at hl 1 rfl) ?_
    refine zr_i2l hx hb dX6_simulate_24 (by omega) ?_
    refine lv_iload_n hx hb dX6_simulate_25 rfl (lv_at hl 2 rfl) ?_
    refine zr_i2l hx hb dX6_simulate_26 (by omega) ?_
    refine lv_iload_n hx hb dX6_simulate_27 rfl (lv_at hl 3 rfl) ?_
    refine zr_i2l hx hb dX6_simulate_28 (by omega) ?_
    refine lv_iload hx hb dX6_simulate_29 (lv_at hl 4 rfl) ?_
    refine zc_i (va_runV (As := [.long (zL xi), .long (zL xt), .long (zL xr), .int (zI xn)]) (rest := []) ⟨hx, hb, hml, hown, hts⟩ (met_X6_models l D cs o H.size A (zSvF S A xsm) T (zm4 xsm) 0 xam f xtl xpl g _ xi xt xr xn (by assumption) (by assumption) (by first | assumption | omega) (by first | assumption | omega) (by first | assumption | omega) (by first | assumption | omega) (by first | assumption | omega)) (cwV 4 hts gX6_simulate_X6_models rfl rfl rfl (by decide +kernel) ⟨Nat.le_of_ble_eq_true rfl, Nat.le_of_ble_eq_true rfl⟩) ⟨zPreZ.blind, va_recv hK hP (ci := 6) (q0 := 0) rfl rfl, fun U hU hW => zp_Z hP hK hD hN hU hW⟩ rfl rfl hl.1 rfl (lv_room (Nat.le_of_ble_eq_true rfl)) dX6_simulate_31 ⟨Nat.le_of_ble_eq_true rfl, Nat.le_of_ble_eq_true rfl⟩) hS hD hA (fun H locs hP hD hS => ?_)
    refine lv_istore (lv' := [(5, .int (zI (zMb A xi xt xr xn.toNat))), (0, .ref (o 0)), (1, .int (zI xi)), (2, .int (zI xt)), (3, .int (zI xr)), (4, .int (zI xn))]) hx hb dX6_simulate_34 hl (by decide) rfl (fun ls hl => ?_)
    refine lv_aload_n hx hb dX6_simulate_36 rfl (lv_at hl 1 rfl) ?_
    refine va_get (D := D) (ci := 6) (v := .int (zI (zMc A xi xt xr xn.toNat))) (C := RX6) (T := TX6) (N := 10) hx hb hts hiX6 hown hK hP 0 rfl rfl 5 (by decide) (hts (.fieldLink RX6 167 "ChargeEstimatorModel" "anchorsMade" "I") (List.mem_of_getElem? (i := 1) rfl)) (fun _ h9 => h9) rfl dX6_simulate_37 ?_
    have hP9 : va_P D vwCl (zmod cs o (zMp A xi xt xr xn.toNat) (zSvF S A xsm) T (zm4 xsm) 0 (zMc A xi xt xr xn.toNat) f xtl xpl g) H := hP
    have hD9 : va_D A0 (zmod cs o (zMp A xi xt xr xn.toNat) (zSvF S A xsm) T (zm4 xsm) 0 (zMc A xi xt xr xn.toNat) f xtl xpl g) := zD_addr hD rfl
    subst hAe
    exact W.iret hx hb hr (fun t ht hW => ⟨⟨_, (), rfl, (congrArg zI (show zMc A xi xt xr xn.toNat = zMc A xi xt xr xn.toNat from by rfl)), by rw [ht]; exact hP9, hD9⟩, hS.F ht⟩) hS.2.2 dX6_simulate_40
  · exfalso; first | omega | (simp only [and_true, true_and] at c1; omega) | exact c1.2.elim
set_option maxHeartbeats 4000000 in
set_option maxRecDepth 100000 in
theorem met_X6_simulate_no1 (l : Launch) (D : va_G) (cs : Nat → ClassId) (o : Nat → Nat) (sz : Nat) (A S T : Int → Int) (xsm xth xam : Int) (f : Int → Int) (xtl xpl : Int) (g : Int → Int) (xi xt xr xn : Int) (rxi : -2147483648 ≤ xi ∧ xi ≤ 2147483647) (rxt : -2147483648 ≤ xt ∧ xt ≤ 2147483647) (rxr : -2147483648 ≤ xr ∧ xr ≤ 2147483647) (rxn : -2147483648 ≤ xn ∧ xn ≤ 2147483647) (kno : ¬ (((-50000 ≤ xi ∧ xi ≤ 50000) ∧ (0 ≤ (0 : Int) ∧ (0 : Int) ≤ 6000) ∧ 1 ≤ xt ∧ xt ≤ 600) ∧ (0 ≤ xr ∧ xr ≤ 1000) ∧ 0 ≤ xn ∧ xn ≤ 500)) : Met l yX6_simulate wsX6_simulate ({ frames := 3, cells := 0, slots := 0, locals := 70 }) (va_Pc [.ref (o 0), .int (zI xi), .int (zI xt), .int (zI xr), .int (zI xn)] (zPreZ D (zTy cs) (zmod cs o A S T xsm xth xam f xtl xpl g) sz)) (zQi D (zmod cs o A S T xsm xth xam f xtl xpl g) sz (zI (0)) (zmod cs o A S T xsm 1 xam f xtl xpl g)) 0 0 (va_A (zmod cs o A S T xsm xth xam f xtl xpl g) sz) := by
  refine Met.ofW (cc := cX6_simulate) (maxL := 6) (ret := (some .int)) (by decide) rfl ?_
  intro p e s m args below meth c s₁ B hml hv
  obtain ⟨rfl, hsz, hP, hK, hD0, hN⟩ := hv
  have hx := B.exec
  have hb := B.bytes
  have hr := B.returns
  have hts := atoms_spec (ws := wsX6_simulate) B.pre
  have hown : s.vm.findClass RX6 = some m.cls := findClass_of_methodNamed B.named
  have hlocks := B.notSynchronized
  subst hsz
  obtain ⟨A0, hAe⟩ : ∃ A0, A0 = va_A (zmod cs o A S T xsm xth xam f xtl xpl g) s.heap.size := ⟨_, rfl⟩
  have hD := hD0.self (sz := s.heap.size)
  rw [← hAe] at hD
  have hA : ∀ q : Nat, s.heap.size ≤ q → A0 q := fun q h => by rw [hAe]; exact Or.inr h
  have hS : va_S A0 s.heap s.heap [] := va_S.rf
  have hP : va_P D vwCl (zmod cs o A S T xsm xth xam f xtl xpl g) s.heap := hP
  have hl := lv_entry ([.ref (o 0), .int (zI xi), .int (zI xt), .int (zI xr), .int (zI xn)]) (n := 6) (Nat.le_of_ble_eq_true rfl)
  rw [lg_entry_eq]
  generalize (lg_sl ([.ref (o 0), .int (zI xi), .int (zI xt), .int (zI xr), .int (zI xn)]) ++ List.replicate (6 - (lg_sl ([.ref (o 0), .int (zI xi), .int (zI xt), .int (zI xr), .int (zI xn)])).length) Slot.unset).toArray = ls at hl ⊢
  have hl : lv_has ls 6 [(0, .ref (o 0)), (1, .int (zI xi)), (2, .int (zI xt)), (3, .int (zI xr)), (4, .int (zI xn))] := hl
  refine lv_aload_n hx hb dX6_simulate_0 rfl (lv_at hl 0 rfl) ?_
  refine lv_iload_n hx hb dX6_simulate_1 rfl (lv_at hl 1 rfl) ?_
  refine lv_iload_n hx hb dX6_simulate_2 rfl (lv_at hl 2 rfl) ?_
  refine lv_iload_n hx hb dX6_simulate_3 rfl (lv_at hl 3 rfl) ?_
  refine lv_iload hx hb dX6_simulate_4 (lv_at hl 4 rfl) ?_
  refine zc_ri (va_runS (As := [.int (zI xi), .int (zI xt), .int (zI xr), .int (zI xn)]) (rest := [.ref (o 0)]) ⟨hx, hb, hml, hown, hts⟩ (met_X6_isModel l xi xt xr xn (by first | assumption | omega) (by first | assumption | omega) (by first | assumption | omega) (by first | assumption | omega)) (va_cwS 4 hts gX6_simulate_X6_isModel rfl rfl rfl (by decide +kernel) ⟨Nat.le_of_ble_eq_true rfl, Nat.le_of_ble_eq_true rfl⟩) ⟨zTrue.blind, fun U hU hW => ⟨rfl, trivial⟩⟩ rfl rfl hl.1 rfl (lv_room (Nat.le_of_ble_eq_true rfl)) dX6_simulate_6 ⟨Nat.le_of_ble_eq_true rfl, Nat.le_of_ble_eq_true rfl⟩) ?_
  refine zr_iconst hx hb dX6_simulate_9 ?_
  refine zc_i (va_runV (As := [.int (zI (zB (((-50000 ≤ xi ∧ xi ≤ 50000) ∧ (0 ≤ (0 : Int) ∧ (0 : Int) ≤ 6000) ∧ 1 ≤ xt ∧ xt ≤ 600) ∧ (0 ≤ xr ∧ xr ≤ 1000) ∧ 0 ≤ xn ∧ xn ≤ 500))), .int (zI 1)]) (rest := []) ⟨hx, hb, hml, hown, hts⟩ (met_X6_goes l D cs o s.heap.size A S T xsm xth xam f xtl xpl g (((-50000 ≤ xi ∧ xi ≤ 50000) ∧ (0 ≤ (0 : Int) ∧ (0 : Int) ≤ 6000) ∧ 1 ≤ xt ∧ xt ≤ 600) ∧ (0 ≤ xr ∧ xr ≤ 1000) ∧ 0 ≤ xn ∧ xn ≤ 500) True ) (cwV 2 hts gX6_simulate_X6_goes rfl rfl rfl (by decide +kernel) ⟨Nat.le_of_ble_eq_true rfl, Nat.le_of_ble_eq_true rfl⟩) ⟨zPreZ.blind, va_recv hK hP (ci := 6) (q0 := 0) rfl rfl, fun U hU hW => zp_Z hP hK hD hN hU hW⟩ rfl rfl hl.1 rfl (lv_room (Nat.le_of_ble_eq_true rfl)) dX6_simulate_10 ⟨Nat.le_of_ble_eq_true rfl, Nat.le_of_ble_eq_true rfl⟩) hS hD hA (fun H locs hP hD hS => ?_)
  have hP : va_P D vwCl (zmod cs o A S T xsm 1 xam f xtl xpl g) H := by rw [show zGo (((-50000 ≤ xi ∧ xi ≤ 50000) ∧ (0 ≤ (0 : Int) ∧ (0 : Int) ≤ 6000) ∧ 1 ≤ xt ∧ xt ≤ 600) ∧ (0 ≤ xr ∧ xr ≤ 1000) ∧ 0 ≤ xn ∧ xn ≤ 500) True = 1 from zGo_1 (by first | trivial | omega | (simp only [not_true, not_false_eq_true]) | (intro h; omega))] at hP; exact hP
  have hD : va_D A0 (zmod cs o A S T xsm 1 xam f xtl xpl g) := zD_addr hD rfl
  refine zr_ifb_ne (tgt := 18) hx hb dX6_simulate_13 (by decide) (fun c1 => ?_) (fun c1 => ?_)
  · exfalso; first | omega | (simp only [and_true, true_and] at c1; omega) | exact c1.2.elim
  · refine zr_iconst hx hb dX6_simulate_16 ?_
    have hP9 : va_P D vwCl (zmod cs o A S T xsm 1 xam f xtl xpl g) H := hP
    have hD9 : va_D A0 (zmod cs o A S T xsm 1 xam f xtl xpl g) := zD_addr hD rfl
    subst hAe
    exact W.iret hx hb hr (fun t ht hW => ⟨⟨_, (), rfl, (congrArg zI (show 0 = 0 from by rfl)), by rw [ht]; exact hP9, hD9⟩, hS.F ht⟩) hS.2.2 dX6_simulate_17
theorem zC_back (A T B : Int → Int) (k : Int) (a : 0 ≤ k) (b : k < 213) : zC (zC A T 0 0 213) B 0 0 213 k = A k := by
  simp only [zC]
  rw [if_pos (by omega), if_pos (by omega)]
  congr 1
  omega
set_option maxHeartbeats 4000000 in
set_option maxRecDepth 100000 in
theorem met_X6_wouldAnchor_ok (l : Launch) (D : va_G) (cs : Nat → ClassId) (o : Nat → Nat) (sz : Nat) (A S T : Int → Int) (xsm xth xam : Int) (f : Int → Int) (xtl xpl : Int) (g : Int → Int) (n : Int) (xi xt xr xn : Int) (hI : zOK n A) (hn : 0 ≤ n ∧ n ≤ 3100000) (kn6 : n ≤ 3090000) (rxi : -2147483648 ≤ xi ∧ xi ≤ 2147483647) (rxt : -2147483648 ≤ xt ∧ xt ≤ 2147483647) (rxr : -2147483648 ≤ xr ∧ xr ≤ 2147483647) (rxn : -2147483648 ≤ xn ∧ xn ≤ 2147483647) (kok : ((-50000 ≤ xi ∧ xi ≤ 50000) ∧ (0 ≤ (0 : Int) ∧ (0 : Int) ≤ 6000) ∧ 1 ≤ xt ∧ xt ≤ 600) ∧ (0 ≤ xr ∧ xr ≤ 1000) ∧ 0 ≤ xn ∧ xn ≤ 500) : Met l yX6_wouldAnchor wsX6_wouldAnchor ({ frames := 6, cells := 0, slots := 0, locals := 168 }) (va_Pc [.ref (o 0), .int (zI xi), .int (zI xt), .int (zI xr), .int (zI xn)] (zPreZ D (zTy cs) (zmod cs o A S T xsm xth xam f xtl xpl g) sz)) (zQi D (zmod cs o A S T xsm xth xam f xtl xpl g) sz (zI (zMb A xi xt xr xn.toNat)) (zmod cs o A S (zC A T 0 0 213) xsm 0 (zMc A xi xt xr xn.toNat) f xtl xpl g)) 0 0 (va_A (zmod cs o A S T xsm xth xam f xtl xpl g) sz) := by
  refine Met.ofW (cc := cX6_wouldAnchor) (maxL := 7) (ret := (some .int)) (by decide) rfl ?_
  intro p e s m args below meth c s₁ B hml hv
  obtain ⟨rfl, hsz, hP, hK, hD0, hN⟩ := hv
  have hx := B.exec
  have hb := B.bytes
  have hr := B.returns
  have hts := atoms_spec (ws := wsX6_wouldAnchor) B.pre
  have hown : s.vm.findClass RX6 = some m.cls := findClass_of_methodNamed B.named
  have hlocks := B.notSynchronized
  subst hsz
  obtain ⟨A0, hAe⟩ : ∃ A0, A0 = va_A (zmod cs o A S T xsm xth xam f xtl xpl g) s.heap.size := ⟨_, rfl⟩
  have hD := hD0.self (sz := s.heap.size)
  rw [← hAe] at hD
  have hA : ∀ q : Nat, s.heap.size ≤ q → A0 q := fun q h => by rw [hAe]; exact Or.inr h
  have hS : va_S A0 s.heap s.heap [] := va_S.rf
  have hP : va_P D vwCl (zmod cs o A S T xsm xth xam f xtl xpl g) s.heap := hP
  have hl := lv_entry ([.ref (o 0), .int (zI xi), .int (zI xt), .int (zI xr), .int (zI xn)]) (n := 7) (Nat.le_of_ble_eq_true rfl)
  rw [lg_entry_eq]
  generalize (lg_sl ([.ref (o 0), .int (zI xi), .int (zI xt), .int (zI xr), .int (zI xn)]) ++ List.replicate (7 - (lg_sl ([.ref (o 0), .int (zI xi), .int (zI xt), .int (zI xr), .int (zI xn)])).length) Slot.unset).toArray = ls at hl ⊢
  have hl : lv_has ls 7 [(0, .ref (o 0)), (1, .int (zI xi)), (2, .int (zI xt)), (3, .int (zI xr)), (4, .int (zI xn))] := hl
  have hiX6 : ∀ w ∈ wsX60, w ∈ wsX6_wouldAnchor := by decide +kernel
  refine lv_aload_n hx hb dX6_wouldAnchor_0 rfl (lv_at hl 0 rfl) ?_
  refine lv_iload_n hx hb dX6_wouldAnchor_1 rfl (lv_at hl 1 rfl) ?_
  refine lv_iload_n hx hb dX6_wouldAnchor_2 rfl (lv_at hl 2 rfl) ?_
  refine lv_iload_n hx hb dX6_wouldAnchor_3 rfl (lv_at hl 3 rfl) ?_
  refine lv_iload hx hb dX6_wouldAnchor_4 (lv_at hl 4 rfl) ?_
  refine zc_ri (va_runS (As := [.int (zI xi), .int (zI xt), .int (zI xr), .int (zI xn)]) (rest := [.ref (o 0)]) ⟨hx, hb, hml, hown, hts⟩ (met_X6_isModel l xi xt xr xn (by first | assumption | omega) (by first | assumption | omega) (by first | assumption | omega) (by first | assumption | omega)) (va_cwS 4 hts gX6_wouldAnchor_X6_isModel rfl rfl rfl (by decide +kernel) ⟨Nat.le_of_ble_eq_true rfl, Nat.le_of_ble_eq_true rfl⟩) ⟨zTrue.blind, fun U hU hW => ⟨rfl, trivial⟩⟩ rfl rfl hl.1 rfl (lv_room (Nat.le_of_ble_eq_true rfl)) dX6_wouldAnchor_6 ⟨Nat.le_of_ble_eq_true rfl, Nat.le_of_ble_eq_true rfl⟩) ?_
  refine zr_iconst hx hb dX6_wouldAnchor_9 ?_
  refine zc_i (va_runV (As := [.int (zI (zB (((-50000 ≤ xi ∧ xi ≤ 50000) ∧ (0 ≤ (0 : Int) ∧ (0 : Int) ≤ 6000) ∧ 1 ≤ xt ∧ xt ≤ 600) ∧ (0 ≤ xr ∧ xr ≤ 1000) ∧ 0 ≤ xn ∧ xn ≤ 500))), .int (zI 1)]) (rest := []) ⟨hx, hb, hml, hown, hts⟩ (met_X6_goes l D cs o s.heap.size A S T xsm xth xam f xtl xpl g (((-50000 ≤ xi ∧ xi ≤ 50000) ∧ (0 ≤ (0 : Int) ∧ (0 : Int) ≤ 6000) ∧ 1 ≤ xt ∧ xt ≤ 600) ∧ (0 ≤ xr ∧ xr ≤ 1000) ∧ 0 ≤ xn ∧ xn ≤ 500) True ) (cwV 2 hts gX6_wouldAnchor_X6_goes rfl rfl rfl (by decide +kernel) ⟨Nat.le_of_ble_eq_true rfl, Nat.le_of_ble_eq_true rfl⟩) ⟨zPreZ.blind, va_recv hK hP (ci := 6) (q0 := 0) rfl rfl, fun U hU hW => zp_Z hP hK hD hN hU hW⟩ rfl rfl hl.1 rfl (lv_room (Nat.le_of_ble_eq_true rfl)) dX6_wouldAnchor_10 ⟨Nat.le_of_ble_eq_true rfl, Nat.le_of_ble_eq_true rfl⟩) hS hD hA (fun H locs hP hD hS => ?_)
  have hP : va_P D vwCl (zmod cs o A S T xsm 0 xam f xtl xpl g) H := by rw [show zGo (((-50000 ≤ xi ∧ xi ≤ 50000) ∧ (0 ≤ (0 : Int) ∧ (0 : Int) ≤ 6000) ∧ 1 ≤ xt ∧ xt ≤ 600) ∧ (0 ≤ xr ∧ xr ≤ 1000) ∧ 0 ≤ xn ∧ xn ≤ 500) True = 0 from zGo_0 (by first | trivial | omega | (simp only [not_true, not_false_eq_true]) | (intro h; omega)) (by first | trivial | omega | (simp only [not_true, not_false_eq_true]) | (intro h; omega))] at hP; exact hP
  have hD : va_D A0 (zmod cs o A S T xsm 0 xam f xtl xpl g) := zD_addr hD rfl
  refine zr_ifb_ne (tgt := 18) hx hb dX6_wouldAnchor_13 (by decide) (fun c1 => ?_) (fun c1 => ?_)
  · refine zr_iconst hx hb dX6_wouldAnchor_18 ?_
    refine lv_istore (lv' := [(5, .int (zI 0)), (0, .ref (o 0)), (1, .int (zI xi)), (2, .int (zI xt)), (3, .int (zI xr)), (4, .int (zI xn))]) hx hb dX6_wouldAnchor_19 hl (by decide) rfl (fun ls hl => ?_)
    suffices J_21 : ∀ (nn : Nat) (xj : Int) (jj : 0 ≤ xj ∧ xj ≤ 213) (hmu : 213 - xj < (nn : Int)) (H : Heap) (locs : List Loc) (hP : va_P D vwCl (zmod cs o A S (zC A T 0 0 xj) xsm 0 xam f xtl xpl g) H) (hD : va_D A0 (zmod cs o A S (zC A T 0 0 xj) xsm 0 xam f xtl xpl g)) (hS : va_S A0 s.heap H locs) (ls : Array Slot) (hl : lv_has ls 7 [(5, .int (zI xj)), (0, .ref (o 0)), (1, .int (zI xi)), (2, .int (zI xt)), (3, .int (zI xr)), (4, .int (zI xn))]), W p l e (headSpec wsX6_wouldAnchor ({ frames := 6, cells := 0, slots := 0, locals := 168 })).room s m ([.ref (o 0), .int (zI xi), .int (zI xt), .int (zI xr), .int (zI xn)] : List Value).toArray below meth c H locs 0 0 (MQ below (zQi D (zmod cs o A S T xsm xth xam f xtl xpl g) s.heap.size (zI (zMb A xi xt xr xn.toNat)) (zmod cs o A S (zC A T 0 0 213) xsm 0 (zMc A xi xt xr xn.toNat) f xtl xpl g)) ([.ref (o 0), .int (zI xi), .int (zI xt), .int (zI xr), .int (zI xn)] : List Value).toArray s 0 0 (va_A (zmod cs o A S T xsm xth xam f xtl xpl g) s.heap.size)) (F0 m 21 ls []) by
      exact J_21 (((213 - 0) : Int).toNat + 1) 0 (by omega) (by have : (0 : Int) ≤ 213 - 0 := (by omega); omega) _ _ (by rw [zC_0 rfl]; exact hP) (zD_addr hD rfl) hS _ (lv_sub hl [0, 1, 2, 3, 4, 5] rfl)
    intro nn
    induction nn with
    | zero => intro xj jj hmu; exfalso; have : (0 : Int) ≤ 213 - xj := (by omega); omega
    | succ nn ih =>
      intro xj jj hmu H locs hP hD hS ls hl
      refine lv_iload hx hb dX6_wouldAnchor_21 (lv_at hl 0 rfl) ?_
      refine zr_sipush hx hb dX6_wouldAnchor_23 (by decide) ?_
      refine zr_icmp_ge (tgt := 49) hx hb dX6_wouldAnchor_26 (by decide) (by omega) (by decide) (fun c2 => ?_) (fun c2 => ?_)
      · have hP : va_P D vwCl (zmod cs o A S (zC A T 0 0 213) xsm 0 xam f xtl xpl g) H := by rw [show (213 : Int) = xj by omega]; exact hP
        have hD : va_D A0 (zmod cs o A S (zC A T 0 0 213) xsm 0 xam f xtl xpl g) := zD_addr hD rfl
        refine lv_aload_n hx hb dX6_wouldAnchor_49 rfl (lv_at hl 1 rfl) ?_
        refine lv_iload_n hx hb dX6_wouldAnchor_50 rfl (lv_at hl 2 rfl) ?_
        refine zr_i2l hx hb dX6_wouldAnchor_51 (by omega) ?_
        refine lv_iload_n hx hb dX6_wouldAnchor_52 rfl (lv_at hl 3 rfl) ?_
        refine zr_i2l hx hb dX6_wouldAnchor_53 (by omega) ?_
        refine lv_iload_n hx hb dX6_wouldAnchor_54 rfl (lv_at hl 4 rfl) ?_
        refine zr_i2l hx hb dX6_wouldAnchor_55 (by omega) ?_
        refine lv_iload hx hb dX6_wouldAnchor_56 (lv_at hl 5 rfl) ?_
        refine zc_i (va_runV (As := [.long (zL xi), .long (zL xt), .long (zL xr), .int (zI xn)]) (rest := []) ⟨hx, hb, hml, hown, hts⟩ (met_X6_models l D cs o H.size A S (zC A T 0 0 213) xsm 0 xam f xtl xpl g _ xi xt xr xn (by assumption) (by assumption) (by first | assumption | omega) (by first | assumption | omega) (by first | assumption | omega) (by first | assumption | omega) (by first | assumption | omega)) (cwV 4 hts gX6_wouldAnchor_X6_models rfl rfl rfl (by decide +kernel) ⟨Nat.le_of_ble_eq_true rfl, Nat.le_of_ble_eq_true rfl⟩) ⟨zPreZ.blind, va_recv hK hP (ci := 6) (q0 := 0) rfl rfl, fun U hU hW => zp_Z hP hK hD hN hU hW⟩ rfl rfl hl.1 rfl (lv_room (Nat.le_of_ble_eq_true rfl)) dX6_wouldAnchor_58 ⟨Nat.le_of_ble_eq_true rfl, Nat.le_of_ble_eq_true rfl⟩) hS hD hA (fun H locs hP hD hS => ?_)
        refine lv_istore (lv' := [(5, .int (zI (zMb A xi xt xr xn.toNat))), (0, .ref (o 0)), (1, .int (zI xi)), (2, .int (zI xt)), (3, .int (zI xr)), (4, .int (zI xn))]) hx hb dX6_wouldAnchor_61 hl (by decide) rfl (fun ls hl => ?_)
        refine zr_iconst hx hb dX6_wouldAnchor_63 ?_
        refine lv_istore (lv' := [(6, .int (zI 0)), (5, .int (zI (zMb A xi xt xr xn.toNat))), (0, .ref (o 0)), (1, .int (zI xi)), (2, .int (zI xt)), (3, .int (zI xr)), (4, .int (zI xn))]) hx hb dX6_wouldAnchor_64 hl (by decide) rfl (fun ls hl => ?_)
        suffices J_66 : ∀ (nn : Nat) (xj : Int) (jj : 0 ≤ xj ∧ xj ≤ 213) (hmu : 213 - xj < (nn : Int)) (H : Heap) (locs : List Loc) (hP : va_P D vwCl (zmod cs o (zC (zC A T 0 0 213) (zMp A xi xt xr xn.toNat) 0 0 xj) S (zC A T 0 0 213) xsm 0 (zMc A xi xt xr xn.toNat) f xtl xpl g) H) (hD : va_D A0 (zmod cs o (zC (zC A T 0 0 213) (zMp A xi xt xr xn.toNat) 0 0 xj) S (zC A T 0 0 213) xsm 0 (zMc A xi xt xr xn.toNat) f xtl xpl g)) (hS : va_S A0 s.heap H locs) (ls : Array Slot) (hl : lv_has ls 7 [(6, .int (zI xj)), (0, .ref (o 0)), (5, .int (zI (zMb A xi xt xr xn.toNat)))]), W p l e (headSpec wsX6_wouldAnchor ({ frames := 6, cells := 0, slots := 0, locals := 168 })).room s m ([.ref (o 0), .int (zI xi), .int (zI xt), .int (zI xr), .int (zI xn)] : List Value).toArray below meth c H locs 0 0 (MQ below (zQi D (zmod cs o A S T xsm xth xam f xtl xpl g) s.heap.size (zI (zMb A xi xt xr xn.toNat)) (zmod cs o A S (zC A T 0 0 213) xsm 0 (zMc A xi xt xr xn.toNat) f xtl xpl g)) ([.ref (o 0), .int (zI xi), .int (zI xt), .int (zI xr), .int (zI xn)] : List Value).toArray s 0 0 (va_A (zmod cs o A S T xsm xth xam f xtl xpl g) s.heap.size)) (F0 m 66 ls []) by
          exact J_66 (((213 - 0) : Int).toNat + 1) 0 (by omega) (by have : (0 : Int) ≤ 213 - 0 := (by omega); omega) _ _ (by rw [zC_0 (n := 0) rfl]; exact hP) (zD_addr hD rfl) hS _ (lv_sub hl [0, 2, 1] rfl)
        intro nn
        induction nn with
        | zero => intro xj jj hmu; exfalso; have : (0 : Int) ≤ 213 - xj := (by omega); omega
        | succ nn ih =>
          intro xj jj hmu H locs hP hD hS ls hl
          refine lv_iload hx hb dX6_wouldAnchor_66 (lv_at hl 0 rfl) ?_
          refine zr_sipush hx hb dX6_wouldAnchor_68 (by decide) ?_
          refine zr_icmp_ge (tgt := 94) hx hb dX6_wouldAnchor_71 (by decide) (by omega) (by decide) (fun c3 => ?_) (fun c3 => ?_)
          · refine lv_iload hx hb dX6_wouldAnchor_94 (lv_at hl 2 rfl) ?_
            have e9 : xj = 213 := by omega
            subst e9
            have hP8 := zmod_ext hP (fun k a b => zC_back A T _ k a b)
            have hP9 : va_P D vwCl (zmod cs o A S (zC A T 0 0 213) xsm 0 (zMc A xi xt xr xn.toNat) f xtl xpl g) H := hP8
            have hD9 : va_D A0 (zmod cs o A S (zC A T 0 0 213) xsm 0 (zMc A xi xt xr xn.toNat) f xtl xpl g) := zD_addr hD rfl
            subst hAe
            exact W.iret hx hb hr (fun t ht hW => ⟨⟨_, (), rfl, (congrArg zI (show zMb A xi xt xr xn.toNat = zMb A xi xt xr xn.toNat from by rfl)), by rw [ht]; exact hP9, hD9⟩, hS.F ht⟩) hS.2.2 dX6_wouldAnchor_96
          · refine lv_aload_n hx hb dX6_wouldAnchor_74 rfl (lv_at hl 1 rfl) ?_
            refine va_get (D := D) (ci := 6) (v := .ref (o 1)) (C := RX6) (T := TX6) (N := 10) hx hb hts hiX6 hown hK hP 0 rfl rfl 0 (by decide) (hts (.fieldLink RX6 7 "ChargeEstimatorModel" "all" "[J") (List.mem_of_getElem? (i := 2) rfl)) (fun _ h9 => h9) rfl dX6_wouldAnchor_75 ?_
            refine lv_iload hx hb dX6_wouldAnchor_78 (lv_at hl 0 rfl) ?_
            refine lv_aload_n hx hb dX6_wouldAnchor_80 rfl (lv_at hl 1 rfl) ?_
            refine va_get (D := D) (ci := 6) (v := .ref (o 3)) (C := RX6) (T := TX6) (N := 10) hx hb hts hiX6 hown hK hP 0 rfl rfl 2 (by decide) (hts (.fieldLink RX6 16 "ChargeEstimatorModel" "aside" "[J") (List.mem_of_getElem? (i := 1) rfl)) (fun _ h9 => h9) rfl dX6_wouldAnchor_81 ?_
            refine lv_iload hx hb dX6_wouldAnchor_84 (lv_at hl 0 rfl) ?_
            refine zr_lald (D := D) (g := zC A T 0 0 213) hx hb hK hP 3 2 rfl rfl (by decide) (by omega) dX6_wouldAnchor_86 ?_
            refine zr_last (D := D) (g := zC (zC A T 0 0 213) (zMp A xi xt xr xn.toNat) 0 0 xj) hx hb hK hP hD hS 1 2 rfl rfl (by decide) (by omega) dX6_wouldAnchor_87 (fun H locs hP hD hS => ?_)
            have hP : va_P D vwCl (zmod cs o (zU (zC (zC A T 0 0 213) (zMp A xi xt xr xn.toNat) 0 0 xj) xj ((zC A T 0 0 213) xj)) S (zC A T 0 0 213) xsm 0 (zMc A xi xt xr xn.toNat) f xtl xpl g) H := hP
            have hD : va_D A0 (zmod cs o (zU (zC (zC A T 0 0 213) (zMp A xi xt xr xn.toNat) 0 0 xj) xj ((zC A T 0 0 213) xj)) S (zC A T 0 0 213) xsm 0 (zMc A xi xt xr xn.toNat) f xtl xpl g) := zD_addr hD rfl
            refine zr_iinc (kk := 0) (lv' := [(6, .int (zI (xj + 1))), (0, .ref (o 0)), (5, .int (zI (zMb A xi xt xr xn.toNat)))]) hx hb dX6_wouldAnchor_88 hl rfl (by decide) rfl (fun ls hl => ?_)
            refine lv_goto (tgt := 66) hx hb dX6_wouldAnchor_91 (by decide) ?_
            exact ih (xj + 1) (by omega) (by omega) _ _ (by rw [← zC_c (by omega), Int.zero_add]; exact hP) (zD_addr hD rfl) hS _ (lv_sub hl [0, 1, 2] rfl)
      · refine lv_aload_n hx hb dX6_wouldAnchor_29 rfl (lv_at hl 1 rfl) ?_
        refine va_get (D := D) (ci := 6) (v := .ref (o 3)) (C := RX6) (T := TX6) (N := 10) hx hb hts hiX6 hown hK hP 0 rfl rfl 2 (by decide) (hts (.fieldLink RX6 16 "ChargeEstimatorModel" "aside" "[J") (List.mem_of_getElem? (i := 1) rfl)) (fun _ h9 => h9) rfl dX6_wouldAnchor_30 ?_
        refine lv_iload hx hb dX6_wouldAnchor_33 (lv_at hl 0 rfl) ?_
        refine lv_aload_n hx hb dX6_wouldAnchor_35 rfl (lv_at hl 1 rfl) ?_
        refine va_get (D := D) (ci := 6) (v := .ref (o 1)) (C := RX6) (T := TX6) (N := 10) hx hb hts hiX6 hown hK hP 0 rfl rfl 0 (by decide) (hts (.fieldLink RX6 7 "ChargeEstimatorModel" "all" "[J") (List.mem_of_getElem? (i := 2) rfl)) (fun _ h9 => h9) rfl dX6_wouldAnchor_36 ?_
        refine lv_iload hx hb dX6_wouldAnchor_39 (lv_at hl 0 rfl) ?_
        refine zr_lald (D := D) (g := A) hx hb hK hP 1 2 rfl rfl (by decide) (by omega) dX6_wouldAnchor_41 ?_
        refine zr_last (D := D) (g := zC A T 0 0 xj) hx hb hK hP hD hS 3 2 rfl rfl (by decide) (by omega) dX6_wouldAnchor_42 (fun H locs hP hD hS => ?_)
        have hP : va_P D vwCl (zmod cs o A S (zU (zC A T 0 0 xj) xj (A xj)) xsm 0 xam f xtl xpl g) H := hP
        have hD : va_D A0 (zmod cs o A S (zU (zC A T 0 0 xj) xj (A xj)) xsm 0 xam f xtl xpl g) := zD_addr hD rfl
        refine zr_iinc (kk := 0) (lv' := [(5, .int (zI (xj + 1))), (0, .ref (o 0)), (1, .int (zI xi)), (2, .int (zI xt)), (3, .int (zI xr)), (4, .int (zI xn))]) hx hb dX6_wouldAnchor_43 hl rfl (by decide) rfl (fun ls hl => ?_)
        refine lv_goto (tgt := 21) hx hb dX6_wouldAnchor_46 (by decide) ?_
        exact ih (xj + 1) (by omega) (by omega) _ _ (by rw [← zC_c (by omega), Int.zero_add]; exact hP) (zD_addr hD rfl) hS _ (lv_sub hl [0, 1, 2, 3, 4, 5] rfl)
  · exfalso; first | omega | (simp only [and_true, true_and] at c1; omega) | exact c1.2.elim
set_option maxHeartbeats 4000000 in
set_option maxRecDepth 100000 in
theorem met_X6_wouldAnchor_no1 (l : Launch) (D : va_G) (cs : Nat → ClassId) (o : Nat → Nat) (sz : Nat) (A S T : Int → Int) (xsm xth xam : Int) (f : Int → Int) (xtl xpl : Int) (g : Int → Int) (xi xt xr xn : Int) (rxi : -2147483648 ≤ xi ∧ xi ≤ 2147483647) (rxt : -2147483648 ≤ xt ∧ xt ≤ 2147483647) (rxr : -2147483648 ≤ xr ∧ xr ≤ 2147483647) (rxn : -2147483648 ≤ xn ∧ xn ≤ 2147483647) (kno : ¬ (((-50000 ≤ xi ∧ xi ≤ 50000) ∧ (0 ≤ (0 : Int) ∧ (0 : Int) ≤ 6000) ∧ 1 ≤ xt ∧ xt ≤ 600) ∧ (0 ≤ xr ∧ xr ≤ 1000) ∧ 0 ≤ xn ∧ xn ≤ 500)) : Met l yX6_wouldAnchor wsX6_wouldAnchor ({ frames := 3, cells := 0, slots := 0, locals := 70 }) (va_Pc [.ref (o 0), .int (zI xi), .int (zI xt), .int (zI xr), .int (zI xn)] (zPreZ D (zTy cs) (zmod cs o A S T xsm xth xam f xtl xpl g) sz)) (zQi D (zmod cs o A S T xsm xth xam f xtl xpl g) sz (zI (0)) (zmod cs o A S T xsm 1 xam f xtl xpl g)) 0 0 (va_A (zmod cs o A S T xsm xth xam f xtl xpl g) sz) := by
  refine Met.ofW (cc := cX6_wouldAnchor) (maxL := 7) (ret := (some .int)) (by decide) rfl ?_
  intro p e s m args below meth c s₁ B hml hv
  obtain ⟨rfl, hsz, hP, hK, hD0, hN⟩ := hv
  have hx := B.exec
  have hb := B.bytes
  have hr := B.returns
  have hts := atoms_spec (ws := wsX6_wouldAnchor) B.pre
  have hown : s.vm.findClass RX6 = some m.cls := findClass_of_methodNamed B.named
  have hlocks := B.notSynchronized
  subst hsz
  obtain ⟨A0, hAe⟩ : ∃ A0, A0 = va_A (zmod cs o A S T xsm xth xam f xtl xpl g) s.heap.size := ⟨_, rfl⟩
  have hD := hD0.self (sz := s.heap.size)
  rw [← hAe] at hD
  have hA : ∀ q : Nat, s.heap.size ≤ q → A0 q := fun q h => by rw [hAe]; exact Or.inr h
  have hS : va_S A0 s.heap s.heap [] := va_S.rf
  have hP : va_P D vwCl (zmod cs o A S T xsm xth xam f xtl xpl g) s.heap := hP
  have hl := lv_entry ([.ref (o 0), .int (zI xi), .int (zI xt), .int (zI xr), .int (zI xn)]) (n := 7) (Nat.le_of_ble_eq_true rfl)
  rw [lg_entry_eq]
  generalize (lg_sl ([.ref (o 0), .int (zI xi), .int (zI xt), .int (zI xr), .int (zI xn)]) ++ List.replicate (7 - (lg_sl ([.ref (o 0), .int (zI xi), .int (zI xt), .int (zI xr), .int (zI xn)])).length) Slot.unset).toArray = ls at hl ⊢
  have hl : lv_has ls 7 [(0, .ref (o 0)), (1, .int (zI xi)), (2, .int (zI xt)), (3, .int (zI xr)), (4, .int (zI xn))] := hl
  refine lv_aload_n hx hb dX6_wouldAnchor_0 rfl (lv_at hl 0 rfl) ?_
  refine lv_iload_n hx hb dX6_wouldAnchor_1 rfl (lv_at hl 1 rfl) ?_
  refine lv_iload_n hx hb dX6_wouldAnchor_2 rfl (lv_at hl 2 rfl) ?_
  refine lv_iload_n hx hb dX6_wouldAnchor_3 rfl (lv_at hl 3 rfl) ?_
  refine lv_iload hx hb dX6_wouldAnchor_4 (lv_at hl 4 rfl) ?_
  refine zc_ri (va_runS (As := [.int (zI xi), .int (zI xt), .int (zI xr), .int (zI xn)]) (rest := [.ref (o 0)]) ⟨hx, hb, hml, hown, hts⟩ (met_X6_isModel l xi xt xr xn (by first | assumption | omega) (by first | assumption | omega) (by first | assumption | omega) (by first | assumption | omega)) (va_cwS 4 hts gX6_wouldAnchor_X6_isModel rfl rfl rfl (by decide +kernel) ⟨Nat.le_of_ble_eq_true rfl, Nat.le_of_ble_eq_true rfl⟩) ⟨zTrue.blind, fun U hU hW => ⟨rfl, trivial⟩⟩ rfl rfl hl.1 rfl (lv_room (Nat.le_of_ble_eq_true rfl)) dX6_wouldAnchor_6 ⟨Nat.le_of_ble_eq_true rfl, Nat.le_of_ble_eq_true rfl⟩) ?_
  refine zr_iconst hx hb dX6_wouldAnchor_9 ?_
  refine zc_i (va_runV (As := [.int (zI (zB (((-50000 ≤ xi ∧ xi ≤ 50000) ∧ (0 ≤ (0 : Int) ∧ (0 : Int) ≤ 6000) ∧ 1 ≤ xt ∧ xt ≤ 600) ∧ (0 ≤ xr ∧ xr ≤ 1000) ∧ 0 ≤ xn ∧ xn ≤ 500))), .int (zI 1)]) (rest := []) ⟨hx, hb, hml, hown, hts⟩ (met_X6_goes l D cs o s.heap.size A S T xsm xth xam f xtl xpl g (((-50000 ≤ xi ∧ xi ≤ 50000) ∧ (0 ≤ (0 : Int) ∧ (0 : Int) ≤ 6000) ∧ 1 ≤ xt ∧ xt ≤ 600) ∧ (0 ≤ xr ∧ xr ≤ 1000) ∧ 0 ≤ xn ∧ xn ≤ 500) True ) (cwV 2 hts gX6_wouldAnchor_X6_goes rfl rfl rfl (by decide +kernel) ⟨Nat.le_of_ble_eq_true rfl, Nat.le_of_ble_eq_true rfl⟩) ⟨zPreZ.blind, va_recv hK hP (ci := 6) (q0 := 0) rfl rfl, fun U hU hW => zp_Z hP hK hD hN hU hW⟩ rfl rfl hl.1 rfl (lv_room (Nat.le_of_ble_eq_true rfl)) dX6_wouldAnchor_10 ⟨Nat.le_of_ble_eq_true rfl, Nat.le_of_ble_eq_true rfl⟩) hS hD hA (fun H locs hP hD hS => ?_)
  have hP : va_P D vwCl (zmod cs o A S T xsm 1 xam f xtl xpl g) H := by rw [show zGo (((-50000 ≤ xi ∧ xi ≤ 50000) ∧ (0 ≤ (0 : Int) ∧ (0 : Int) ≤ 6000) ∧ 1 ≤ xt ∧ xt ≤ 600) ∧ (0 ≤ xr ∧ xr ≤ 1000) ∧ 0 ≤ xn ∧ xn ≤ 500) True = 1 from zGo_1 (by first | trivial | omega | (simp only [not_true, not_false_eq_true]) | (intro h; omega))] at hP; exact hP
  have hD : va_D A0 (zmod cs o A S T xsm 1 xam f xtl xpl g) := zD_addr hD rfl
  refine zr_ifb_ne (tgt := 18) hx hb dX6_wouldAnchor_13 (by decide) (fun c1 => ?_) (fun c1 => ?_)
  · exfalso; first | omega | (simp only [and_true, true_and] at c1; omega) | exact c1.2.elim
  · refine zr_iconst hx hb dX6_wouldAnchor_16 ?_
    have hP9 : va_P D vwCl (zmod cs o A S T xsm 1 xam f xtl xpl g) H := hP
    have hD9 : va_D A0 (zmod cs o A S T xsm 1 xam f xtl xpl g) := zD_addr hD rfl
    subst hAe
    exact W.iret hx hb hr (fun t ht hW => ⟨⟨_, (), rfl, (congrArg zI (show 0 = 0 from by rfl)), by rw [ht]; exact hP9, hD9⟩, hS.F ht⟩) hS.2.2 dX6_wouldAnchor_17
