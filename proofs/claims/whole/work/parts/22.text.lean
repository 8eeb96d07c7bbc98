/-! the text: its rows, its automaton -/
theorem zI_b {a : Int} (h : 0 ≤ a ∧ a ≤ 127) : (zI a).toInt8.toInt32 = zI a := by
  have key : ∀ k : Fin 128, (zI (k.val : Int)).toInt8.toInt32 = zI (k.val : Int) := by decide +kernel
  have := key ⟨a.toNat, by omega⟩
  rw [show (((⟨a.toNat, by omega⟩ : Fin 128).val : Nat) : Int) = a from Int.toNat_of_nonneg h.1] at this
  exact this
section ZTX
variable {p : Program} {l : Launch} {e : Env} {R : Room} {s : State} {m : MethodId} {args : Array Value} {below : List Frame} {meth : Method} {c : Code} {H : Heap} {locs : List Loc} {cells slots : Nat} {Q : State → Prop}
variable {cc : ByteArray} {pc : Nat} {ls : Array Slot} {rest : List Value} {D : va_G} {cl : List vw_C} {A : Nat → Prop} {a : Nat} {tys : List (ClassId × FieldType)} {ws : va_W} {H0 : Heap}
theorem zr_irem (hx : p.tables.exec = Jvm.exec) (hb : c.code = cc) {a b : Int} (d : decode cc pc = .ok (.irem, 1)) (ha : 0 ≤ a ∧ a ≤ 2147483647) (hb2 : 0 < b ∧ b ≤ 2147483647) (k : W p l e R s m args below meth c H locs cells slots Q (F0 m (pc + 1) ls (.int (zI (a % b)) :: rest))) : W p l e R s m args below meth c H locs cells slots Q (F0 m pc ls (.int (zI b) :: .int (zI a) :: rest)) := lv_irem hx hb d (fun h => by rw [← zI_0, zI_eq (by omega) (by omega)] at h; omega) (by rw [zI_div ha hb2, zI_mul, zI_sub, show a - a / b * b = a % b by rw [Int.emod_def, Int.mul_comm]]; exact k)
theorem zr_i2b (hx : p.tables.exec = Jvm.exec) (hb : c.code = cc) {a : Int} (d : decode cc pc = .ok (.i2b, 1)) (ha : 0 ≤ a ∧ a ≤ 127) (k : W p l e R s m args below meth c H locs cells slots Q (F0 m (pc + 1) ls (.int (zI a) :: rest))) : W p l e R s m args below meth c H locs cells slots Q (F0 m pc ls (.int (zI a) :: rest)) := lv_i2b hx hb d (zI_b ha) k
theorem zr_bast (hx : p.tables.exec = Jvm.exec) (hb : c.code = cc) (hK : va_K D cl tys s) (hP : va_P D cl ws H) (hD : va_D A ws) (hS : va_S A H0 H locs) (q0 t0 : Nat) {cA : ClassId} {n : Nat} {g : Int → Int} (ha : ws[q0]? = some (a, .inl (cA, n, .inl (zA g)))) (ht : tys[t0]? = some (cA, .byte)) {i v : Int} (hn : n < 2147483648) (hi : 0 ≤ i ∧ i < n) (hv : 0 ≤ v ∧ v ≤ 127) (d : decode cc pc = .ok (.bastore, 1)) (k : ∀ (H1 : Heap) (locs1 : List Loc), va_P D cl (ws.set q0 (a, .inl (cA, n, .inl (zA (zU g i v))))) H1 → va_D A (ws.set q0 (a, .inl (cA, n, .inl (zA (zU g i v))))) → va_S A H0 H1 locs1 → W p l e R s m args below meth c H1 locs1 cells slots Q (F0 m (pc + 1) ls (rest))) : W p l e R s m args below meth c H locs cells slots Q (F0 m pc ls (.int (zI v) :: .int (zI i) :: .ref a :: rest)) := va_bast hx hb hK hP hD hS q0 t0 ha ht (zI_in hn hi) d (by rw [show vp_nar .byte (zI v) = zI v from zI_b hv, zA_up g (by omega)]; exact k)
end ZTX
def zSep (c : Int) : Int := if c % 3 = 2 then 59 else 44
theorem zSep_r (c : Int) : (c % 3 = 2 ∧ zSep c = 59) ∨ (c % 3 ≠ 2 ∧ zSep c = 44) := by unfold zSep; by_cases h : c % 3 = 2 <;> simp [h]
def zIf3 {α : Type} (b c d : Int) (x y z w : α) : α := if b = 45 then x else if 48 ≤ b ∧ b ≤ 57 then y else if b = zSep c ∧ d ≠ 0 then z else w
theorem zIf3_a {α : Type} {b c d : Int} (h : b = 45) : zIf3 (α := α) b c d = fun x _ _ _ => x := by funext x y z w; unfold zIf3; rw [if_pos h]
theorem zIf3_b {α : Type} {b c d : Int} (h : 48 ≤ b ∧ b ≤ 57) : zIf3 (α := α) b c d = fun _ y _ _ => y := by funext x y z w; unfold zIf3; rw [if_neg (by omega), if_pos h]
theorem zIf3_c {α : Type} {b c d : Int} (h : b = zSep c ∧ d ≠ 0) : zIf3 (α := α) b c d = fun _ _ z _ => z := by
  have := zSep_r c
  funext x y z w; unfold zIf3; rw [if_neg (by omega), if_neg (by omega), if_pos h]
theorem zIf3_d {α : Type} {b c d : Int} (h1 : b ≠ 45) (h2 : ¬ (48 ≤ b ∧ b ≤ 57)) (h : ¬ (b = zSep c ∧ d ≠ 0)) : zIf3 (α := α) b c d = fun _ _ _ w => w := by funext x y z w; unfold zIf3; rw [if_neg h1, if_neg h2, if_neg h]
def zSg (e v : Int) : Int := if e = 0 then v else -v
abbrev ztxt (cs : Nat → ClassId) (w : Nat → Nat) (f : Int → Int) (xl : Int) (g : Int → Int) (xm xn xd xe : Int) : va_W := [(w 0, .inr (4, [.ref (w 1), .int (zI xl), .ref (w 2), .int (zI xm), .int (zI xn), .int (zI xd), .int (zI xe)])), (w 1, .inl (cs 1, 120, .inl (zA f))), (w 2, .inl (cs 0, 60, .inl (zA g)))]
set_option maxHeartbeats 4000000 in
set_option maxRecDepth 100000 in
theorem met_X4_size (l : Launch) (D : va_G) (cs : Nat → ClassId) (w : Nat → Nat) (f : Int → Int) (xl : Int) (g : Int → Int) (xm xn xd xe : Int)  : Met l yX4_size wsX4_size ({ frames := 0, cells := 0, slots := 0, locals := 0 }) (va_Pc [.ref (w 0)] (zPre D (zTy cs) ([(w 0, .inr (4, [.ref (w 1), .int (zI xl), .ref (w 2), .int (zI xm), .int (zI xn), .int (zI xd), .int (zI xe)])), (w 1, .inl (cs 1, 120, .inl (zA f))), (w 2, .inl (cs 0, 60, .inl (zA g)))]))) (zRi (zI (xl))) 0 0 (fun _ => False) := by
  refine Met.ofW (cc := cX4_size) (maxL := 1) (ret := (some .int)) (by decide) rfl ?_
  intro p e s m args below meth c s₁ B hml hv
  obtain ⟨rfl, hP, hK, hD0, hN⟩ := hv
  have hx := B.exec
  have hb := B.bytes
  have hr := B.returns
  have hts := atoms_spec (ws := wsX4_size) B.pre
  have hown : s.vm.findClass RX4 = some m.cls := findClass_of_methodNamed B.named
  have hlocks := B.notSynchronized
  have hD := hD0
  have hl := lv_entry ([.ref (w 0)]) (n := 1) (Nat.le_of_ble_eq_true rfl)
  rw [lg_entry_eq]
  generalize (lg_sl ([.ref (w 0)]) ++ List.replicate (1 - (lg_sl ([.ref (w 0)])).length) Slot.unset).toArray = ls at hl ⊢
  have hl : lv_has ls 1 [(0, .ref (w 0))] := hl
  have hiX4 : ∀ w ∈ wsX40, w ∈ wsX4_size := by decide +kernel
  refine lv_aload_n hx hb dX4_size_0 rfl (lv_at hl 0 rfl) ?_
  refine va_get (D := D) (ci := 4) (v := .int (zI xl)) (C := RX4) (T := TX4) (N := 7) hx hb hts hiX4 hown hK hP 0 rfl rfl 1 (by decide) (hts (.fieldLink RX4 19 "ChargeEstimator$MeasurementText" "size" "I") (List.mem_of_getElem? (i := 1) rfl)) (fun _ h9 => h9) rfl dX4_size_1 ?_
  exact W.iret hx hb hr (fun t ht hW => ⟨_, rfl, (congrArg zI (show xl = xl from by rfl)), ht⟩) (fun q hq => absurd hq List.not_mem_nil) dX4_size_4
set_option maxHeartbeats 4000000 in
set_option maxRecDepth 100000 in
theorem met_X4_isFull (l : Launch) (D : va_G) (cs : Nat → ClassId) (w : Nat → Nat) (f : Int → Int) (xl : Int) (g : Int → Int) (xm xn xd xe : Int) (kl : 0 ≤ xl ∧ xl ≤ 120) : Met l yX4_isFull wsX4_isFull ({ frames := 0, cells := 0, slots := 0, locals := 0 }) (va_Pc [.ref (w 0)] (zPre D (zTy cs) ([(w 0, .inr (4, [.ref (w 1), .int (zI xl), .ref (w 2), .int (zI xm), .int (zI xn), .int (zI xd), .int (zI xe)])), (w 1, .inl (cs 1, 120, .inl (zA f))), (w 2, .inl (cs 0, 60, .inl (zA g)))]))) (zRi (zI (zB (120 ≤ xl)))) 0 0 (fun _ => False) := by
  refine Met.ofW (cc := cX4_isFull) (maxL := 1) (ret := (some .boolean)) (by decide) rfl ?_
  intro p e s m args below meth c s₁ B hml hv
  obtain ⟨rfl, hP, hK, hD0, hN⟩ := hv
  have hx := B.exec
  have hb := B.bytes
  have hr := B.returns
  have hts := atoms_spec (ws := wsX4_isFull) B.pre
  have hown : s.vm.findClass RX4 = some m.cls := findClass_of_methodNamed B.named
  have hlocks := B.notSynchronized
  have hD := hD0
  have hl := lv_entry ([.ref (w 0)]) (n := 1) (Nat.le_of_ble_eq_true rfl)
  rw [lg_entry_eq]
  generalize (lg_sl ([.ref (w 0)]) ++ List.replicate (1 - (lg_sl ([.ref (w 0)])).length) Slot.unset).toArray = ls at hl ⊢
  have hl : lv_has ls 1 [(0, .ref (w 0))] := hl
  have hiX4 : ∀ w ∈ wsX40, w ∈ wsX4_isFull := by decide +kernel
  refine lv_aload_n hx hb dX4_isFull_0 rfl (lv_at hl 0 rfl) ?_
  refine va_get (D := D) (ci := 4) (v := .int (zI xl)) (C := RX4) (T := TX4) (N := 7) hx hb hts hiX4 hown hK hP 0 rfl rfl 1 (by decide) (hts (.fieldLink RX4 19 "ChargeEstimator$MeasurementText" "size" "I") (List.mem_of_getElem? (i := 1) rfl)) (fun _ h9 => h9) rfl dX4_isFull_1 ?_
  refine zr_bipush hx hb dX4_isFull_4 (by decide) ?_
  refine zr_icmp_lt (tgt := 13) hx hb dX4_isFull_6 (by decide) (by omega) (by decide) (fun c1 => ?_) (fun c1 => ?_)
  · refine zr_iconst hx hb dX4_isFull_13 ?_
    exact W.zret hx hb hr (zbool_n (by first | decide | exact zB_r _)) (fun t ht hW => ⟨_, rfl, (congrArg zI (show 0 = zB (120 ≤ xl) from by first | exact (zB_t (by omega)).symm | exact (zB_f (by omega)).symm)), ht⟩) (fun q hq => absurd hq List.not_mem_nil) dX4_isFull_14
  · refine zr_iconst hx hb dX4_isFull_9 ?_
    refine lv_goto (tgt := 14) hx hb dX4_isFull_10 (by decide) ?_
    exact W.zret hx hb hr (zbool_n (by first | decide | exact zB_r _)) (fun t ht hW => ⟨_, rfl, (congrArg zI (show 1 = zB (120 ≤ xl) from by first | exact (zB_t (by omega)).symm | exact (zB_f (by omega)).symm)), ht⟩) (fun q hq => absurd hq List.not_mem_nil) dX4_isFull_14
set_option maxHeartbeats 4000000 in
set_option maxRecDepth 100000 in
theorem met_X4_add (l : Launch) (D : va_G) (cs : Nat → ClassId) (w : Nat → Nat) (sz : Nat) (f : Int → Int) (xl : Int) (g : Int → Int) (xm xn xd xe : Int) (xb : Int) (kl : 0 ≤ xl ∧ xl < 120) (kb : 0 ≤ xb ∧ xb ≤ 127) : Met l yX4_add wsX4_add ({ frames := 0, cells := 0, slots := 0, locals := 0 }) (va_Pc [.ref (w 0), .int (zI xb)] (zPreZ D (zTy cs) ([(w 0, .inr (4, [.ref (w 1), .int (zI xl), .ref (w 2), .int (zI xm), .int (zI xn), .int (zI xd), .int (zI xe)])), (w 1, .inl (cs 1, 120, .inl (zA f))), (w 2, .inl (cs 0, 60, .inl (zA g)))]) sz)) (zQv D ([(w 0, .inr (4, [.ref (w 1), .int (zI xl), .ref (w 2), .int (zI xm), .int (zI xn), .int (zI xd), .int (zI xe)])), (w 1, .inl (cs 1, 120, .inl (zA f))), (w 2, .inl (cs 0, 60, .inl (zA g)))]) sz ([(w 0, .inr (4, [.ref (w 1), .int (zI (xl + 1)), .ref (w 2), .int (zI xm), .int (zI xn), .int (zI xd), .int (zI xe)])), (w 1, .inl (cs 1, 120, .inl (zA (zU f xl xb)))), (w 2, .inl (cs 0, 60, .inl (zA g)))])) 0 0 (va_A ([(w 0, .inr (4, [.ref (w 1), .int (zI xl), .ref (w 2), .int (zI xm), .int (zI xn), .int (zI xd), .int (zI xe)])), (w 1, .inl (cs 1, 120, .inl (zA f))), (w 2, .inl (cs 0, 60, .inl (zA g)))]) sz) := by
  refine Met.ofW (cc := cX4_add) (maxL := 2) (ret := none) (by decide) rfl ?_
  intro p e s m args below meth c s₁ B hml hv
  obtain ⟨rfl, hsz, hP, hK, hD0, hN⟩ := hv
  have hx := B.exec
  have hb := B.bytes
  have hr := B.returns
  have hts := atoms_spec (ws := wsX4_add) B.pre
  have hown : s.vm.findClass RX4 = some m.cls := findClass_of_methodNamed B.named
  have hlocks := B.notSynchronized
  subst hsz
  obtain ⟨A0, hAe⟩ : ∃ A0, A0 = va_A ([(w 0, .inr (4, [.ref (w 1), .int (zI xl), .ref (w 2), .int (zI xm), .int (zI xn), .int (zI xd), .int (zI xe)])), (w 1, .inl (cs 1, 120, .inl (zA f))), (w 2, .inl (cs 0, 60, .inl (zA g)))]) s.heap.size := ⟨_, rfl⟩
  have hD := hD0.self (sz := s.heap.size)
  rw [← hAe] at hD
  have hA : ∀ q : Nat, s.heap.size ≤ q → A0 q := fun q h => by rw [hAe]; exact Or.inr h
  have hS : va_S A0 s.heap s.heap [] := va_S.rf
  have hP : va_P D vwCl ([(w 0, .inr (4, [.ref (w 1), .int (zI xl), .ref (w 2), .int (zI xm), .int (zI xn), .int (zI xd), .int (zI xe)])), (w 1, .inl (cs 1, 120, .inl (zA f))), (w 2, .inl (cs 0, 60, .inl (zA g)))]) s.heap := hP
  have hl := lv_entry ([.ref (w 0), .int (zI xb)]) (n := 2) (Nat.le_of_ble_eq_true rfl)
  rw [lg_entry_eq]
  generalize (lg_sl ([.ref (w 0), .int (zI xb)]) ++ List.replicate (2 - (lg_sl ([.ref (w 0), .int (zI xb)])).length) Slot.unset).toArray = ls at hl ⊢
  have hl : lv_has ls 2 [(0, .ref (w 0)), (1, .int (zI xb))] := hl
  have hiX4 : ∀ w ∈ wsX40, w ∈ wsX4_add := by decide +kernel
  refine lv_aload_n hx hb dX4_add_0 rfl (lv_at hl 0 rfl) ?_
  refine va_get (D := D) (ci := 4) (v := .int (zI xl)) (C := RX4) (T := TX4) (N := 7) hx hb hts hiX4 hown hK hP 0 rfl rfl 1 (by decide) (hts (.fieldLink RX4 19 "ChargeEstimator$MeasurementText" "size" "I") (List.mem_of_getElem? (i := 1) rfl)) (fun _ h9 => h9) rfl dX4_add_1 ?_
  refine zr_bipush hx hb dX4_add_4 (by decide) ?_
  refine zr_icmp_ge (tgt := 30) hx hb dX4_add_6 (by decide) (by omega) (by decide) (fun c1 => ?_) (fun c1 => ?_)
  · have hP8 : va_P D vwCl ([(w 0, .inr (4, [.ref (w 1), .int (zI (xl + 1)), .ref (w 2), .int (zI xm), .int (zI xn), .int (zI xd), .int (zI xe)])), (w 1, .inl (cs 1, 120, .inl (zA (zU f xl xb)))), (w 2, .inl (cs 0, 60, .inl (zA g)))]) s.heap := by first | (exfalso; omega) | exact hP
    have hP9 : va_P D vwCl ([(w 0, .inr (4, [.ref (w 1), .int (zI (xl + 1)), .ref (w 2), .int (zI xm), .int (zI xn), .int (zI xd), .int (zI xe)])), (w 1, .inl (cs 1, 120, .inl (zA (zU f xl xb)))), (w 2, .inl (cs 0, 60, .inl (zA g)))]) s.heap := hP8
    have hD9 : va_D A0 ([(w 0, .inr (4, [.ref (w 1), .int (zI (xl + 1)), .ref (w 2), .int (zI xm), .int (zI xn), .int (zI xd), .int (zI xe)])), (w 1, .inl (cs 1, 120, .inl (zA (zU f xl xb)))), (w 2, .inl (cs 0, 60, .inl (zA g)))]) := zD_addr hD rfl
    subst hAe
    exact W.vret hx hb hr (fun t ht hW => ⟨⟨(), rfl, trivial, by rw [ht]; exact hP9, hD9⟩, hS.F ht⟩) hS.2.2 dX4_add_30
  · refine lv_aload_n hx hb dX4_add_9 rfl (lv_at hl 0 rfl) ?_
    refine va_get (D := D) (ci := 4) (v := .ref (w 1)) (C := RX4) (T := TX4) (N := 7) hx hb hts hiX4 hown hK hP 0 rfl rfl 0 (by decide) (hts (.fieldLink RX4 11 "ChargeEstimator$MeasurementText" "bytes" "[B") (List.mem_of_getElem? (i := 2) rfl)) (fun _ h9 => h9) rfl dX4_add_10 ?_
    refine lv_aload_n hx hb dX4_add_13 rfl (lv_at hl 0 rfl) ?_
    refine va_get (D := D) (ci := 4) (v := .int (zI xl)) (C := RX4) (T := TX4) (N := 7) hx hb hts hiX4 hown hK hP 0 rfl rfl 1 (by decide) (hts (.fieldLink RX4 19 "ChargeEstimator$MeasurementText" "size" "I") (List.mem_of_getElem? (i := 1) rfl)) (fun _ h9 => h9) rfl dX4_add_14 ?_
    refine lv_iload_n hx hb dX4_add_17 rfl (lv_at hl 1 rfl) ?_
    refine zr_i2b hx hb dX4_add_18 (by omega) ?_
    refine zr_bast (D := D) (g := f) hx hb hK hP hD hS 1 1 rfl rfl (by decide) (by omega) (by omega) dX4_add_19 (fun H locs hP hD hS => ?_)
    have hP : va_P D vwCl ([(w 0, .inr (4, [.ref (w 1), .int (zI xl), .ref (w 2), .int (zI xm), .int (zI xn), .int (zI xd), .int (zI xe)])), (w 1, .inl (cs 1, 120, .inl (zA (zU f xl xb)))), (w 2, .inl (cs 0, 60, .inl (zA g)))]) H := hP
    have hD : va_D A0 ([(w 0, .inr (4, [.ref (w 1), .int (zI xl), .ref (w 2), .int (zI xm), .int (zI xn), .int (zI xd), .int (zI xe)])), (w 1, .inl (cs 1, 120, .inl (zA (zU f xl xb)))), (w 2, .inl (cs 0, 60, .inl (zA g)))]) := zD_addr hD rfl
    refine lv_aload_n hx hb dX4_add_20 rfl (lv_at hl 0 rfl) ?_
    refine lv_dup hx hb dX4_add_21 rfl ?_
    refine va_get (D := D) (ci := 4) (v := .int (zI xl)) (C := RX4) (T := TX4) (N := 7) hx hb hts hiX4 hown hK hP 0 rfl rfl 1 (by decide) (hts (.fieldLink RX4 19 "ChargeEstimator$MeasurementText" "size" "I") (List.mem_of_getElem? (i := 1) rfl)) (fun _ h9 => h9) rfl dX4_add_22 ?_
    refine zr_iconst hx hb dX4_add_25 ?_
    refine zr_iadd hx hb dX4_add_26 ?_
    refine va_put (D := D) (ci := 4) (v := .int (zI (xl + 1))) (ty := .int) (C := RX4) (T := TX4) (N := 7) hx hb hts hiX4 tyX4 tyX4_ok nmX4 hown hK hP hD hS 0 rfl rfl 1 (by decide) (hts (.fieldLink RX4 19 "ChargeEstimator$MeasurementText" "size" "I") (List.mem_of_getElem? (i := 1) rfl)) (fun _ h9 => h9) rfl (by decide +kernel) rfl rfl (Nat.le_of_ble_eq_true rfl) dX4_add_27 (fun H locs hP hD hS => ?_)
    have hP : va_P D vwCl ([(w 0, .inr (4, [.ref (w 1), .int (zI (xl + 1)), .ref (w 2), .int (zI xm), .int (zI xn), .int (zI xd), .int (zI xe)])), (w 1, .inl (cs 1, 120, .inl (zA (zU f xl xb)))), (w 2, .inl (cs 0, 60, .inl (zA g)))]) H := hP
    have hD : va_D A0 ([(w 0, .inr (4, [.ref (w 1), .int (zI (xl + 1)), .ref (w 2), .int (zI xm), .int (zI xn), .int (zI xd), .int (zI xe)])), (w 1, .inl (cs 1, 120, .inl (zA (zU f xl xb)))), (w 2, .inl (cs 0, 60, .inl (zA g)))]) := zD_addr hD rfl
    have hP8 : va_P D vwCl ([(w 0, .inr (4, [.ref (w 1), .int (zI (xl + 1)), .ref (w 2), .int (zI xm), .int (zI xn), .int (zI xd), .int (zI xe)])), (w 1, .inl (cs 1, 120, .inl (zA (zU f xl xb)))), (w 2, .inl (cs 0, 60, .inl (zA g)))]) H := by first | (exfalso; omega) | exact hP
    have hP9 : va_P D vwCl ([(w 0, .inr (4, [.ref (w 1), .int (zI (xl + 1)), .ref (w 2), .int (zI xm), .int (zI xn), .int (zI xd), .int (zI xe)])), (w 1, .inl (cs 1, 120, .inl (zA (zU f xl xb)))), (w 2, .inl (cs 0, 60, .inl (zA g)))]) H := hP8
    have hD9 : va_D A0 ([(w 0, .inr (4, [.ref (w 1), .int (zI (xl + 1)), .ref (w 2), .int (zI xm), .int (zI xn), .int (zI xd), .int (zI xe)])), (w 1, .inl (cs 1, 120, .inl (zA (zU f xl xb)))), (w 2, .inl (cs 0, 60, .inl (zA g)))]) := zD_addr hD rfl
    subst hAe
    exact W.vret hx hb hr (fun t ht hW => ⟨⟨(), rfl, trivial, by rw [ht]; exact hP9, hD9⟩, hS.F ht⟩) hS.2.2 dX4_add_30
set_option maxHeartbeats 4000000 in
set_option maxRecDepth 100000 in
theorem met_X4_empty (l : Launch) (D : va_G) (cs : Nat → ClassId) (w : Nat → Nat) (sz : Nat) (f : Int → Int) (xl : Int) (g : Int → Int) (xm xn xd xe : Int)  : Met l yX4_empty wsX4_empty ({ frames := 0, cells := 0, slots := 0, locals := 0 }) (va_Pc [.ref (w 0)] (zPreZ D (zTy cs) ([(w 0, .inr (4, [.ref (w 1), .int (zI xl), .ref (w 2), .int (zI xm), .int (zI xn), .int (zI xd), .int (zI xe)])), (w 1, .inl (cs 1, 120, .inl (zA f))), (w 2, .inl (cs 0, 60, .inl (zA g)))]) sz)) (zQv D ([(w 0, .inr (4, [.ref (w 1), .int (zI xl), .ref (w 2), .int (zI xm), .int (zI xn), .int (zI xd), .int (zI xe)])), (w 1, .inl (cs 1, 120, .inl (zA f))), (w 2, .inl (cs 0, 60, .inl (zA g)))]) sz ([(w 0, .inr (4, [.ref (w 1), .int (zI 0), .ref (w 2), .int (zI xm), .int (zI xn), .int (zI xd), .int (zI xe)])), (w 1, .inl (cs 1, 120, .inl (zA f))), (w 2, .inl (cs 0, 60, .inl (zA g)))])) 0 0 (va_A ([(w 0, .inr (4, [.ref (w 1), .int (zI xl), .ref (w 2), .int (zI xm), .int (zI xn), .int (zI xd), .int (zI xe)])), (w 1, .inl (cs 1, 120, .inl (zA f))), (w 2, .inl (cs 0, 60, .inl (zA g)))]) sz) := by
  refine Met.ofW (cc := cX4_empty) (maxL := 1) (ret := none) (by decide) rfl ?_
  intro p e s m args below meth c s₁ B hml hv
  obtain ⟨rfl, hsz, hP, hK, hD0, hN⟩ := hv
  have hx := B.exec
  have hb := B.bytes
  have hr := B.returns
  have hts := atoms_spec (ws := wsX4_empty) B.pre
  have hown : s.vm.findClass RX4 = some m.cls := findClass_of_methodNamed B.named
  have hlocks := B.notSynchronized
  subst hsz
  obtain ⟨A0, hAe⟩ : ∃ A0, A0 = va_A ([(w 0, .inr (4, [.ref (w 1), .int (zI xl), .ref (w 2), .int (zI xm), .int (zI xn), .int (zI xd), .int (zI xe)])), (w 1, .inl (cs 1, 120, .inl (zA f))), (w 2, .inl (cs 0, 60, .inl (zA g)))]) s.heap.size := ⟨_, rfl⟩
  have hD := hD0.self (sz := s.heap.size)
  rw [← hAe] at hD
  have hA : ∀ q : Nat, s.heap.size ≤ q → A0 q := fun q h => by rw [hAe]; exact Or.inr h
  have hS : va_S A0 s.heap s.heap [] := va_S.rf
  have hP : va_P D vwCl ([(w 0, .inr (4, [.ref (w 1), .int (zI xl), .ref (w 2), .int (zI xm), .int (zI xn), .int (zI xd), .int (zI xe)])), (w 1, .inl (cs 1, 120, .inl (zA f))), (w 2, .inl (cs 0, 60, .inl (zA g)))]) s.heap := hP
  have hl := lv_entry ([.ref (w 0)]) (n := 1) (Nat.le_of_ble_eq_true rfl)
  rw [lg_entry_eq]
  generalize (lg_sl ([.ref (w 0)]) ++ List.replicate (1 - (lg_sl ([.ref (w 0)])).length) Slot.unset).toArray = ls at hl ⊢
  have hl : lv_has ls 1 [(0, .ref (w 0))] := hl
  have hiX4 : ∀ w ∈ wsX40, w ∈ wsX4_empty := by decide +kernel
  refine lv_aload_n hx hb dX4_empty_0 rfl (lv_at hl 0 rfl) ?_
  refine zr_iconst hx hb dX4_empty_1 ?_
  refine va_put (D := D) (ci := 4) (v := .int (zI 0)) (ty := .int) (C := RX4) (T := TX4) (N := 7) hx hb hts hiX4 tyX4 tyX4_ok nmX4 hown hK hP hD hS 0 rfl rfl 1 (by decide) (hts (.fieldLink RX4 19 "ChargeEstimator$MeasurementText" "size" "I") (List.mem_of_getElem? (i := 1) rfl)) (fun _ h9 => h9) rfl (by decide +kernel) rfl rfl (Nat.le_of_ble_eq_true rfl) dX4_empty_2 (fun H locs hP hD hS => ?_)
  have hP : va_P D vwCl ([(w 0, .inr (4, [.ref (w 1), .int (zI 0), .ref (w 2), .int (zI xm), .int (zI xn), .int (zI xd), .int (zI xe)])), (w 1, .inl (cs 1, 120, .inl (zA f))), (w 2, .inl (cs 0, 60, .inl (zA g)))]) H := hP
  have hD : va_D A0 ([(w 0, .inr (4, [.ref (w 1), .int (zI 0), .ref (w 2), .int (zI xm), .int (zI xn), .int (zI xd), .int (zI xe)])), (w 1, .inl (cs 1, 120, .inl (zA f))), (w 2, .inl (cs 0, 60, .inl (zA g)))]) := zD_addr hD rfl
  have hP9 : va_P D vwCl ([(w 0, .inr (4, [.ref (w 1), .int (zI 0), .ref (w 2), .int (zI xm), .int (zI xn), .int (zI xd), .int (zI xe)])), (w 1, .inl (cs 1, 120, .inl (zA f))), (w 2, .inl (cs 0, 60, .inl (zA g)))]) H := hP
  have hD9 : va_D A0 ([(w 0, .inr (4, [.ref (w 1), .int (zI 0), .ref (w 2), .int (zI xm), .int (zI xn), .int (zI xd), .int (zI xe)])), (w 1, .inl (cs 1, 120, .inl (zA f))), (w 2, .inl (cs 0, 60, .inl (zA g)))]) := zD_addr hD rfl
  subst hAe
  exact W.vret hx hb hr (fun t ht hW => ⟨⟨(), rfl, trivial, by rw [ht]; exact hP9, hD9⟩, hS.F ht⟩) hS.2.2 dX4_empty_5
set_option maxHeartbeats 4000000 in
set_option maxRecDepth 100000 in
theorem met_X4_measurements (l : Launch) (D : va_G) (cs : Nat → ClassId) (w : Nat → Nat) (f : Int → Int) (xl : Int) (g : Int → Int) (xm xn xd xe : Int) (km : 0 ≤ xm ∧ xm ≤ 60) : Met l yX4_measurements wsX4_measurements ({ frames := 0, cells := 0, slots := 0, locals := 0 }) (va_Pc [.ref (w 0)] (zPre D (zTy cs) ([(w 0, .inr (4, [.ref (w 1), .int (zI xl), .ref (w 2), .int (zI xm), .int (zI xn), .int (zI xd), .int (zI xe)])), (w 1, .inl (cs 1, 120, .inl (zA f))), (w 2, .inl (cs 0, 60, .inl (zA g)))]))) (zRi (zI (xm / 3))) 0 0 (fun _ => False) := by
  refine Met.ofW (cc := cX4_measurements) (maxL := 1) (ret := (some .int)) (by decide) rfl ?_
  intro p e s m args below meth c s₁ B hml hv
  obtain ⟨rfl, hP, hK, hD0, hN⟩ := hv
  have hx := B.exec
  have hb := B.bytes
  have hr := B.returns
  have hts := atoms_spec (ws := wsX4_measurements) B.pre
  have hown : s.vm.findClass RX4 = some m.cls := findClass_of_methodNamed B.named
  have hlocks := B.notSynchronized
  have hD := hD0
  have hl := lv_entry ([.ref (w 0)]) (n := 1) (Nat.le_of_ble_eq_true rfl)
  rw [lg_entry_eq]
  generalize (lg_sl ([.ref (w 0)]) ++ List.replicate (1 - (lg_sl ([.ref (w 0)])).length) Slot.unset).toArray = ls at hl ⊢
  have hl : lv_has ls 1 [(0, .ref (w 0))] := hl
  have hiX4 : ∀ w ∈ wsX40, w ∈ wsX4_measurements := by decide +kernel
  refine lv_aload_n hx hb dX4_measurements_0 rfl (lv_at hl 0 rfl) ?_
  refine va_get (D := D) (ci := 4) (v := .int (zI xm)) (C := RX4) (T := TX4) (N := 7) hx hb hts hiX4 hown hK hP 0 rfl rfl 3 (by decide) (hts (.fieldLink RX4 23 "ChargeEstimator$MeasurementText" "complete" "I") (List.mem_of_getElem? (i := 1) rfl)) (fun _ h9 => h9) rfl dX4_measurements_1 ?_
  refine zr_iconst hx hb dX4_measurements_4 ?_
  refine zr_idiv hx hb dX4_measurements_5 (by omega) (by decide) ?_
  exact W.iret hx hb hr (fun t ht hW => ⟨_, rfl, (congrArg zI (show xm / 3 = xm / 3 from by rfl)), ht⟩) (fun q hq => absurd hq List.not_mem_nil) dX4_measurements_6
set_option maxHeartbeats 4000000 in
set_option maxRecDepth 100000 in
theorem met_X4_number (l : Launch) (D : va_G) (cs : Nat → ClassId) (w : Nat → Nat) (f : Int → Int) (xl : Int) (g : Int → Int) (xm xn xd xe : Int) (xi xj : Int) (ki : 0 ≤ xi ∧ 0 ≤ xj ∧ xj ≤ 2 ∧ 3 * xi + xj < 60) : Met l yX4_number wsX4_number ({ frames := 0, cells := 0, slots := 0, locals := 0 }) (va_Pc [.ref (w 0), .int (zI xi), .int (zI xj)] (zPre D (zTy cs) ([(w 0, .inr (4, [.ref (w 1), .int (zI xl), .ref (w 2), .int (zI xm), .int (zI xn), .int (zI xd), .int (zI xe)])), (w 1, .inl (cs 1, 120, .inl (zA f))), (w 2, .inl (cs 0, 60, .inl (zA g)))]))) (zRi (zI (g (3 * xi + xj)))) 0 0 (fun _ => False) := by
  refine Met.ofW (cc := cX4_number) (maxL := 4) (ret := (some .int)) (by decide) rfl ?_
  intro p e s m args below meth c s₁ B hml hv
  obtain ⟨rfl, hP, hK, hD0, hN⟩ := hv
  have hx := B.exec
  have hb := B.bytes
  have hr := B.returns
  have hts := atoms_spec (ws := wsX4_number) B.pre
  have hown : s.vm.findClass RX4 = some m.cls := findClass_of_methodNamed B.named
  have hlocks := B.notSynchronized
  have hD := hD0
  have hl := lv_entry ([.ref (w 0), .int (zI xi), .int (zI xj)]) (n := 4) (Nat.le_of_ble_eq_true rfl)
  rw [lg_entry_eq]
  generalize (lg_sl ([.ref (w 0), .int (zI xi), .int (zI xj)]) ++ List.replicate (4 - (lg_sl ([.ref (w 0), .int (zI xi), .int (zI xj)])).length) Slot.unset).toArray = ls at hl ⊢
  have hl : lv_has ls 4 [(0, .ref (w 0)), (1, .int (zI xi)), (2, .int (zI xj))] := hl
  have hiX4 : ∀ w ∈ wsX40, w ∈ wsX4_number := by decide +kernel
  refine lv_iload_n hx hb dX4_number_0 rfl (lv_at hl 1 rfl) ?_
  refine zr_iconst hx hb dX4_number_1 ?_
  refine zr_imul hx hb dX4_number_2 ?_
  refine lv_iload_n hx hb dX4_number_3 rfl (lv_at hl 2 rfl) ?_
  refine zr_iadd hx hb dX4_number_4 ?_
  refine lv_istore_n (lv' := [(3, .int (zI ((xi * 3) + xj))), (0, .ref (w 0)), (1, .int (zI xi)), (2, .int (zI xj))]) hx hb dX4_number_5 rfl hl (by decide) rfl (fun ls hl => ?_)
  refine lv_iload_n hx hb dX4_number_6 rfl (lv_at hl 0 rfl) ?_
  refine zr_if_lt (tgt := 28) hx hb dX4_number_7 (by decide) (by omega) (fun c1 => ?_) (fun c1 => ?_)
  · refine zr_iconst hx hb dX4_number_28 ?_
    exact W.iret hx hb hr (fun t ht hW => ⟨_, rfl, (congrArg zI (show 0 = g (3 * xi + xj) from by congr 1; omega)), ht⟩) (fun q hq => absurd hq List.not_mem_nil) dX4_number_29
  · refine lv_iload_n hx hb dX4_number_10 rfl (lv_at hl 0 rfl) ?_
    refine lv_aload_n hx hb dX4_number_11 rfl (lv_at hl 1 rfl) ?_
    refine va_get (D := D) (ci := 4) (v := .ref (w 2)) (C := RX4) (T := TX4) (N := 7) hx hb hts hiX4 hown hK hP 0 rfl rfl 2 (by decide) (hts (.fieldLink RX4 15 "ChargeEstimator$MeasurementText" "numbers" "[I") (List.mem_of_getElem? (i := 1) rfl)) (fun _ h9 => h9) rfl dX4_number_12 ?_
    refine va_alen (v := zI 60) hx hb hK hP 2 rfl (t0 := 0) rfl rfl dX4_number_15 ?_
    refine zr_icmp_ge (tgt := 28) hx hb dX4_number_16 (by decide) (by omega) (by decide) (fun c2 => ?_) (fun c2 => ?_)
    · refine zr_iconst hx hb dX4_number_28 ?_
      exact W.iret hx hb hr (fun t ht hW => ⟨_, rfl, (congrArg zI (show 0 = g (3 * xi + xj) from by congr 1; omega)), ht⟩) (fun q hq => absurd hq List.not_mem_nil) dX4_number_29
    · refine lv_aload_n hx hb dX4_number_19 rfl (lv_at hl 1 rfl) ?_
      refine va_get (D := D) (ci := 4) (v := .ref (w 2)) (C := RX4) (T := TX4) (N := 7) hx hb hts hiX4 hown hK hP 0 rfl rfl 2 (by decide) (hts (.fieldLink RX4 15 "ChargeEstimator$MeasurementText" "numbers" "[I") (List.mem_of_getElem? (i := 1) rfl)) (fun _ h9 => h9) rfl dX4_number_20 ?_
      refine lv_iload_n hx hb dX4_number_23 rfl (lv_at hl 0 rfl) ?_
      refine zr_iald (D := D) (g := g) hx hb hK hP 2 0 rfl rfl (by decide) (by omega) dX4_number_24 ?_
      refine lv_goto (tgt := 29) hx hb dX4_number_25 (by decide) ?_
      exact W.iret hx hb hr (fun t ht hW => ⟨_, rfl, (congrArg zI (show g ((xi * 3) + xj) = g (3 * xi + xj) from by congr 1; omega)), ht⟩) (fun q hq => absurd hq List.not_mem_nil) dX4_number_29
set_option maxHeartbeats 4000000 in
set_option maxRecDepth 100000 in
theorem met_X4_beginNumber (l : Launch) (D : va_G) (cs : Nat → ClassId) (w : Nat → Nat) (sz : Nat) (f : Int → Int) (xl : Int) (g : Int → Int) (xm xn xd xe : Int)  : Met l yX4_beginNumber wsX4_beginNumber ({ frames := 0, cells := 0, slots := 0, locals := 0 }) (va_Pc [.ref (w 0)] (zPreZ D (zTy cs) ([(w 0, .inr (4, [.ref (w 1), .int (zI xl), .ref (w 2), .int (zI xm), .int (zI xn), .int (zI xd), .int (zI xe)])), (w 1, .inl (cs 1, 120, .inl (zA f))), (w 2, .inl (cs 0, 60, .inl (zA g)))]) sz)) (zQv D ([(w 0, .inr (4, [.ref (w 1), .int (zI xl), .ref (w 2), .int (zI xm), .int (zI xn), .int (zI xd), .int (zI xe)])), (w 1, .inl (cs 1, 120, .inl (zA f))), (w 2, .inl (cs 0, 60, .inl (zA g)))]) sz ([(w 0, .inr (4, [.ref (w 1), .int (zI xl), .ref (w 2), .int (zI xm), .int (zI 0), .int (zI 0), .int (zI 0)])), (w 1, .inl (cs 1, 120, .inl (zA f))), (w 2, .inl (cs 0, 60, .inl (zA g)))])) 0 0 (va_A ([(w 0, .inr (4, [.ref (w 1), .int (zI xl), .ref (w 2), .int (zI xm), .int (zI xn), .int (zI xd), .int (zI xe)])), (w 1, .inl (cs 1, 120, .inl (zA f))), (w 2, .inl (cs 0, 60, .inl (zA g)))]) sz) := by
  refine Met.ofW (cc := cX4_beginNumber) (maxL := 1) (ret := none) (by decide) rfl ?_
  intro p e s m args below meth c s₁ B hml hv
  obtain ⟨rfl, hsz, hP, hK, hD0, hN⟩ := hv
  have hx := B.exec
  have hb := B.bytes
  have hr := B.returns
  have hts := atoms_spec (ws := wsX4_beginNumber) B.pre
  have hown : s.vm.findClass RX4 = some m.cls := findClass_of_methodNamed B.named
  have hlocks := B.notSynchronized
  subst hsz
  obtain ⟨A0, hAe⟩ : ∃ A0, A0 = va_A ([(w 0, .inr (4, [.ref (w 1), .int (zI xl), .ref (w 2), .int (zI xm), .int (zI xn), .int (zI xd), .int (zI xe)])), (w 1, .inl (cs 1, 120, .inl (zA f))), (w 2, .inl (cs 0, 60, .inl (zA g)))]) s.heap.size := ⟨_, rfl⟩
  have hD := hD0.self (sz := s.heap.size)
  rw [← hAe] at hD
  have hA : ∀ q : Nat, s.heap.size ≤ q → A0 q := fun q h => by rw [hAe]; exact Or.inr h
  have hS : va_S A0 s.heap s.heap [] := va_S.rf
  have hP : va_P D vwCl ([(w 0, .inr (4, [.ref (w 1), .int (zI xl), .ref (w 2), .int (zI xm), .int (zI xn), .int (zI xd), .int (zI xe)])), (w 1, .inl (cs 1, 120, .inl (zA f))), (w 2, .inl (cs 0, 60, .inl (zA g)))]) s.heap := hP
  have hl := lv_entry ([.ref (w 0)]) (n := 1) (Nat.le_of_ble_eq_true rfl)
  rw [lg_entry_eq]
  generalize (lg_sl ([.ref (w 0)]) ++ List.replicate (1 - (lg_sl ([.ref (w 0)])).length) Slot.unset).toArray = ls at hl ⊢
  have hl : lv_has ls 1 [(0, .ref (w 0))] := hl
  have hiX4 : ∀ w ∈ wsX40, w ∈ wsX4_beginNumber := by decide +kernel
  refine lv_aload_n hx hb dX4_beginNumber_0 rfl (lv_at hl 0 rfl) ?_
  refine zr_iconst hx hb dX4_beginNumber_1 ?_
  refine va_put (D := D) (ci := 4) (v := .int (zI 0)) (ty := .int) (C := RX4) (T := TX4) (N := 7) hx hb hts hiX4 tyX4 tyX4_ok nmX4 hown hK hP hD hS 0 rfl rfl 4 (by decide) (hts (.fieldLink RX4 40 "ChargeEstimator$MeasurementText" "number" "I") (List.mem_of_getElem? (i := 1) rfl)) (fun _ h9 => h9) rfl (by decide +kernel) rfl rfl (Nat.le_of_ble_eq_true rfl) dX4_beginNumber_2 (fun H locs hP hD hS => ?_)
  have hP : va_P D vwCl ([(w 0, .inr (4, [.ref (w 1), .int (zI xl), .ref (w 2), .int (zI xm), .int (zI 0), .int (zI xd), .int (zI xe)])), (w 1, .inl (cs 1, 120, .inl (zA f))), (w 2, .inl (cs 0, 60, .inl (zA g)))]) H := hP
  have hD : va_D A0 ([(w 0, .inr (4, [.ref (w 1), .int (zI xl), .ref (w 2), .int (zI xm), .int (zI 0), .int (zI xd), .int (zI xe)])), (w 1, .inl (cs 1, 120, .inl (zA f))), (w 2, .inl (cs 0, 60, .inl (zA g)))]) := zD_addr hD rfl
  refine lv_aload_n hx hb dX4_beginNumber_5 rfl (lv_at hl 0 rfl) ?_
  refine zr_iconst hx hb dX4_beginNumber_6 ?_
  refine va_put (D := D) (ci := 4) (v := .int (zI 0)) (ty := .int) (C := RX4) (T := TX4) (N := 7) hx hb hts hiX4 tyX4 tyX4_ok nmX4 hown hK hP hD hS 0 rfl rfl 5 (by decide) (hts (.fieldLink RX4 33 "ChargeEstimator$MeasurementText" "digits" "I") (List.mem_of_getElem? (i := 2) rfl)) (fun _ h9 => h9) rfl (by decide +kernel) rfl rfl (Nat.le_of_ble_eq_true rfl) dX4_beginNumber_7 (fun H locs hP hD hS => ?_)
  have hP : va_P D vwCl ([(w 0, .inr (4, [.ref (w 1), .int (zI xl), .ref (w 2), .int (zI xm), .int (zI 0), .int (zI 0), .int (zI xe)])), (w 1, .inl (cs 1, 120, .inl (zA f))), (w 2, .inl (cs 0, 60, .inl (zA g)))]) H := hP
  have hD : va_D A0 ([(w 0, .inr (4, [.ref (w 1), .int (zI xl), .ref (w 2), .int (zI xm), .int (zI 0), .int (zI 0), .int (zI xe)])), (w 1, .inl (cs 1, 120, .inl (zA f))), (w 2, .inl (cs 0, 60, .inl (zA g)))]) := zD_addr hD rfl
  refine lv_aload_n hx hb dX4_beginNumber_10 rfl (lv_at hl 0 rfl) ?_
  refine zr_iconst hx hb dX4_beginNumber_11 ?_
  refine va_put (D := D) (ci := 4) (v := .int (zI 0)) (ty := .boolean) (C := RX4) (T := TX4) (N := 7) hx hb hts hiX4 tyX4 tyX4_ok nmX4 hown hK hP hD hS 0 rfl rfl 6 (by decide) (hts (.fieldLink RX4 36 "ChargeEstimator$MeasurementText" "negative" "Z") (List.mem_of_getElem? (i := 3) rfl)) (fun _ h9 => h9) rfl (by decide +kernel) (zbool_n (by decide)) (zbool_f (by decide)) (Nat.le_of_ble_eq_true rfl) dX4_beginNumber_12 (fun H locs hP hD hS => ?_)
  have hP : va_P D vwCl ([(w 0, .inr (4, [.ref (w 1), .int (zI xl), .ref (w 2), .int (zI xm), .int (zI 0), .int (zI 0), .int (zI 0)])), (w 1, .inl (cs 1, 120, .inl (zA f))), (w 2, .inl (cs 0, 60, .inl (zA g)))]) H := hP
  have hD : va_D A0 ([(w 0, .inr (4, [.ref (w 1), .int (zI xl), .ref (w 2), .int (zI xm), .int (zI 0), .int (zI 0), .int (zI 0)])), (w 1, .inl (cs 1, 120, .inl (zA f))), (w 2, .inl (cs 0, 60, .inl (zA g)))]) := zD_addr hD rfl
  have hP9 : va_P D vwCl ([(w 0, .inr (4, [.ref (w 1), .int (zI xl), .ref (w 2), .int (zI xm), .int (zI 0), .int (zI 0), .int (zI 0)])), (w 1, .inl (cs 1, 120, .inl (zA f))), (w 2, .inl (cs 0, 60, .inl (zA g)))]) H := hP
  have hD9 : va_D A0 ([(w 0, .inr (4, [.ref (w 1), .int (zI xl), .ref (w 2), .int (zI xm), .int (zI 0), .int (zI 0), .int (zI 0)])), (w 1, .inl (cs 1, 120, .inl (zA f))), (w 2, .inl (cs 0, 60, .inl (zA g)))]) := zD_addr hD rfl
  subst hAe
  exact W.vret hx hb hr (fun t ht hW => ⟨⟨(), rfl, trivial, by rw [ht]; exact hP9, hD9⟩, hS.F ht⟩) hS.2.2 dX4_beginNumber_15
set_option maxHeartbeats 4000000 in
set_option maxRecDepth 100000 in
theorem met_X4_takes (l : Launch) (D : va_G) (cs : Nat → ClassId) (w : Nat → Nat) (sz : Nat) (f : Int → Int) (xl : Int) (g : Int → Int) (xm xn xd xe : Int) (xb : Int) (km : 0 ≤ xm ∧ xm < 60) (kn : 0 ≤ xn ∧ xn ≤ 99999) (kd : 0 ≤ xd ∧ xd ≤ 5) (ke : 0 ≤ xe ∧ xe ≤ 1) (kb : -128 ≤ xb ∧ xb ≤ 127) : Met l yX4_takes wsX4_takes ({ frames := 1, cells := 0, slots := 0, locals := 20 }) (va_Pc [.ref (w 0), .int (zI xb)] (zPreZ D (zTy cs) ([(w 0, .inr (4, [.ref (w 1), .int (zI xl), .ref (w 2), .int (zI xm), .int (zI xn), .int (zI xd), .int (zI xe)])), (w 1, .inl (cs 1, 120, .inl (zA f))), (w 2, .inl (cs 0, 60, .inl (zA g)))]) sz)) (zQi D ([(w 0, .inr (4, [.ref (w 1), .int (zI xl), .ref (w 2), .int (zI xm), .int (zI xn), .int (zI xd), .int (zI xe)])), (w 1, .inl (cs 1, 120, .inl (zA f))), (w 2, .inl (cs 0, 60, .inl (zA g)))]) sz (zI (zIf3 xb xm xd (zB (xd = 0 ∧ xe = 0)) (zB (xd + 1 ≤ 5)) (1) (0))) ([(w 0, .inr (4, [.ref (w 1), .int (zI xl), .ref (w 2), .int (zI (zIf3 xb xm xd (xm) (xm) (xm + 1) (xm))), .int (zI (zIf3 xb xm xd (xn) (10 * xn + (xb - 48)) (0) (xn))), .int (zI (zIf3 xb xm xd (xd) (xd + 1) (0) (xd))), .int (zI (zIf3 xb xm xd (1) (xe) (0) (xe)))])), (w 1, .inl (cs 1, 120, .inl (zA f))), (w 2, .inl (cs 0, 60, .inl (zA (zIf3 xb xm xd (g) (g) (zU g xm (zSg xe xn)) (g)))))])) 0 0 (va_A ([(w 0, .inr (4, [.ref (w 1), .int (zI xl), .ref (w 2), .int (zI xm), .int (zI xn), .int (zI xd), .int (zI xe)])), (w 1, .inl (cs 1, 120, .inl (zA f))), (w 2, .inl (cs 0, 60, .inl (zA g)))]) sz) := by
  refine Met.ofW (cc := cX4_takes) (maxL := 3) (ret := (some .boolean)) (by decide) rfl ?_
  intro p e s m args below meth c s₁ B hml hv
  obtain ⟨rfl, hsz, hP, hK, hD0, hN⟩ := hv
  have hx := B.exec
  have hb := B.bytes
  have hr := B.returns
  have hts := atoms_spec (ws := wsX4_takes) B.pre
  have hown : s.vm.findClass RX4 = some m.cls := findClass_of_methodNamed B.named
  have hlocks := B.notSynchronized
  subst hsz
  obtain ⟨A0, hAe⟩ : ∃ A0, A0 = va_A ([(w 0, .inr (4, [.ref (w 1), .int (zI xl), .ref (w 2), .int (zI xm), .int (zI xn), .int (zI xd), .int (zI xe)])), (w 1, .inl (cs 1, 120, .inl (zA f))), (w 2, .inl (cs 0, 60, .inl (zA g)))]) s.heap.size := ⟨_, rfl⟩
  have hD := hD0.self (sz := s.heap.size)
  rw [← hAe] at hD
  have hA : ∀ q : Nat, s.heap.size ≤ q → A0 q := fun q h => by rw [hAe]; exact Or.inr h
  have hS : va_S A0 s.heap s.heap [] := va_S.rf
  have hP : va_P D vwCl ([(w 0, .inr (4, [.ref (w 1), .int (zI xl), .ref (w 2), .int (zI xm), .int (zI xn), .int (zI xd), .int (zI xe)])), (w 1, .inl (cs 1, 120, .inl (zA f))), (w 2, .inl (cs 0, 60, .inl (zA g)))]) s.heap := hP
  have hl := lv_entry ([.ref (w 0), .int (zI xb)]) (n := 3) (Nat.le_of_ble_eq_true rfl)
  rw [lg_entry_eq]
  generalize (lg_sl ([.ref (w 0), .int (zI xb)]) ++ List.replicate (3 - (lg_sl ([.ref (w 0), .int (zI xb)])).length) Slot.unset).toArray = ls at hl ⊢
  have hl : lv_has ls 3 [(0, .ref (w 0)), (1, .int (zI xb))] := hl
  have hiX4 : ∀ w ∈ wsX40, w ∈ wsX4_takes := by decide +kernel
  have hsp := zSep_r xm
  refine lv_iload_n hx hb dX4_takes_0 rfl (lv_at hl 1 rfl) ?_
  refine zr_bipush hx hb dX4_takes_1 (by decide) ?_
  refine zr_icmp_ne (tgt := 33) hx hb dX4_takes_3 (by decide) (by omega) (by decide) (fun c1 => ?_) (fun c1 => ?_)
  · refine lv_iload_n hx hb dX4_takes_33 rfl (lv_at hl 1 rfl) ?_
    refine zr_bipush hx hb dX4_takes_34 (by decide) ?_
    refine zr_icmp_lt (tgt := 85) hx hb dX4_takes_36 (by decide) (by omega) (by decide) (fun c2 => ?_) (fun c2 => ?_)
    · refine lv_aload_n hx hb dX4_takes_85 rfl (lv_at hl 0 rfl) ?_
      refine va_get (D := D) (ci := 4) (v := .int (zI xm)) (C := RX4) (T := TX4) (N := 7) hx hb hts hiX4 hown hK hP 0 rfl rfl 3 (by decide) (hts (.fieldLink RX4 23 "ChargeEstimator$MeasurementText" "complete" "I") (List.mem_of_getElem? (i := 4) rfl)) (fun _ h9 => h9) rfl dX4_takes_86 ?_
      refine zr_iconst hx hb dX4_takes_89 ?_
      refine zr_irem hx hb dX4_takes_90 (by omega) (by decide) ?_
      refine zr_iconst hx hb dX4_takes_91 ?_
      refine zr_icmp_ne (tgt := 100) hx hb dX4_takes_92 (by decide) (by omega) (by decide) (fun c3 => ?_) (fun c3 => ?_)
      · refine zr_bipush hx hb dX4_takes_100 (by decide) ?_
        refine lv_istore_n (lv' := [(2, .int (zI 44)), (0, .ref (w 0)), (1, .int (zI xb))]) hx hb dX4_takes_102 rfl hl (by decide) rfl (fun ls hl => ?_)
        refine lv_iload_n hx hb dX4_takes_103 rfl (lv_at hl 2 rfl) ?_
        refine lv_iload_n hx hb dX4_takes_104 rfl (lv_at hl 0 rfl) ?_
        refine zr_icmp_ne (tgt := 127) hx hb dX4_takes_105 (by decide) (by omega) (by decide) (fun c4 => ?_) (fun c4 => ?_)
        · refine zr_iconst hx hb dX4_takes_127 ?_
          have hP8 : va_P D vwCl ([(w 0, .inr (4, [.ref (w 1), .int (zI xl), .ref (w 2), .int (zI (zIf3 xb xm xd (xm) (xm) (xm + 1) (xm))), .int (zI (zIf3 xb xm xd (xn) (10 * xn + (xb - 48)) (0) (xn))), .int (zI (zIf3 xb xm xd (xd) (xd + 1) (0) (xd))), .int (zI (zIf3 xb xm xd (1) (xe) (0) (xe)))])), (w 1, .inl (cs 1, 120, .inl (zA f))), (w 2, .inl (cs 0, 60, .inl (zA (zIf3 xb xm xd (g) (g) (zU g xm (zSg xe xn)) (g)))))]) s.heap := by rw [zIf3_d (α := Int) (by omega) (by omega) (by omega), zIf3_d (α := Int → Int) (by omega) (by omega) (by omega)]; exact hP
          have hP9 : va_P D vwCl ([(w 0, .inr (4, [.ref (w 1), .int (zI xl), .ref (w 2), .int (zI (zIf3 xb xm xd (xm) (xm) (xm + 1) (xm))), .int (zI (zIf3 xb xm xd (xn) (10 * xn + (xb - 48)) (0) (xn))), .int (zI (zIf3 xb xm xd (xd) (xd + 1) (0) (xd))), .int (zI (zIf3 xb xm xd (1) (xe) (0) (xe)))])), (w 1, .inl (cs 1, 120, .inl (zA f))), (w 2, .inl (cs 0, 60, .inl (zA (zIf3 xb xm xd (g) (g) (zU g xm (zSg xe xn)) (g)))))]) s.heap := hP8
          have hD9 : va_D A0 ([(w 0, .inr (4, [.ref (w 1), .int (zI xl), .ref (w 2), .int (zI (zIf3 xb xm xd (xm) (xm) (xm + 1) (xm))), .int (zI (zIf3 xb xm xd (xn) (10 * xn + (xb - 48)) (0) (xn))), .int (zI (zIf3 xb xm xd (xd) (xd + 1) (0) (xd))), .int (zI (zIf3 xb xm xd (1) (xe) (0) (xe)))])), (w 1, .inl (cs 1, 120, .inl (zA f))), (w 2, .inl (cs 0, 60, .inl (zA (zIf3 xb xm xd (g) (g) (zU g xm (zSg xe xn)) (g)))))]) := zD_addr hD rfl
          subst hAe
          exact W.zret hx hb hr (zbool_n (by first | decide | exact zB_r _)) (fun t ht hW => ⟨⟨_, (), rfl, (congrArg zI (show 0 = zIf3 xb xm xd (zB (xd = 0 ∧ xe = 0)) (zB (xd + 1 ≤ 5)) (1) (0) from by first | (rw [zIf3_d (by omega) (by omega) (by omega)]; done) | (rw [zIf3_d (by omega) (by omega) (by omega)]; exact (zB_t (by omega)).symm) | (rw [zIf3_d (by omega) (by omega) (by omega)]; exact (zB_f (by omega)).symm))), by rw [ht]; exact hP9, hD9⟩, hS.F ht⟩) hS.2.2 dX4_takes_128
        · refine lv_aload_n hx hb dX4_takes_108 rfl (lv_at hl 1 rfl) ?_
          refine va_get (D := D) (ci := 4) (v := .int (zI xd)) (C := RX4) (T := TX4) (N := 7) hx hb hts hiX4 hown hK hP 0 rfl rfl 5 (by decide) (hts (.fieldLink RX4 33 "ChargeEstimator$MeasurementText" "digits" "I") (List.mem_of_getElem? (i := 1) rfl)) (fun _ h9 => h9) rfl dX4_takes_109 ?_
          refine zr_if_eq (tgt := 127) hx hb dX4_takes_112 (by decide) (by omega) (fun c5 => ?_) (fun c5 => ?_)
          · refine zr_iconst hx hb dX4_takes_127 ?_
            have hP8 : va_P D vwCl ([(w 0, .inr (4, [.ref (w 1), .int (zI xl), .ref (w 2), .int (zI (zIf3 xb xm xd (xm) (xm) (xm + 1) (xm))), .int (zI (zIf3 xb xm xd (xn) (10 * xn + (xb - 48)) (0) (xn))), .int (zI (zIf3 xb xm xd (xd) (xd + 1) (0) (xd))), .int (zI (zIf3 xb xm xd (1) (xe) (0) (xe)))])), (w 1, .inl (cs 1, 120, .inl (zA f))), (w 2, .inl (cs 0, 60, .inl (zA (zIf3 xb xm xd (g) (g) (zU g xm (zSg xe xn)) (g)))))]) s.heap := by rw [zIf3_d (α := Int) (by omega) (by omega) (by omega), zIf3_d (α := Int → Int) (by omega) (by omega) (by omega)]; exact hP
            have hP9 : va_P D vwCl ([(w 0, .inr (4, [.ref (w 1), .int (zI xl), .ref (w 2), .int (zI (zIf3 xb xm xd (xm) (xm) (xm + 1) (xm))), .int (zI (zIf3 xb xm xd (xn) (10 * xn + (xb - 48)) (0) (xn))), .int (zI (zIf3 xb xm xd (xd) (xd + 1) (0) (xd))), .int (zI (zIf3 xb xm xd (1) (xe) (0) (xe)))])), (w 1, .inl (cs 1, 120, .inl (zA f))), (w 2, .inl (cs 0, 60, .inl (zA (zIf3 xb xm xd (g) (g) (zU g xm (zSg xe xn)) (g)))))]) s.heap := hP8
            have hD9 : va_D A0 ([(w 0, .inr (4, [.ref (w 1), .int (zI xl), .ref (w 2), .int (zI (zIf3 xb xm xd (xm) (xm) (xm + 1) (xm))), .int (zI (zIf3 xb xm xd (xn) (10 * xn + (xb - 48)) (0) (xn))), .int (zI (zIf3 xb xm xd (xd) (xd + 1) (0) (xd))), .int (zI (zIf3 xb xm xd (1) (xe) (0) (xe)))])), (w 1, .inl (cs 1, 120, .inl (zA f))), (w 2, .inl (cs 0, 60, .inl (zA (zIf3 xb xm xd (g) (g) (zU g xm (zSg xe xn)) (g)))))]) := zD_addr hD rfl
            subst hAe
            exact W.zret hx hb hr (zbool_n (by first | decide | exact zB_r _)) (fun t ht hW => ⟨⟨_, (), rfl, (congrArg zI (show 0 = zIf3 xb xm xd (zB (xd = 0 ∧ xe = 0)) (zB (xd + 1 ≤ 5)) (1) (0) from by first | (rw [zIf3_d (by omega) (by omega) (by omega)]; done) | (rw [zIf3_d (by omega) (by omega) (by omega)]; exact (zB_t (by omega)).symm) | (rw [zIf3_d (by omega) (by omega) (by omega)]; exact (zB_f (by omega)).symm))), by rw [ht]; exact hP9, hD9⟩, hS.F ht⟩) hS.2.2 dX4_takes_128
          · refine lv_aload_n hx hb dX4_takes_115 rfl (lv_at hl 1 rfl) ?_
            refine va_get (D := D) (ci := 4) (v := .int (zI xm)) (C := RX4) (T := TX4) (N := 7) hx hb hts hiX4 hown hK hP 0 rfl rfl 3 (by decide) (hts (.fieldLink RX4 23 "ChargeEstimator$MeasurementText" "complete" "I") (List.mem_of_getElem? (i := 4) rfl)) (fun _ h9 => h9) rfl dX4_takes_116 ?_
            refine lv_aload_n hx hb dX4_takes_119 rfl (lv_at hl 1 rfl) ?_
            refine va_get (D := D) (ci := 4) (v := .ref (w 2)) (C := RX4) (T := TX4) (N := 7) hx hb hts hiX4 hown hK hP 0 rfl rfl 2 (by decide) (hts (.fieldLink RX4 15 "ChargeEstimator$MeasurementText" "numbers" "[I") (List.mem_of_getElem? (i := 5) rfl)) (fun _ h9 => h9) rfl dX4_takes_120 ?_
            refine va_alen (v := zI 60) hx hb hK hP 2 rfl (t0 := 0) rfl rfl dX4_takes_123 ?_
            refine zr_icmp_lt (tgt := 129) hx hb dX4_takes_124 (by decide) (by omega) (by decide) (fun c6 => ?_) (fun c6 => ?_)
            · refine lv_aload_n hx hb dX4_takes_129 rfl (lv_at hl 1 rfl) ?_
              refine va_get (D := D) (ci := 4) (v := .ref (w 2)) (C := RX4) (T := TX4) (N := 7) hx hb hts hiX4 hown hK hP 0 rfl rfl 2 (by decide) (hts (.fieldLink RX4 15 "ChargeEstimator$MeasurementText" "numbers" "[I") (List.mem_of_getElem? (i := 5) rfl)) (fun _ h9 => h9) rfl dX4_takes_130 ?_
              refine lv_aload_n hx hb dX4_takes_133 rfl (lv_at hl 1 rfl) ?_
              refine va_get (D := D) (ci := 4) (v := .int (zI xm)) (C := RX4) (T := TX4) (N := 7) hx hb hts hiX4 hown hK hP 0 rfl rfl 3 (by decide) (hts (.fieldLink RX4 23 "ChargeEstimator$MeasurementText" "complete" "I") (List.mem_of_getElem? (i := 4) rfl)) (fun _ h9 => h9) rfl dX4_takes_134 ?_
              refine lv_aload_n hx hb dX4_takes_137 rfl (lv_at hl 1 rfl) ?_
              refine va_get (D := D) (ci := 4) (v := .int (zI xe)) (C := RX4) (T := TX4) (N := 7) hx hb hts hiX4 hown hK hP 0 rfl rfl 6 (by decide) (hts (.fieldLink RX4 36 "ChargeEstimator$MeasurementText" "negative" "Z") (List.mem_of_getElem? (i := 2) rfl)) (fun _ h9 => h9) rfl dX4_takes_138 ?_
              refine zr_if_eq (tgt := 152) hx hb dX4_takes_141 (by decide) (by omega) (fun c7 => ?_) (fun c7 => ?_)
              · refine lv_aload_n hx hb dX4_takes_152 rfl (lv_at hl 1 rfl) ?_
                refine va_get (D := D) (ci := 4) (v := .int (zI xn)) (C := RX4) (T := TX4) (N := 7) hx hb hts hiX4 hown hK hP 0 rfl rfl 4 (by decide) (hts (.fieldLink RX4 40 "ChargeEstimator$MeasurementText" "number" "I") (List.mem_of_getElem? (i := 3) rfl)) (fun _ h9 => h9) rfl dX4_takes_153 ?_
                refine zr_iast (D := D) (g := g) hx hb hK hP hD hS 2 0 rfl rfl (by decide) (by omega) dX4_takes_156 (fun H locs hP hD hS => ?_)
                have hP : va_P D vwCl ([(w 0, .inr (4, [.ref (w 1), .int (zI xl), .ref (w 2), .int (zI xm), .int (zI xn), .int (zI xd), .int (zI xe)])), (w 1, .inl (cs 1, 120, .inl (zA f))), (w 2, .inl (cs 0, 60, .inl (zA (zU g xm xn))))]) H := hP
                have hD : va_D A0 ([(w 0, .inr (4, [.ref (w 1), .int (zI xl), .ref (w 2), .int (zI xm), .int (zI xn), .int (zI xd), .int (zI xe)])), (w 1, .inl (cs 1, 120, .inl (zA f))), (w 2, .inl (cs 0, 60, .inl (zA (zU g xm xn))))]) := zD_addr hD rfl
                refine lv_aload_n hx hb dX4_takes_157 rfl (lv_at hl 1 rfl) ?_
                refine lv_dup hx hb dX4_takes_158 rfl ?_
                refine va_get (D := D) (ci := 4) (v := .int (zI xm)) (C := RX4) (T := TX4) (N := 7) hx hb hts hiX4 hown hK hP 0 rfl rfl 3 (by decide) (hts (.fieldLink RX4 23 "ChargeEstimator$MeasurementText" "complete" "I") (List.mem_of_getElem? (i := 4) rfl)) (fun _ h9 => h9) rfl dX4_takes_159 ?_
                refine zr_iconst hx hb dX4_takes_162 ?_
                refine zr_iadd hx hb dX4_takes_163 ?_
                refine va_put (D := D) (ci := 4) (v := .int (zI (xm + 1))) (ty := .int) (C := RX4) (T := TX4) (N := 7) hx hb hts hiX4 tyX4 tyX4_ok nmX4 hown hK hP hD hS 0 rfl rfl 3 (by decide) (hts (.fieldLink RX4 23 "ChargeEstimator$MeasurementText" "complete" "I") (List.mem_of_getElem? (i := 4) rfl)) (fun _ h9 => h9) rfl (by decide +kernel) rfl rfl (Nat.le_of_ble_eq_true rfl) dX4_takes_164 (fun H locs hP hD hS => ?_)
                have hP : va_P D vwCl ([(w 0, .inr (4, [.ref (w 1), .int (zI xl), .ref (w 2), .int (zI (xm + 1)), .int (zI xn), .int (zI xd), .int (zI xe)])), (w 1, .inl (cs 1, 120, .inl (zA f))), (w 2, .inl (cs 0, 60, .inl (zA (zU g xm xn))))]) H := hP
                have hD : va_D A0 ([(w 0, .inr (4, [.ref (w 1), .int (zI xl), .ref (w 2), .int (zI (xm + 1)), .int (zI xn), .int (zI xd), .int (zI xe)])), (w 1, .inl (cs 1, 120, .inl (zA f))), (w 2, .inl (cs 0, 60, .inl (zA (zU g xm xn))))]) := zD_addr hD rfl
                refine lv_aload_n hx hb dX4_takes_167 rfl (lv_at hl 1 rfl) ?_
                refine zc_vj (w := [(w 0, .inr (4, [.ref (w 1), .int (zI xl), .ref (w 2), .int (zI (xm + 1)), .int (zI xn), .int (zI xd), .int (zI xe)])), (w 1, .inl (cs 1, 120, .inl (zA f))), (w 2, .inl (cs 0, 60, .inl (zA (zU g xm xn))))]) (wr := []) (va_runV (As := []) (rest := []) ⟨hx, hb, hml, hown, hts⟩ (met_X4_beginNumber l D cs w H.size f xl (zU g xm xn) (xm + 1) xn xd xe ) (cwV 0 hts gX4_takes_X4_beginNumber rfl rfl rfl (by decide +kernel) ⟨Nat.le_of_ble_eq_true rfl, Nat.le_of_ble_eq_true rfl⟩) ⟨zPreZ.blind, va_recv hK hP (ci := 4) (q0 := 0) rfl rfl, fun U hU hW => zp_Z (hP.sub (ws' := [(w 0, .inr (4, [.ref (w 1), .int (zI xl), .ref (w 2), .int (zI (xm + 1)), .int (zI xn), .int (zI xd), .int (zI xe)])), (w 1, .inl (cs 1, 120, .inl (zA f))), (w 2, .inl (cs 0, 60, .inl (zA (zU g xm xn))))]) [0, 1, 2] rfl) hK (hD.sub (ws' := [(w 0, .inr (4, [.ref (w 1), .int (zI xl), .ref (w 2), .int (zI (xm + 1)), .int (zI xn), .int (zI xd), .int (zI xe)])), (w 1, .inl (cs 1, 120, .inl (zA f))), (w 2, .inl (cs 0, 60, .inl (zA (zU g xm xn))))]) [0, 1, 2] (by decide) rfl) hN hU hW⟩ rfl rfl hl.1 rfl (lv_room (Nat.le_of_ble_eq_true rfl)) dX4_takes_168 ⟨Nat.le_of_ble_eq_true rfl, Nat.le_of_ble_eq_true rfl⟩) hS hP hD hA [0, 1, 2] [] rfl rfl (by decide) (by decide) (fun H locs hP hD hS => ?_)
                have hP : va_P D vwCl ([(w 0, .inr (4, [.ref (w 1), .int (zI xl), .ref (w 2), .int (zI (xm + 1)), .int (zI 0), .int (zI 0), .int (zI 0)])), (w 1, .inl (cs 1, 120, .inl (zA f))), (w 2, .inl (cs 0, 60, .inl (zA (zU g xm xn))))]) H := hP.sub (ws' := [(w 0, .inr (4, [.ref (w 1), .int (zI xl), .ref (w 2), .int (zI (xm + 1)), .int (zI 0), .int (zI 0), .int (zI 0)])), (w 1, .inl (cs 1, 120, .inl (zA f))), (w 2, .inl (cs 0, 60, .inl (zA (zU g xm xn))))]) [0, 1, 2] rfl
                have hD : va_D A0 ([(w 0, .inr (4, [.ref (w 1), .int (zI xl), .ref (w 2), .int (zI (xm + 1)), .int (zI 0), .int (zI 0), .int (zI 0)])), (w 1, .inl (cs 1, 120, .inl (zA f))), (w 2, .inl (cs 0, 60, .inl (zA (zU g xm xn))))]) := hD.sub (ws' := [(w 0, .inr (4, [.ref (w 1), .int (zI xl), .ref (w 2), .int (zI (xm + 1)), .int (zI 0), .int (zI 0), .int (zI 0)])), (w 1, .inl (cs 1, 120, .inl (zA f))), (w 2, .inl (cs 0, 60, .inl (zA (zU g xm xn))))]) [0, 1, 2] (by decide) rfl
                refine zr_iconst hx hb dX4_takes_171 ?_
                have hP8 : va_P D vwCl ([(w 0, .inr (4, [.ref (w 1), .int (zI xl), .ref (w 2), .int (zI (zIf3 xb xm xd (xm) (xm) (xm + 1) (xm))), .int (zI (zIf3 xb xm xd (xn) (10 * xn + (xb - 48)) (0) (xn))), .int (zI (zIf3 xb xm xd (xd) (xd + 1) (0) (xd))), .int (zI (zIf3 xb xm xd (1) (xe) (0) (xe)))])), (w 1, .inl (cs 1, 120, .inl (zA f))), (w 2, .inl (cs 0, 60, .inl (zA (zIf3 xb xm xd (g) (g) (zU g xm (zSg xe xn)) (g)))))]) H := by rw [zIf3_c (α := Int) (by omega), zIf3_c (α := Int → Int) (by omega)]; first | (rw [show zSg xe xn = xn from if_pos (by omega)]; exact hP) | (rw [show zSg xe xn = -xn from if_neg (by omega)]; exact hP)
                have hP9 : va_P D vwCl ([(w 0, .inr (4, [.ref (w 1), .int (zI xl), .ref (w 2), .int (zI (zIf3 xb xm xd (xm) (xm) (xm + 1) (xm))), .int (zI (zIf3 xb xm xd (xn) (10 * xn + (xb - 48)) (0) (xn))), .int (zI (zIf3 xb xm xd (xd) (xd + 1) (0) (xd))), .int (zI (zIf3 xb xm xd (1) (xe) (0) (xe)))])), (w 1, .inl (cs 1, 120, .inl (zA f))), (w 2, .inl (cs 0, 60, .inl (zA (zIf3 xb xm xd (g) (g) (zU g xm (zSg xe xn)) (g)))))]) H := hP8
                have hD9 : va_D A0 ([(w 0, .inr (4, [.ref (w 1), .int (zI xl), .ref (w 2), .int (zI (zIf3 xb xm xd (xm) (xm) (xm + 1) (xm))), .int (zI (zIf3 xb xm xd (xn) (10 * xn + (xb - 48)) (0) (xn))), .int (zI (zIf3 xb xm xd (xd) (xd + 1) (0) (xd))), .int (zI (zIf3 xb xm xd (1) (xe) (0) (xe)))])), (w 1, .inl (cs 1, 120, .inl (zA f))), (w 2, .inl (cs 0, 60, .inl (zA (zIf3 xb xm xd (g) (g) (zU g xm (zSg xe xn)) (g)))))]) := zD_addr hD rfl
                subst hAe
                exact W.zret hx hb hr (zbool_n (by first | decide | exact zB_r _)) (fun t ht hW => ⟨⟨_, (), rfl, (congrArg zI (show 1 = zIf3 xb xm xd (zB (xd = 0 ∧ xe = 0)) (zB (xd + 1 ≤ 5)) (1) (0) from by first | (rw [zIf3_c (by omega)]; done) | (rw [zIf3_c (by omega)]; exact (zB_t (by omega)).symm) | (rw [zIf3_c (by omega)]; exact (zB_f (by omega)).symm))), by rw [ht]; exact hP9, hD9⟩, hS.F ht⟩) hS.2.2 dX4_takes_172
              · refine lv_aload_n hx hb dX4_takes_144 rfl (lv_at hl 1 rfl) ?_
                refine va_get (D := D) (ci := 4) (v := .int (zI xn)) (C := RX4) (T := TX4) (N := 7) hx hb hts hiX4 hown hK hP 0 rfl rfl 4 (by decide) (hts (.fieldLink RX4 40 "ChargeEstimator$MeasurementText" "number" "I") (List.mem_of_getElem? (i := 3) rfl)) (fun _ h9 => h9) rfl dX4_takes_145 ?_
                refine zr_ineg hx hb dX4_takes_148 ?_
                refine lv_goto (tgt := 156) hx hb dX4_takes_149 (by decide) ?_
                refine zr_iast (D := D) (g := g) hx hb hK hP hD hS 2 0 rfl rfl (by decide) (by omega) dX4_takes_156 (fun H locs hP hD hS => ?_)
                have hP : va_P D vwCl ([(w 0, .inr (4, [.ref (w 1), .int (zI xl), .ref (w 2), .int (zI xm), .int (zI xn), .int (zI xd), .int (zI xe)])), (w 1, .inl (cs 1, 120, .inl (zA f))), (w 2, .inl (cs 0, 60, .inl (zA (zU g xm (-xn)))))]) H := hP
                have hD : va_D A0 ([(w 0, .inr (4, [.ref (w 1), .int (zI xl), .ref (w 2), .int (zI xm), .int (zI xn), .int (zI xd), .int (zI xe)])), (w 1, .inl (cs 1, 120, .inl (zA f))), (w 2, .inl (cs 0, 60, .inl (zA (zU g xm (-xn)))))]) := zD_addr hD rfl
                refine lv_aload_n hx hb dX4_takes_157 rfl (lv_at hl 1 rfl) ?_
                refine lv_dup hx hb dX4_takes_158 rfl ?_
                refine va_get (D := D) (ci := 4) (v := .int (zI xm)) (C := RX4) (T := TX4) (N := 7) hx hb hts hiX4 hown hK hP 0 rfl rfl 3 (by decide) (hts (.fieldLink RX4 23 "ChargeEstimator$MeasurementText" "complete" "I") (List.mem_of_getElem? (i := 4) rfl)) (fun _ h9 => h9) rfl dX4_takes_159 ?_
                refine zr_iconst hx hb dX4_takes_162 ?_
                refine zr_iadd hx hb dX4_takes_163 ?_
                refine va_put (D := D) (ci := 4) (v := .int (zI (xm + 1))) (ty := .int) (C := RX4) (T := TX4) (N := 7) hx hb hts hiX4 tyX4 tyX4_ok nmX4 hown hK hP hD hS 0 rfl rfl 3 (by decide) (hts (.fieldLink RX4 23 "ChargeEstimator$MeasurementText" "complete" "I") (List.mem_of_getElem? (i := 4) rfl)) (fun _ h9 => h9) rfl (by decide +kernel) rfl rfl (Nat.le_of_ble_eq_true rfl) dX4_takes_164 (fun H locs hP hD hS => ?_)
                have hP : va_P D vwCl ([(w 0, .inr (4, [.ref (w 1), .int (zI xl), .ref (w 2), .int (zI (xm + 1)), .int (zI xn), .int (zI xd), .int (zI xe)])), (w 1, .inl (cs 1, 120, .inl (zA f))), (w 2, .inl (cs 0, 60, .inl (zA (zU g xm (-xn)))))]) H := hP
                have hD : va_D A0 ([(w 0, .inr (4, [.ref (w 1), .int (zI xl), .ref (w 2), .int (zI (xm + 1)), .int (zI xn), .int (zI xd), .int (zI xe)])), (w 1, .inl (cs 1, 120, .inl (zA f))), (w 2, .inl (cs 0, 60, .inl (zA (zU g xm (-xn)))))]) := zD_addr hD rfl
                refine lv_aload_n hx hb dX4_takes_167 rfl (lv_at hl 1 rfl) ?_
                refine zc_vj (w := [(w 0, .inr (4, [.ref (w 1), .int (zI xl), .ref (w 2), .int (zI (xm + 1)), .int (zI xn), .int (zI xd), .int (zI xe)])), (w 1, .inl (cs 1, 120, .inl (zA f))), (w 2, .inl (cs 0, 60, .inl (zA (zU g xm (-xn)))))]) (wr := []) (va_runV (As := []) (rest := []) ⟨hx, hb, hml, hown, hts⟩ (met_X4_beginNumber l D cs w H.size f xl (zU g xm (-xn)) (xm + 1) xn xd xe ) (cwV 0 hts gX4_takes_X4_beginNumber rfl rfl rfl (by decide +kernel) ⟨Nat.le_of_ble_eq_true rfl, Nat.le_of_ble_eq_true rfl⟩) ⟨zPreZ.blind, va_recv hK hP (ci := 4) (q0 := 0) rfl rfl, fun U hU hW => zp_Z (hP.sub (ws' := [(w 0, .inr (4, [.ref (w 1), .int (zI xl), .ref (w 2), .int (zI (xm + 1)), .int (zI xn), .int (zI xd), .int (zI xe)])), (w 1, .inl (cs 1, 120, .inl (zA f))), (w 2, .inl (cs 0, 60, .inl (zA (zU g xm (-xn)))))]) [0, 1, 2] rfl) hK (hD.sub (ws' := [(w 0, .inr (4, [.ref (w 1), .int (zI xl), .ref (w 2), .int (zI (xm + 1)), .int (zI xn), .int (zI xd), .int (zI xe)])), (w 1, .inl (cs 1, 120, .inl (zA f))), (w 2, .inl (cs 0, 60, .inl (zA (zU g xm (-xn)))))]) [0, 1, 2] (by decide) rfl) hN hU hW⟩ rfl rfl hl.1 rfl (lv_room (Nat.le_of_ble_eq_true rfl)) dX4_takes_168 ⟨Nat.le_of_ble_eq_true rfl, Nat.le_of_ble_eq_true rfl⟩) hS hP hD hA [0, 1, 2] [] rfl rfl (by decide) (by decide) (fun H locs hP hD hS => ?_)
                have hP : va_P D vwCl ([(w 0, .inr (4, [.ref (w 1), .int (zI xl), .ref (w 2), .int (zI (xm + 1)), .int (zI 0), .int (zI 0), .int (zI 0)])), (w 1, .inl (cs 1, 120, .inl (zA f))), (w 2, .inl (cs 0, 60, .inl (zA (zU g xm (-xn)))))]) H := hP.sub (ws' := [(w 0, .inr (4, [.ref (w 1), .int (zI xl), .ref (w 2), .int (zI (xm + 1)), .int (zI 0), .int (zI 0), .int (zI 0)])), (w 1, .inl (cs 1, 120, .inl (zA f))), (w 2, .inl (cs 0, 60, .inl (zA (zU g xm (-xn)))))]) [0, 1, 2] rfl
                have hD : va_D A0 ([(w 0, .inr (4, [.ref (w 1), .int (zI xl), .ref (w 2), .int (zI (xm + 1)), .int (zI 0), .int (zI 0), .int (zI 0)])), (w 1, .inl (cs 1, 120, .inl (zA f))), (w 2, .inl (cs 0, 60, .inl (zA (zU g xm (-xn)))))]) := hD.sub (ws' := [(w 0, .inr (4, [.ref (w 1), .int (zI xl), .ref (w 2), .int (zI (xm + 1)), .int (zI 0), .int (zI 0), .int (zI 0)])), (w 1, .inl (cs 1, 120, .inl (zA f))), (w 2, .inl (cs 0, 60, .inl (zA (zU g xm (-xn)))))]) [0, 1, 2] (by decide) rfl
                refine zr_iconst hx hb dX4_takes_171 ?_
                have hP8 : va_P D vwCl ([(w 0, .inr (4, [.ref (w 1), .int (zI xl), .ref (w 2), .int (zI (zIf3 xb xm xd (xm) (xm) (xm + 1) (xm))), .int (zI (zIf3 xb xm xd (xn) (10 * xn + (xb - 48)) (0) (xn))), .int (zI (zIf3 xb xm xd (xd) (xd + 1) (0) (xd))), .int (zI (zIf3 xb xm xd (1) (xe) (0) (xe)))])), (w 1, .inl (cs 1, 120, .inl (zA f))), (w 2, .inl (cs 0, 60, .inl (zA (zIf3 xb xm xd (g) (g) (zU g xm (zSg xe xn)) (g)))))]) H := by rw [zIf3_c (α := Int) (by omega), zIf3_c (α := Int → Int) (by omega)]; first | (rw [show zSg xe xn = xn from if_pos (by omega)]; exact hP) | (rw [show zSg xe xn = -xn from if_neg (by omega)]; exact hP)
                have hP9 : va_P D vwCl ([(w 0, .inr (4, [.ref (w 1), .int (zI xl), .ref (w 2), .int (zI (zIf3 xb xm xd (xm) (xm) (xm + 1) (xm))), .int (zI (zIf3 xb xm xd (xn) (10 * xn + (xb - 48)) (0) (xn))), .int (zI (zIf3 xb xm xd (xd) (xd + 1) (0) (xd))), .int (zI (zIf3 xb xm xd (1) (xe) (0) (xe)))])), (w 1, .inl (cs 1, 120, .inl (zA f))), (w 2, .inl (cs 0, 60, .inl (zA (zIf3 xb xm xd (g) (g) (zU g xm (zSg xe xn)) (g)))))]) H := hP8
                have hD9 : va_D A0 ([(w 0, .inr (4, [.ref (w 1), .int (zI xl), .ref (w 2), .int (zI (zIf3 xb xm xd (xm) (xm) (xm + 1) (xm))), .int (zI (zIf3 xb xm xd (xn) (10 * xn + (xb - 48)) (0) (xn))), .int (zI (zIf3 xb xm xd (xd) (xd + 1) (0) (xd))), .int (zI (zIf3 xb xm xd (1) (xe) (0) (xe)))])), (w 1, .inl (cs 1, 120, .inl (zA f))), (w 2, .inl (cs 0, 60, .inl (zA (zIf3 xb xm xd (g) (g) (zU g xm (zSg xe xn)) (g)))))]) := zD_addr hD rfl
                subst hAe
                exact W.zret hx hb hr (zbool_n (by first | decide | exact zB_r _)) (fun t ht hW => ⟨⟨_, (), rfl, (congrArg zI (show 1 = zIf3 xb xm xd (zB (xd = 0 ∧ xe = 0)) (zB (xd + 1 ≤ 5)) (1) (0) from by first | (rw [zIf3_c (by omega)]; done) | (rw [zIf3_c (by omega)]; exact (zB_t (by omega)).symm) | (rw [zIf3_c (by omega)]; exact (zB_f (by omega)).symm))), by rw [ht]; exact hP9, hD9⟩, hS.F ht⟩) hS.2.2 dX4_takes_172
            · refine zr_iconst hx hb dX4_takes_127 ?_
              have hP8 : va_P D vwCl ([(w 0, .inr (4, [.ref (w 1), .int (zI xl), .ref (w 2), .int (zI (zIf3 xb xm xd (xm) (xm) (xm + 1) (xm))), .int (zI (zIf3 xb xm xd (xn) (10 * xn + (xb - 48)) (0) (xn))), .int (zI (zIf3 xb xm xd (xd) (xd + 1) (0) (xd))), .int (zI (zIf3 xb xm xd (1) (xe) (0) (xe)))])), (w 1, .inl (cs 1, 120, .inl (zA f))), (w 2, .inl (cs 0, 60, .inl (zA (zIf3 xb xm xd (g) (g) (zU g xm (zSg xe xn)) (g)))))]) s.heap := by rw [zIf3_d (α := Int) (by omega) (by omega) (by omega), zIf3_d (α := Int → Int) (by omega) (by omega) (by omega)]; exact hP
              have hP9 : va_P D vwCl ([(w 0, .inr (4, [.ref (w 1), .int (zI xl), .ref (w 2), .int (zI (zIf3 xb xm xd (xm) (xm) (xm + 1) (xm))), .int (zI (zIf3 xb xm xd (xn) (10 * xn + (xb - 48)) (0) (xn))), .int (zI (zIf3 xb xm xd (xd) (xd + 1) (0) (xd))), .int (zI (zIf3 xb xm xd (1) (xe) (0) (xe)))])), (w 1, .inl (cs 1, 120, .inl (zA f))), (w 2, .inl (cs 0, 60, .inl (zA (zIf3 xb xm xd (g) (g) (zU g xm (zSg xe xn)) (g)))))]) s.heap := hP8
              have hD9 : va_D A0 ([(w 0, .inr (4, [.ref (w 1), .int (zI xl), .ref (w 2), .int (zI (zIf3 xb xm xd (xm) (xm) (xm + 1) (xm))), .int (zI (zIf3 xb xm xd (xn) (10 * xn + (xb - 48)) (0) (xn))), .int (zI (zIf3 xb xm xd (xd) (xd + 1) (0) (xd))), .int (zI (zIf3 xb xm xd (1) (xe) (0) (xe)))])), (w 1, .inl (cs 1, 120, .inl (zA f))), (w 2, .inl (cs 0, 60, .inl (zA (zIf3 xb xm xd (g) (g) (zU g xm (zSg xe xn)) (g)))))]) := zD_addr hD rfl
              subst hAe
              exact W.zret hx hb hr (zbool_n (by first | decide | exact zB_r _)) (fun t ht hW => ⟨⟨_, (), rfl, (congrArg zI (show 0 = zIf3 xb xm xd (zB (xd = 0 ∧ xe = 0)) (zB (xd + 1 ≤ 5)) (1) (0) from by first | (rw [zIf3_d (by omega) (by omega) (by omega)]; done) | (rw [zIf3_d (by omega) (by omega) (by omega)]; exact (zB_t (by omega)).symm) | (rw [zIf3_d (by omega) (by omega) (by omega)]; exact (zB_f (by omega)).symm))), by rw [ht]; exact hP9, hD9⟩, hS.F ht⟩) hS.2.2 dX4_takes_128
      · refine zr_bipush hx hb dX4_takes_95 (by decide) ?_
        refine lv_goto (tgt := 102) hx hb dX4_takes_97 (by decide) ?_
        refine lv_istore_n (lv' := [(2, .int (zI 59)), (0, .ref (w 0)), (1, .int (zI xb))]) hx hb dX4_takes_102 rfl hl (by decide) rfl (fun ls hl => ?_)
        refine lv_iload_n hx hb dX4_takes_103 rfl (lv_at hl 2 rfl) ?_
        refine lv_iload_n hx hb dX4_takes_104 rfl (lv_at hl 0 rfl) ?_
        refine zr_icmp_ne (tgt := 127) hx hb dX4_takes_105 (by decide) (by omega) (by decide) (fun c8 => ?_) (fun c8 => ?_)
        · refine zr_iconst hx hb dX4_takes_127 ?_
          have hP8 : va_P D vwCl ([(w 0, .inr (4, [.ref (w 1), .int (zI xl), .ref (w 2), .int (zI (zIf3 xb xm xd (xm) (xm) (xm + 1) (xm))), .int (zI (zIf3 xb xm xd (xn) (10 * xn + (xb - 48)) (0) (xn))), .int (zI (zIf3 xb xm xd (xd) (xd + 1) (0) (xd))), .int (zI (zIf3 xb xm xd (1) (xe) (0) (xe)))])), (w 1, .inl (cs 1, 120, .inl (zA f))), (w 2, .inl (cs 0, 60, .inl (zA (zIf3 xb xm xd (g) (g) (zU g xm (zSg xe xn)) (g)))))]) s.heap := by rw [zIf3_d (α := Int) (by omega) (by omega) (by omega), zIf3_d (α := Int → Int) (by omega) (by omega) (by omega)]; exact hP
          have hP9 : va_P D vwCl ([(w 0, .inr (4, [.ref (w 1), .int (zI xl), .ref (w 2), .int (zI (zIf3 xb xm xd (xm) (xm) (xm + 1) (xm))), .int (zI (zIf3 xb xm xd (xn) (10 * xn + (xb - 48)) (0) (xn))), .int (zI (zIf3 xb xm xd (xd) (xd + 1) (0) (xd))), .int (zI (zIf3 xb xm xd (1) (xe) (0) (xe)))])), (w 1, .inl (cs 1, 120, .inl (zA f))), (w 2, .inl (cs 0, 60, .inl (zA (zIf3 xb xm xd (g) (g) (zU g xm (zSg xe xn)) (g)))))]) s.heap := hP8
          have hD9 : va_D A0 ([(w 0, .inr (4, [.ref (w 1), .int (zI xl), .ref (w 2), .int (zI (zIf3 xb xm xd (xm) (xm) (xm + 1) (xm))), .int (zI (zIf3 xb xm xd (xn) (10 * xn + (xb - 48)) (0) (xn))), .int (zI (zIf3 xb xm xd (xd) (xd + 1) (0) (xd))), .int (zI (zIf3 xb xm xd (1) (xe) (0) (xe)))])), (w 1, .inl (cs 1, 120, .inl (zA f))), (w 2, .inl (cs 0, 60, .inl (zA (zIf3 xb xm xd (g) (g) (zU g xm (zSg xe xn)) (g)))))]) := zD_addr hD rfl
          subst hAe
          exact W.zret hx hb hr (zbool_n (by first | decide | exact zB_r _)) (fun t ht hW => ⟨⟨_, (), rfl, (congrArg zI (show 0 = zIf3 xb xm xd (zB (xd = 0 ∧ xe = 0)) (zB (xd + 1 ≤ 5)) (1) (0) from by first | (rw [zIf3_d (by omega) (by omega) (by omega)]; done) | (rw [zIf3_d (by omega) (by omega) (by omega)]; exact (zB_t (by omega)).symm) | (rw [zIf3_d (by omega) (by omega) (by omega)]; exact (zB_f (by omega)).symm))), by rw [ht]; exact hP9, hD9⟩, hS.F ht⟩) hS.2.2 dX4_takes_128
        · refine lv_aload_n hx hb dX4_takes_108 rfl (lv_at hl 1 rfl) ?_
          refine va_get (D := D) (ci := 4) (v := .int (zI xd)) (C := RX4) (T := TX4) (N := 7) hx hb hts hiX4 hown hK hP 0 rfl rfl 5 (by decide) (hts (.fieldLink RX4 33 "ChargeEstimator$MeasurementText" "digits" "I") (List.mem_of_getElem? (i := 1) rfl)) (fun _ h9 => h9) rfl dX4_takes_109 ?_
          refine zr_if_eq (tgt := 127) hx hb dX4_takes_112 (by decide) (by omega) (fun c9 => ?_) (fun c9 => ?_)
          · refine zr_iconst hx hb dX4_takes_127 ?_
            have hP8 : va_P D vwCl ([(w 0, .inr (4, [.ref (w 1), .int (zI xl), .ref (w 2), .int (zI (zIf3 xb xm xd (xm) (xm) (xm + 1) (xm))), .int (zI (zIf3 xb xm xd (xn) (10 * xn + (xb - 48)) (0) (xn))), .int (zI (zIf3 xb xm xd (xd) (xd + 1) (0) (xd))), .int (zI (zIf3 xb xm xd (1) (xe) (0) (xe)))])), (w 1, .inl (cs 1, 120, .inl (zA f))), (w 2, .inl (cs 0, 60, .inl (zA (zIf3 xb xm xd (g) (g) (zU g xm (zSg xe xn)) (g)))))]) s.heap := by rw [zIf3_d (α := Int) (by omega) (by omega) (by omega), zIf3_d (α := Int → Int) (by omega) (by omega) (by omega)]; exact hP
            have hP9 : va_P D vwCl ([(w 0, .inr (4, [.ref (w 1), .int (zI xl), .ref (w 2), .int (zI (zIf3 xb xm xd (xm) (xm) (xm + 1) (xm))), .int (zI (zIf3 xb xm xd (xn) (10 * xn + (xb - 48)) (0) (xn))), .int (zI (zIf3 xb xm xd (xd) (xd + 1) (0) (xd))), .int (zI (zIf3 xb xm xd (1) (xe) (0) (xe)))])), (w 1, .inl (cs 1, 120, .inl (zA f))), (w 2, .inl (cs 0, 60, .inl (zA (zIf3 xb xm xd (g) (g) (zU g xm (zSg xe xn)) (g)))))]) s.heap := hP8
            have hD9 : va_D A0 ([(w 0, .inr (4, [.ref (w 1), .int (zI xl), .ref (w 2), .int (zI (zIf3 xb xm xd (xm) (xm) (xm + 1) (xm))), .int (zI (zIf3 xb xm xd (xn) (10 * xn + (xb - 48)) (0) (xn))), .int (zI (zIf3 xb xm xd (xd) (xd + 1) (0) (xd))), .int (zI (zIf3 xb xm xd (1) (xe) (0) (xe)))])), (w 1, .inl (cs 1, 120, .inl (zA f))), (w 2, .inl (cs 0, 60, .inl (zA (zIf3 xb xm xd (g) (g) (zU g xm (zSg xe xn)) (g)))))]) := zD_addr hD rfl
            subst hAe
            exact W.zret hx hb hr (zbool_n (by first | decide | exact zB_r _)) (fun t ht hW => ⟨⟨_, (), rfl, (congrArg zI (show 0 = zIf3 xb xm xd (zB (xd = 0 ∧ xe = 0)) (zB (xd + 1 ≤ 5)) (1) (0) from by first | (rw [zIf3_d (by omega) (by omega) (by omega)]; done) | (rw [zIf3_d (by omega) (by omega) (by omega)]; exact (zB_t (by omega)).symm) | (rw [zIf3_d (by omega) (by omega) (by omega)]; exact (zB_f (by omega)).symm))), by rw [ht]; exact hP9, hD9⟩, hS.F ht⟩) hS.2.2 dX4_takes_128
          · refine lv_aload_n hx hb dX4_takes_115 rfl (lv_at hl 1 rfl) ?_
            refine va_get (D := D) (ci := 4) (v := .int (zI xm)) (C := RX4) (T := TX4) (N := 7) hx hb hts hiX4 hown hK hP 0 rfl rfl 3 (by decide) (hts (.fieldLink RX4 23 "ChargeEstimator$MeasurementText" "complete" "I") (List.mem_of_getElem? (i := 4) rfl)) (fun _ h9 => h9) rfl dX4_takes_116 ?_
            refine lv_aload_n hx hb dX4_takes_119 rfl (lv_at hl 1 rfl) ?_
            refine va_get (D := D) (ci := 4) (v := .ref (w 2)) (C := RX4) (T := TX4) (N := 7) hx hb hts hiX4 hown hK hP 0 rfl rfl 2 (by decide) (hts (.fieldLink RX4 15 "ChargeEstimator$MeasurementText" "numbers" "[I") (List.mem_of_getElem? (i := 5) rfl)) (fun _ h9 => h9) rfl dX4_takes_120 ?_
            refine va_alen (v := zI 60) hx hb hK hP 2 rfl (t0 := 0) rfl rfl dX4_takes_123 ?_
            refine zr_icmp_lt (tgt := 129) hx hb dX4_takes_124 (by decide) (by omega) (by decide) (fun c10 => ?_) (fun c10 => ?_)
            · refine lv_aload_n hx hb dX4_takes_129 rfl (lv_at hl 1 rfl) ?_
              refine va_get (D := D) (ci := 4) (v := .ref (w 2)) (C := RX4) (T := TX4) (N := 7) hx hb hts hiX4 hown hK hP 0 rfl rfl 2 (by decide) (hts (.fieldLink RX4 15 "ChargeEstimator$MeasurementText" "numbers" "[I") (List.mem_of_getElem? (i := 5) rfl)) (fun _ h9 => h9) rfl dX4_takes_130 ?_
              refine lv_aload_n hx hb dX4_takes_133 rfl (lv_at hl 1 rfl) ?_
              refine va_get (D := D) (ci := 4) (v := .int (zI xm)) (C := RX4) (T := TX4) (N := 7) hx hb hts hiX4 hown hK hP 0 rfl rfl 3 (by decide) (hts (.fieldLink RX4 23 "ChargeEstimator$MeasurementText" "complete" "I") (List.mem_of_getElem? (i := 4) rfl)) (fun _ h9 => h9) rfl dX4_takes_134 ?_
              refine lv_aload_n hx hb dX4_takes_137 rfl (lv_at hl 1 rfl) ?_
              refine va_get (D := D) (ci := 4) (v := .int (zI xe)) (C := RX4) (T := TX4) (N := 7) hx hb hts hiX4 hown hK hP 0 rfl rfl 6 (by decide) (hts (.fieldLink RX4 36 "ChargeEstimator$MeasurementText" "negative" "Z") (List.mem_of_getElem? (i := 2) rfl)) (fun _ h9 => h9) rfl dX4_takes_138 ?_
              refine zr_if_eq (tgt := 152) hx hb dX4_takes_141 (by decide) (by omega) (fun c11 => ?_) (fun c11 => ?_)
              · refine lv_aload_n hx hb dX4_takes_152 rfl (lv_at hl 1 rfl) ?_
                refine va_get (D := D) (ci := 4) (v := .int (zI xn)) (C := RX4) (T := TX4) (N := 7) hx hb hts hiX4 hown hK hP 0 rfl rfl 4 (by decide) (hts (.fieldLink RX4 40 "ChargeEstimator$MeasurementText" "number" "I") (List.mem_of_getElem? (i := 3) rfl)) (fun _ h9 => h9) rfl dX4_takes_153 ?_
                refine zr_iast (D := D) (g := g) hx hb hK hP hD hS 2 0 rfl rfl (by decide) (by omega) dX4_takes_156 (fun H locs hP hD hS => ?_)
                have hP : va_P D vwCl ([(w 0, .inr (4, [.ref (w 1), .int (zI xl), .ref (w 2), .int (zI xm), .int (zI xn), .int (zI xd), .int (zI xe)])), (w 1, .inl (cs 1, 120, .inl (zA f))), (w 2, .inl (cs 0, 60, .inl (zA (zU g xm xn))))]) H := hP
                have hD : va_D A0 ([(w 0, .inr (4, [.ref (w 1), .int (zI xl), .ref (w 2), .int (zI xm), .int (zI xn), .int (zI xd), .int (zI xe)])), (w 1, .inl (cs 1, 120, .inl (zA f))), (w 2, .inl (cs 0, 60, .inl (zA (zU g xm xn))))]) := zD_addr hD rfl
                refine lv_aload_n hx hb dX4_takes_157 rfl (lv_at hl 1 rfl) ?_
                refine lv_dup hx hb dX4_takes_158 rfl ?_
                refine va_get (D := D) (ci := 4) (v := .int (zI xm)) (C := RX4) (T := TX4) (N := 7) hx hb hts hiX4 hown hK hP 0 rfl rfl 3 (by decide) (hts (.fieldLink RX4 23 "ChargeEstimator$MeasurementText" "complete" "I") (List.mem_of_getElem? (i := 4) rfl)) (fun _ h9 => h9) rfl dX4_takes_159 ?_
                refine zr_iconst hx hb dX4_takes_162 ?_
                refine zr_iadd hx hb dX4_takes_163 ?_
                refine va_put (D := D) (ci := 4) (v := .int (zI (xm + 1))) (ty := .int) (C := RX4) (T := TX4) (N := 7) hx hb hts hiX4 tyX4 tyX4_ok nmX4 hown hK hP hD hS 0 rfl rfl 3 (by decide) (hts (.fieldLink RX4 23 "ChargeEstimator$MeasurementText" "complete" "I") (List.mem_of_getElem? (i := 4) rfl)) (fun _ h9 => h9) rfl (by decide +kernel) rfl rfl (Nat.le_of_ble_eq_true rfl) dX4_takes_164 (fun H locs hP hD hS => ?_)
                have hP : va_P D vwCl ([(w 0, .inr (4, [.ref (w 1), .int (zI xl), .ref (w 2), .int (zI (xm + 1)), .int (zI xn), .int (zI xd), .int (zI xe)])), (w 1, .inl (cs 1, 120, .inl (zA f))), (w 2, .inl (cs 0, 60, .inl (zA (zU g xm xn))))]) H := hP
                have hD : va_D A0 ([(w 0, .inr (4, [.ref (w 1), .int (zI xl), .ref (w 2), .int (zI (xm + 1)), .int (zI xn), .int (zI xd), .int (zI xe)])), (w 1, .inl (cs 1, 120, .inl (zA f))), (w 2, .inl (cs 0, 60, .inl (zA (zU g xm xn))))]) := zD_addr hD rfl
                refine lv_aload_n hx hb dX4_takes_167 rfl (lv_at hl 1 rfl) ?_
                refine zc_vj (w := [(w 0, .inr (4, [.ref (w 1), .int (zI xl), .ref (w 2), .int (zI (xm + 1)), .int (zI xn), .int (zI xd), .int (zI xe)])), (w 1, .inl (cs 1, 120, .inl (zA f))), (w 2, .inl (cs 0, 60, .inl (zA (zU g xm xn))))]) (wr := []) (va_runV (As := []) (rest := []) ⟨hx, hb, hml, hown, hts⟩ (met_X4_beginNumber l D cs w H.size f xl (zU g xm xn) (xm + 1) xn xd xe ) (cwV 0 hts gX4_takes_X4_beginNumber rfl rfl rfl (by decide +kernel) ⟨Nat.le_of_ble_eq_true rfl, Nat.le_of_ble_eq_true rfl⟩) ⟨zPreZ.blind, va_recv hK hP (ci := 4) (q0 := 0) rfl rfl, fun U hU hW => zp_Z (hP.sub (ws' := [(w 0, .inr (4, [.ref (w 1), .int (zI xl), .ref (w 2), .int (zI (xm + 1)), .int (zI xn), .int (zI xd), .int (zI xe)])), (w 1, .inl (cs 1, 120, .inl (zA f))), (w 2, .inl (cs 0, 60, .inl (zA (zU g xm xn))))]) [0, 1, 2] rfl) hK (hD.sub (ws' := [(w 0, .inr (4, [.ref (w 1), .int (zI xl), .ref (w 2), .int (zI (xm + 1)), .int (zI xn), .int (zI xd), .int (zI xe)])), (w 1, .inl (cs 1, 120, .inl (zA f))), (w 2, .inl (cs 0, 60, .inl (zA (zU g xm xn))))]) [0, 1, 2] (by decide) rfl) hN hU hW⟩ rfl rfl hl.1 rfl (lv_room (Nat.le_of_ble_eq_true rfl)) dX4_takes_168 ⟨Nat.le_of_ble_eq_true rfl, Nat.le_of_ble_eq_true rfl⟩) hS hP hD hA [0, 1, 2] [] rfl rfl (by decide) (by decide) (fun H locs hP hD hS => ?_)
                have hP : va_P D vwCl ([(w 0, .inr (4, [.ref (w 1), .int (zI xl), .ref (w 2), .int (zI (xm + 1)), .int (zI 0), .int (zI 0), .int (zI 0)])), (w 1, .inl (cs 1, 120, .inl (zA f))), (w 2, .inl (cs 0, 60, .inl (zA (zU g xm xn))))]) H := hP.sub (ws' := [(w 0, .inr (4, [.ref (w 1), .int (zI xl), .ref (w 2), .int (zI (xm + 1)), .int (zI 0), .int (zI 0), .int (zI 0)])), (w 1, .inl (cs 1, 120, .inl (zA f))), (w 2, .inl (cs 0, 60, .inl (zA (zU g xm xn))))]) [0, 1, 2] rfl
                have hD : va_D A0 ([(w 0, .inr (4, [.ref (w 1), .int (zI xl), .ref (w 2), .int (zI (xm + 1)), .int (zI 0), .int (zI 0), .int (zI 0)])), (w 1, .inl (cs 1, 120, .inl (zA f))), (w 2, .inl (cs 0, 60, .inl (zA (zU g xm xn))))]) := hD.sub (ws' := [(w 0, .inr (4, [.ref (w 1), .int (zI xl), .ref (w 2), .int (zI (xm + 1)), .int (zI 0), .int (zI 0), .int (zI 0)])), (w 1, .inl (cs 1, 120, .inl (zA f))), (w 2, .inl (cs 0, 60, .inl (zA (zU g xm xn))))]) [0, 1, 2] (by decide) rfl
                refine zr_iconst hx hb dX4_takes_171 ?_
                have hP8 : va_P D vwCl ([(w 0, .inr (4, [.ref (w 1), .int (zI xl), .ref (w 2), .int (zI (zIf3 xb xm xd (xm) (xm) (xm + 1) (xm))), .int (zI (zIf3 xb xm xd (xn) (10 * xn + (xb - 48)) (0) (xn))), .int (zI (zIf3 xb xm xd (xd) (xd + 1) (0) (xd))), .int (zI (zIf3 xb xm xd (1) (xe) (0) (xe)))])), (w 1, .inl (cs 1, 120, .inl (zA f))), (w 2, .inl (cs 0, 60, .inl (zA (zIf3 xb xm xd (g) (g) (zU g xm (zSg xe xn)) (g)))))]) H := by rw [zIf3_c (α := Int) (by omega), zIf3_c (α := Int → Int) (by omega)]; first | (rw [show zSg xe xn = xn from if_pos (by omega)]; exact hP) | (rw [show zSg xe xn = -xn from if_neg (by omega)]; exact hP)
                have hP9 : va_P D vwCl ([(w 0, .inr (4, [.ref (w 1), .int (zI xl), .ref (w 2), .int (zI (zIf3 xb xm xd (xm) (xm) (xm + 1) (xm))), .int (zI (zIf3 xb xm xd (xn) (10 * xn + (xb - 48)) (0) (xn))), .int (zI (zIf3 xb xm xd (xd) (xd + 1) (0) (xd))), .int (zI (zIf3 xb xm xd (1) (xe) (0) (xe)))])), (w 1, .inl (cs 1, 120, .inl (zA f))), (w 2, .inl (cs 0, 60, .inl (zA (zIf3 xb xm xd (g) (g) (zU g xm (zSg xe xn)) (g)))))]) H := hP8
                have hD9 : va_D A0 ([(w 0, .inr (4, [.ref (w 1), .int (zI xl), .ref (w 2), .int (zI (zIf3 xb xm xd (xm) (xm) (xm + 1) (xm))), .int (zI (zIf3 xb xm xd (xn) (10 * xn + (xb - 48)) (0) (xn))), .int (zI (zIf3 xb xm xd (xd) (xd + 1) (0) (xd))), .int (zI (zIf3 xb xm xd (1) (xe) (0) (xe)))])), (w 1, .inl (cs 1, 120, .inl (zA f))), (w 2, .inl (cs 0, 60, .inl (zA (zIf3 xb xm xd (g) (g) (zU g xm (zSg xe xn)) (g)))))]) := zD_addr hD rfl
                subst hAe
                exact W.zret hx hb hr (zbool_n (by first | decide | exact zB_r _)) (fun t ht hW => ⟨⟨_, (), rfl, (congrArg zI (show 1 = zIf3 xb xm xd (zB (xd = 0 ∧ xe = 0)) (zB (xd + 1 ≤ 5)) (1) (0) from by first | (rw [zIf3_c (by omega)]; done) | (rw [zIf3_c (by omega)]; exact (zB_t (by omega)).symm) | (rw [zIf3_c (by omega)]; exact (zB_f (by omega)).symm))), by rw [ht]; exact hP9, hD9⟩, hS.F ht⟩) hS.2.2 dX4_takes_172
              · refine lv_aload_n hx hb dX4_takes_144 rfl (lv_at hl 1 rfl) ?_
                refine va_get (D := D) (ci := 4) (v := .int (zI xn)) (C := RX4) (T := TX4) (N := 7) hx hb hts hiX4 hown hK hP 0 rfl rfl 4 (by decide) (hts (.fieldLink RX4 40 "ChargeEstimator$MeasurementText" "number" "I") (List.mem_of_getElem? (i := 3) rfl)) (fun _ h9 => h9) rfl dX4_takes_145 ?_
                refine zr_ineg hx hb dX4_takes_148 ?_
                refine lv_goto (tgt := 156) hx hb dX4_takes_149 (by decide) ?_
                refine zr_iast (D := D) (g := g) hx hb hK hP hD hS 2 0 rfl rfl (by decide) (by omega) dX4_takes_156 (fun H locs hP hD hS => ?_)
                have hP : va_P D vwCl ([(w 0, .inr (4, [.ref (w 1), .int (zI xl), .ref (w 2), .int (zI xm), .int (zI xn), .int (zI xd), .int (zI xe)])), (w 1, .inl (cs 1, 120, .inl (zA f))), (w 2, .inl (cs 0, 60, .inl (zA (zU g xm (-xn)))))]) H := hP
                have hD : va_D A0 ([(w 0, .inr (4, [.ref (w 1), .int (zI xl), .ref (w 2), .int (zI xm), .int (zI xn), .int (zI xd), .int (zI xe)])), (w 1, .inl (cs 1, 120, .inl (zA f))), (w 2, .inl (cs 0, 60, .inl (zA (zU g xm (-xn)))))]) := zD_addr hD rfl
                refine lv_aload_n hx hb dX4_takes_157 rfl (lv_at hl 1 rfl) ?_
                refine lv_dup hx hb dX4_takes_158 rfl ?_
                refine va_get (D := D) (ci := 4) (v := .int (zI xm)) (C := RX4) (T := TX4) (N := 7) hx hb hts hiX4 hown hK hP 0 rfl rfl 3 (by decide) (hts (.fieldLink RX4 23 "ChargeEstimator$MeasurementText" "complete" "I") (List.mem_of_getElem? (i := 4) rfl)) (fun _ h9 => h9) rfl dX4_takes_159 ?_
                refine zr_iconst hx hb dX4_takes_162 ?_
                refine zr_iadd hx hb dX4_takes_163 ?_
                refine va_put (D := D) (ci := 4) (v := .int (zI (xm + 1))) (ty := .int) (C := RX4) (T := TX4) (N := 7) hx hb hts hiX4 tyX4 tyX4_ok nmX4 hown hK hP hD hS 0 rfl rfl 3 (by decide) (hts (.fieldLink RX4 23 "ChargeEstimator$MeasurementText" "complete" "I") (List.mem_of_getElem? (i := 4) rfl)) (fun _ h9 => h9) rfl (by decide +kernel) rfl rfl (Nat.le_of_ble_eq_true rfl) dX4_takes_164 (fun H locs hP hD hS => ?_)
                have hP : va_P D vwCl ([(w 0, .inr (4, [.ref (w 1), .int (zI xl), .ref (w 2), .int (zI (xm + 1)), .int (zI xn), .int (zI xd), .int (zI xe)])), (w 1, .inl (cs 1, 120, .inl (zA f))), (w 2, .inl (cs 0, 60, .inl (zA (zU g xm (-xn)))))]) H := hP
                have hD : va_D A0 ([(w 0, .inr (4, [.ref (w 1), .int (zI xl), .ref (w 2), .int (zI (xm + 1)), .int (zI xn), .int (zI xd), .int (zI xe)])), (w 1, .inl (cs 1, 120, .inl (zA f))), (w 2, .inl (cs 0, 60, .inl (zA (zU g xm (-xn)))))]) := zD_addr hD rfl
                refine lv_aload_n hx hb dX4_takes_167 rfl (lv_at hl 1 rfl) ?_
                refine zc_vj (w := [(w 0, .inr (4, [.ref (w 1), .int (zI xl), .ref (w 2), .int (zI (xm + 1)), .int (zI xn), .int (zI xd), .int (zI xe)])), (w 1, .inl (cs 1, 120, .inl (zA f))), (w 2, .inl (cs 0, 60, .inl (zA (zU g xm (-xn)))))]) (wr := []) (va_runV (As := []) (rest := []) ⟨hx, hb, hml, hown, hts⟩ (met_X4_beginNumber l D cs w H.size f xl (zU g xm (-xn)) (xm + 1) xn xd xe ) (cwV 0 hts gX4_takes_X4_beginNumber rfl rfl rfl (by decide +kernel) ⟨Nat.le_of_ble_eq_true rfl, Nat.le_of_ble_eq_true rfl⟩) ⟨zPreZ.blind, va_recv hK hP (ci := 4) (q0 := 0) rfl rfl, fun U hU hW => zp_Z (hP.sub (ws' := [(w 0, .inr (4, [.ref (w 1), .int (zI xl), .ref (w 2), .int (zI (xm + 1)), .int (zI xn), .int (zI xd), .int (zI xe)])), (w 1, .inl (cs 1, 120, .inl (zA f))), (w 2, .inl (cs 0, 60, .inl (zA (zU g xm (-xn)))))]) [0, 1, 2] rfl) hK (hD.sub (ws' := [(w 0, .inr (4, [.ref (w 1), .int (zI xl), .ref (w 2), .int (zI (xm + 1)), .int (zI xn), .int (zI xd), .int (zI xe)])), (w 1, .inl (cs 1, 120, .inl (zA f))), (w 2, .inl (cs 0, 60, .inl (zA (zU g xm (-xn)))))]) [0, 1, 2] (by decide) rfl) hN hU hW⟩ rfl rfl hl.1 rfl (lv_room (Nat.le_of_ble_eq_true rfl)) dX4_takes_168 ⟨Nat.le_of_ble_eq_true rfl, Nat.le_of_ble_eq_true rfl⟩) hS hP hD hA [0, 1, 2] [] rfl rfl (by decide) (by decide) (fun H locs hP hD hS => ?_)
                have hP : va_P D vwCl ([(w 0, .inr (4, [.ref (w 1), .int (zI xl), .ref (w 2), .int (zI (xm + 1)), .int (zI 0), .int (zI 0), .int (zI 0)])), (w 1, .inl (cs 1, 120, .inl (zA f))), (w 2, .inl (cs 0, 60, .inl (zA (zU g xm (-xn)))))]) H := hP.sub (ws' := [(w 0, .inr (4, [.ref (w 1), .int (zI xl), .ref (w 2), .int (zI (xm + 1)), .int (zI 0), .int (zI 0), .int (zI 0)])), (w 1, .inl (cs 1, 120, .inl (zA f))), (w 2, .inl (cs 0, 60, .inl (zA (zU g xm (-xn)))))]) [0, 1, 2] rfl
                have hD : va_D A0 ([(w 0, .inr (4, [.ref (w 1), .int (zI xl), .ref (w 2), .int (zI (xm + 1)), .int (zI 0), .int (zI 0), .int (zI 0)])), (w 1, .inl (cs 1, 120, .inl (zA f))), (w 2, .inl (cs 0, 60, .inl (zA (zU g xm (-xn)))))]) := hD.sub (ws' := [(w 0, .inr (4, [.ref (w 1), .int (zI xl), .ref (w 2), .int (zI (xm + 1)), .int (zI 0), .int (zI 0), .int (zI 0)])), (w 1, .inl (cs 1, 120, .inl (zA f))), (w 2, .inl (cs 0, 60, .inl (zA (zU g xm (-xn)))))]) [0, 1, 2] (by decide) rfl
                refine zr_iconst hx hb dX4_takes_171 ?_
                have hP8 : va_P D vwCl ([(w 0, .inr (4, [.ref (w 1), .int (zI xl), .ref (w 2), .int (zI (zIf3 xb xm xd (xm) (xm) (xm + 1) (xm))), .int (zI (zIf3 xb xm xd (xn) (10 * xn + (xb - 48)) (0) (xn))), .int (zI (zIf3 xb xm xd (xd) (xd + 1) (0) (xd))), .int (zI (zIf3 xb xm xd (1) (xe) (0) (xe)))])), (w 1, .inl (cs 1, 120, .inl (zA f))), (w 2, .inl (cs 0, 60, .inl (zA (zIf3 xb xm xd (g) (g) (zU g xm (zSg xe xn)) (g)))))]) H := by rw [zIf3_c (α := Int) (by omega), zIf3_c (α := Int → Int) (by omega)]; first | (rw [show zSg xe xn = xn from if_pos (by omega)]; exact hP) | (rw [show zSg xe xn = -xn from if_neg (by omega)]; exact hP)
                have hP9 : va_P D vwCl ([(w 0, .inr (4, [.ref (w 1), .int (zI xl), .ref (w 2), .int (zI (zIf3 xb xm xd (xm) (xm) (xm + 1) (xm))), .int (zI (zIf3 xb xm xd (xn) (10 * xn + (xb - 48)) (0) (xn))), .int (zI (zIf3 xb xm xd (xd) (xd + 1) (0) (xd))), .int (zI (zIf3 xb xm xd (1) (xe) (0) (xe)))])), (w 1, .inl (cs 1, 120, .inl (zA f))), (w 2, .inl (cs 0, 60, .inl (zA (zIf3 xb xm xd (g) (g) (zU g xm (zSg xe xn)) (g)))))]) H := hP8
                have hD9 : va_D A0 ([(w 0, .inr (4, [.ref (w 1), .int (zI xl), .ref (w 2), .int (zI (zIf3 xb xm xd (xm) (xm) (xm + 1) (xm))), .int (zI (zIf3 xb xm xd (xn) (10 * xn + (xb - 48)) (0) (xn))), .int (zI (zIf3 xb xm xd (xd) (xd + 1) (0) (xd))), .int (zI (zIf3 xb xm xd (1) (xe) (0) (xe)))])), (w 1, .inl (cs 1, 120, .inl (zA f))), (w 2, .inl (cs 0, 60, .inl (zA (zIf3 xb xm xd (g) (g) (zU g xm (zSg xe xn)) (g)))))]) := zD_addr hD rfl
                subst hAe
                exact W.zret hx hb hr (zbool_n (by first | decide | exact zB_r _)) (fun t ht hW => ⟨⟨_, (), rfl, (congrArg zI (show 1 = zIf3 xb xm xd (zB (xd = 0 ∧ xe = 0)) (zB (xd + 1 ≤ 5)) (1) (0) from by first | (rw [zIf3_c (by omega)]; done) | (rw [zIf3_c (by omega)]; exact (zB_t (by omega)).symm) | (rw [zIf3_c (by omega)]; exact (zB_f (by omega)).symm))), by rw [ht]; exact hP9, hD9⟩, hS.F ht⟩) hS.2.2 dX4_takes_172
            · refine zr_iconst hx hb dX4_takes_127 ?_
              have hP8 : va_P D vwCl ([(w 0, .inr (4, [.ref (w 1), .int (zI xl), .ref (w 2), .int (zI (zIf3 xb xm xd (xm) (xm) (xm + 1) (xm))), .int (zI (zIf3 xb xm xd (xn) (10 * xn + (xb - 48)) (0) (xn))), .int (zI (zIf3 xb xm xd (xd) (xd + 1) (0) (xd))), .int (zI (zIf3 xb xm xd (1) (xe) (0) (xe)))])), (w 1, .inl (cs 1, 120, .inl (zA f))), (w 2, .inl (cs 0, 60, .inl (zA (zIf3 xb xm xd (g) (g) (zU g xm (zSg xe xn)) (g)))))]) s.heap := by rw [zIf3_d (α := Int) (by omega) (by omega) (by omega), zIf3_d (α := Int → Int) (by omega) (by omega) (by omega)]; exact hP
              have hP9 : va_P D vwCl ([(w 0, .inr (4, [.ref (w 1), .int (zI xl), .ref (w 2), .int (zI (zIf3 xb xm xd (xm) (xm) (xm + 1) (xm))), .int (zI (zIf3 xb xm xd (xn) (10 * xn + (xb - 48)) (0) (xn))), .int (zI (zIf3 xb xm xd (xd) (xd + 1) (0) (xd))), .int (zI (zIf3 xb xm xd (1) (xe) (0) (xe)))])), (w 1, .inl (cs 1, 120, .inl (zA f))), (w 2, .inl (cs 0, 60, .inl (zA (zIf3 xb xm xd (g) (g) (zU g xm (zSg xe xn)) (g)))))]) s.heap := hP8
              have hD9 : va_D A0 ([(w 0, .inr (4, [.ref (w 1), .int (zI xl), .ref (w 2), .int (zI (zIf3 xb xm xd (xm) (xm) (xm + 1) (xm))), .int (zI (zIf3 xb xm xd (xn) (10 * xn + (xb - 48)) (0) (xn))), .int (zI (zIf3 xb xm xd (xd) (xd + 1) (0) (xd))), .int (zI (zIf3 xb xm xd (1) (xe) (0) (xe)))])), (w 1, .inl (cs 1, 120, .inl (zA f))), (w 2, .inl (cs 0, 60, .inl (zA (zIf3 xb xm xd (g) (g) (zU g xm (zSg xe xn)) (g)))))]) := zD_addr hD rfl
              subst hAe
              exact W.zret hx hb hr (zbool_n (by first | decide | exact zB_r _)) (fun t ht hW => ⟨⟨_, (), rfl, (congrArg zI (show 0 = zIf3 xb xm xd (zB (xd = 0 ∧ xe = 0)) (zB (xd + 1 ≤ 5)) (1) (0) from by first | (rw [zIf3_d (by omega) (by omega) (by omega)]; done) | (rw [zIf3_d (by omega) (by omega) (by omega)]; exact (zB_t (by omega)).symm) | (rw [zIf3_d (by omega) (by omega) (by omega)]; exact (zB_f (by omega)).symm))), by rw [ht]; exact hP9, hD9⟩, hS.F ht⟩) hS.2.2 dX4_takes_128
    · refine lv_iload_n hx hb dX4_takes_39 rfl (lv_at hl 1 rfl) ?_
      refine zr_bipush hx hb dX4_takes_40 (by decide) ?_
      refine zr_icmp_gt (tgt := 85) hx hb dX4_takes_42 (by decide) (by omega) (by decide) (fun c12 => ?_) (fun c12 => ?_)
      · refine lv_aload_n hx hb dX4_takes_85 rfl (lv_at hl 0 rfl) ?_
        refine va_get (D := D) (ci := 4) (v := .int (zI xm)) (C := RX4) (T := TX4) (N := 7) hx hb hts hiX4 hown hK hP 0 rfl rfl 3 (by decide) (hts (.fieldLink RX4 23 "ChargeEstimator$MeasurementText" "complete" "I") (List.mem_of_getElem? (i := 4) rfl)) (fun _ h9 => h9) rfl dX4_takes_86 ?_
        refine zr_iconst hx hb dX4_takes_89 ?_
        refine zr_irem hx hb dX4_takes_90 (by omega) (by decide) ?_
        refine zr_iconst hx hb dX4_takes_91 ?_
        refine zr_icmp_ne (tgt := 100) hx hb dX4_takes_92 (by decide) (by omega) (by decide) (fun c13 => ?_) (fun c13 => ?_)
        · refine zr_bipush hx hb dX4_takes_100 (by decide) ?_
          refine lv_istore_n (lv' := [(2, .int (zI 44)), (0, .ref (w 0)), (1, .int (zI xb))]) hx hb dX4_takes_102 rfl hl (by decide) rfl (fun ls hl => ?_)
          refine lv_iload_n hx hb dX4_takes_103 rfl (lv_at hl 2 rfl) ?_
          refine lv_iload_n hx hb dX4_takes_104 rfl (lv_at hl 0 rfl) ?_
          refine zr_icmp_ne (tgt := 127) hx hb dX4_takes_105 (by decide) (by omega) (by decide) (fun c14 => ?_) (fun c14 => ?_)
          · refine zr_iconst hx hb dX4_takes_127 ?_
            have hP8 : va_P D vwCl ([(w 0, .inr (4, [.ref (w 1), .int (zI xl), .ref (w 2), .int (zI (zIf3 xb xm xd (xm) (xm) (xm + 1) (xm))), .int (zI (zIf3 xb xm xd (xn) (10 * xn + (xb - 48)) (0) (xn))), .int (zI (zIf3 xb xm xd (xd) (xd + 1) (0) (xd))), .int (zI (zIf3 xb xm xd (1) (xe) (0) (xe)))])), (w 1, .inl (cs 1, 120, .inl (zA f))), (w 2, .inl (cs 0, 60, .inl (zA (zIf3 xb xm xd (g) (g) (zU g xm (zSg xe xn)) (g)))))]) s.heap := by rw [zIf3_d (α := Int) (by omega) (by omega) (by omega), zIf3_d (α := Int → Int) (by omega) (by omega) (by omega)]; exact hP
            have hP9 : va_P D vwCl ([(w 0, .inr (4, [.ref (w 1), .int (zI xl), .ref (w 2), .int (zI (zIf3 xb xm xd (xm) (xm) (xm + 1) (xm))), .int (zI (zIf3 xb xm xd (xn) (10 * xn + (xb - 48)) (0) (xn))), .int (zI (zIf3 xb xm xd (xd) (xd + 1) (0) (xd))), .int (zI (zIf3 xb xm xd (1) (xe) (0) (xe)))])), (w 1, .inl (cs 1, 120, .inl (zA f))), (w 2, .inl (cs 0, 60, .inl (zA (zIf3 xb xm xd (g) (g) (zU g xm (zSg xe xn)) (g)))))]) s.heap := hP8
            have hD9 : va_D A0 ([(w 0, .inr (4, [.ref (w 1), .int (zI xl), .ref (w 2), .int (zI (zIf3 xb xm xd (xm) (xm) (xm + 1) (xm))), .int (zI (zIf3 xb xm xd (xn) (10 * xn + (xb - 48)) (0) (xn))), .int (zI (zIf3 xb xm xd (xd) (xd + 1) (0) (xd))), .int (zI (zIf3 xb xm xd (1) (xe) (0) (xe)))])), (w 1, .inl (cs 1, 120, .inl (zA f))), (w 2, .inl (cs 0, 60, .inl (zA (zIf3 xb xm xd (g) (g) (zU g xm (zSg xe xn)) (g)))))]) := zD_addr hD rfl
            subst hAe
            exact W.zret hx hb hr (zbool_n (by first | decide | exact zB_r _)) (fun t ht hW => ⟨⟨_, (), rfl, (congrArg zI (show 0 = zIf3 xb xm xd (zB (xd = 0 ∧ xe = 0)) (zB (xd + 1 ≤ 5)) (1) (0) from by first | (rw [zIf3_d (by omega) (by omega) (by omega)]; done) | (rw [zIf3_d (by omega) (by omega) (by omega)]; exact (zB_t (by omega)).symm) | (rw [zIf3_d (by omega) (by omega) (by omega)]; exact (zB_f (by omega)).symm))), by rw [ht]; exact hP9, hD9⟩, hS.F ht⟩) hS.2.2 dX4_takes_128
          · refine lv_aload_n hx hb dX4_takes_108 rfl (lv_at hl 1 rfl) ?_
            refine va_get (D := D) (ci := 4) (v := .int (zI xd)) (C := RX4) (T := TX4) (N := 7) hx hb hts hiX4 hown hK hP 0 rfl rfl 5 (by decide) (hts (.fieldLink RX4 33 "ChargeEstimator$MeasurementText" "digits" "I") (List.mem_of_getElem? (i := 1) rfl)) (fun _ h9 => h9) rfl dX4_takes_109 ?_
            refine zr_if_eq (tgt := 127) hx hb dX4_takes_112 (by decide) (by omega) (fun c15 => ?_) (fun c15 => ?_)
            · refine zr_iconst hx hb dX4_takes_127 ?_
              have hP8 : va_P D vwCl ([(w 0, .inr (4, [.ref (w 1), .int (zI xl), .ref (w 2), .int (zI (zIf3 xb xm xd (xm) (xm) (xm + 1) (xm))), .int (zI (zIf3 xb xm xd (xn) (10 * xn + (xb - 48)) (0) (xn))), .int (zI (zIf3 xb xm xd (xd) (xd + 1) (0) (xd))), .int (zI (zIf3 xb xm xd (1) (xe) (0) (xe)))])), (w 1, .inl (cs 1, 120, .inl (zA f))), (w 2, .inl (cs 0, 60, .inl (zA (zIf3 xb xm xd (g) (g) (zU g xm (zSg xe xn)) (g)))))]) s.heap := by rw [zIf3_d (α := Int) (by omega) (by omega) (by omega), zIf3_d (α := Int → Int) (by omega) (by omega) (by omega)]; exact hP
              have hP9 : va_P D vwCl ([(w 0, .inr (4, [.ref (w 1), .int (zI xl), .ref (w 2), .int (zI (zIf3 xb xm xd (xm) (xm) (xm + 1) (xm))), .int (zI (zIf3 xb xm xd (xn) (10 * xn + (xb - 48)) (0) (xn))), .int (zI (zIf3 xb xm xd (xd) (xd + 1) (0) (xd))), .int (zI (zIf3 xb xm xd (1) (xe) (0) (xe)))])), (w 1, .inl (cs 1, 120, .inl (zA f))), (w 2, .inl (cs 0, 60, .inl (zA (zIf3 xb xm xd (g) (g) (zU g xm (zSg xe xn)) (g)))))]) s.heap := hP8
              have hD9 : va_D A0 ([(w 0, .inr (4, [.ref (w 1), .int (zI xl), .ref (w 2), .int (zI (zIf3 xb xm xd (xm) (xm) (xm + 1) (xm))), .int (zI (zIf3 xb xm xd (xn) (10 * xn + (xb - 48)) (0) (xn))), .int (zI (zIf3 xb xm xd (xd) (xd + 1) (0) (xd))), .int (zI (zIf3 xb xm xd (1) (xe) (0) (xe)))])), (w 1, .inl (cs 1, 120, .inl (zA f))), (w 2, .inl (cs 0, 60, .inl (zA (zIf3 xb xm xd (g) (g) (zU g xm (zSg xe xn)) (g)))))]) := zD_addr hD rfl
              subst hAe
              exact W.zret hx hb hr (zbool_n (by first | decide | exact zB_r _)) (fun t ht hW => ⟨⟨_, (), rfl, (congrArg zI (show 0 = zIf3 xb xm xd (zB (xd = 0 ∧ xe = 0)) (zB (xd + 1 ≤ 5)) (1) (0) from by first | (rw [zIf3_d (by omega) (by omega) (by omega)]; done) | (rw [zIf3_d (by omega) (by omega) (by omega)]; exact (zB_t (by omega)).symm) | (rw [zIf3_d (by omega) (by omega) (by omega)]; exact (zB_f (by omega)).symm))), by rw [ht]; exact hP9, hD9⟩, hS.F ht⟩) hS.2.2 dX4_takes_128
            · refine lv_aload_n hx hb dX4_takes_115 rfl (lv_at hl 1 rfl) ?_
              refine va_get (D := D) (ci := 4) (v := .int (zI xm)) (C := RX4) (T := TX4) (N := 7) hx hb hts hiX4 hown hK hP 0 rfl rfl 3 (by decide) (hts (.fieldLink RX4 23 "ChargeEstimator$MeasurementText" "complete" "I") (List.mem_of_getElem? (i := 4) rfl)) (fun _ h9 => h9) rfl dX4_takes_116 ?_
              refine lv_aload_n hx hb dX4_takes_119 rfl (lv_at hl 1 rfl) ?_
              refine va_get (D := D) (ci := 4) (v := .ref (w 2)) (C := RX4) (T := TX4) (N := 7) hx hb hts hiX4 hown hK hP 0 rfl rfl 2 (by decide) (hts (.fieldLink RX4 15 "ChargeEstimator$MeasurementText" "numbers" "[I") (List.mem_of_getElem? (i := 5) rfl)) (fun _ h9 => h9) rfl dX4_takes_120 ?_
              refine va_alen (v := zI 60) hx hb hK hP 2 rfl (t0 := 0) rfl rfl dX4_takes_123 ?_
              refine zr_icmp_lt (tgt := 129) hx hb dX4_takes_124 (by decide) (by omega) (by decide) (fun c16 => ?_) (fun c16 => ?_)
              · refine lv_aload_n hx hb dX4_takes_129 rfl (lv_at hl 1 rfl) ?_
                refine va_get (D := D) (ci := 4) (v := .ref (w 2)) (C := RX4) (T := TX4) (N := 7) hx hb hts hiX4 hown hK hP 0 rfl rfl 2 (by decide) (hts (.fieldLink RX4 15 "ChargeEstimator$MeasurementText" "numbers" "[I") (List.mem_of_getElem? (i := 5) rfl)) (fun _ h9 => h9) rfl dX4_takes_130 ?_
                refine lv_aload_n hx hb dX4_takes_133 rfl (lv_at hl 1 rfl) ?_
                refine va_get (D := D) (ci := 4) (v := .int (zI xm)) (C := RX4) (T := TX4) (N := 7) hx hb hts hiX4 hown hK hP 0 rfl rfl 3 (by decide) (hts (.fieldLink RX4 23 "ChargeEstimator$MeasurementText" "complete" "I") (List.mem_of_getElem? (i := 4) rfl)) (fun _ h9 => h9) rfl dX4_takes_134 ?_
                refine lv_aload_n hx hb dX4_takes_137 rfl (lv_at hl 1 rfl) ?_
                refine va_get (D := D) (ci := 4) (v := .int (zI xe)) (C := RX4) (T := TX4) (N := 7) hx hb hts hiX4 hown hK hP 0 rfl rfl 6 (by decide) (hts (.fieldLink RX4 36 "ChargeEstimator$MeasurementText" "negative" "Z") (List.mem_of_getElem? (i := 2) rfl)) (fun _ h9 => h9) rfl dX4_takes_138 ?_
                refine zr_if_eq (tgt := 152) hx hb dX4_takes_141 (by decide) (by omega) (fun c17 => ?_) (fun c17 => ?_)
                · refine lv_aload_n hx hb dX4_takes_152 rfl (lv_at hl 1 rfl) ?_
                  refine va_get (D := D) (ci := 4) (v := .int (zI xn)) (C := RX4) (T := TX4) (N := 7) hx hb hts hiX4 hown hK hP 0 rfl rfl 4 (by decide) (hts (.fieldLink RX4 40 "ChargeEstimator$MeasurementText" "number" "I") (List.mem_of_getElem? (i := 3) rfl)) (fun _ h9 => h9) rfl dX4_takes_153 ?_
                  refine zr_iast (D := D) (g := g) hx hb hK hP hD hS 2 0 rfl rfl (by decide) (by omega) dX4_takes_156 (fun H locs hP hD hS => ?_)
                  have hP : va_P D vwCl ([(w 0, .inr (4, [.ref (w 1), .int (zI xl), .ref (w 2), .int (zI xm), .int (zI xn), .int (zI xd), .int (zI xe)])), (w 1, .inl (cs 1, 120, .inl (zA f))), (w 2, .inl (cs 0, 60, .inl (zA (zU g xm xn))))]) H := hP
                  have hD : va_D A0 ([(w 0, .inr (4, [.ref (w 1), .int (zI xl), .ref (w 2), .int (zI xm), .int (zI xn), .int (zI xd), .int (zI xe)])), (w 1, .inl (cs 1, 120, .inl (zA f))), (w 2, .inl (cs 0, 60, .inl (zA (zU g xm xn))))]) := zD_addr hD rfl
                  refine lv_aload_n hx hb dX4_takes_157 rfl (lv_at hl 1 rfl) ?_
                  refine lv_dup hx hb dX4_takes_158 rfl ?_
                  refine va_get (D := D) (ci := 4) (v := .int (zI xm)) (C := RX4) (T := TX4) (N := 7) hx hb hts hiX4 hown hK hP 0 rfl rfl 3 (by decide) (hts (.fieldLink RX4 23 "ChargeEstimator$MeasurementText" "complete" "I") (List.mem_of_getElem? (i := 4) rfl)) (fun _ h9 => h9) rfl dX4_takes_159 ?_
                  refine zr_iconst hx hb dX4_takes_162 ?_
                  refine zr_iadd hx hb dX4_takes_163 ?_
                  refine va_put (D := D) (ci := 4) (v := .int (zI (xm + 1))) (ty := .int) (C := RX4) (T := TX4) (N := 7) hx hb hts hiX4 tyX4 tyX4_ok nmX4 hown hK hP hD hS 0 rfl rfl 3 (by decide) (hts (.fieldLink RX4 23 "ChargeEstimator$MeasurementText" "complete" "I") (List.mem_of_getElem? (i := 4) rfl)) (fun _ h9 => h9) rfl (by decide +kernel) rfl rfl (Nat.le_of_ble_eq_true rfl) dX4_takes_164 (fun H locs hP hD hS => ?_)
                  have hP : va_P D vwCl ([(w 0, .inr (4, [.ref (w 1), .int (zI xl), .ref (w 2), .int (zI (xm + 1)), .int (zI xn), .int (zI xd), .int (zI xe)])), (w 1, .inl (cs 1, 120, .inl (zA f))), (w 2, .inl (cs 0, 60, .inl (zA (zU g xm xn))))]) H := hP
                  have hD : va_D A0 ([(w 0, .inr (4, [.ref (w 1), .int (zI xl), .ref (w 2), .int (zI (xm + 1)), .int (zI xn), .int (zI xd), .int (zI xe)])), (w 1, .inl (cs 1, 120, .inl (zA f))), (w 2, .inl (cs 0, 60, .inl (zA (zU g xm xn))))]) := zD_addr hD rfl
                  refine lv_aload_n hx hb dX4_takes_167 rfl (lv_at hl 1 rfl) ?_
                  refine zc_vj (w := [(w 0, .inr (4, [.ref (w 1), .int (zI xl), .ref (w 2), .int (zI (xm + 1)), .int (zI xn), .int (zI xd), .int (zI xe)])), (w 1, .inl (cs 1, 120, .inl (zA f))), (w 2, .inl (cs 0, 60, .inl (zA (zU g xm xn))))]) (wr := []) (va_runV (As := []) (rest := []) ⟨hx, hb, hml, hown, hts⟩ (met_X4_beginNumber l D cs w H.size f xl (zU g xm xn) (xm + 1) xn xd xe ) (cwV 0 hts gX4_takes_X4_beginNumber rfl rfl rfl (by decide +kernel) ⟨Nat.le_of_ble_eq_true rfl, Nat.le_of_ble_eq_true rfl⟩) ⟨zPreZ.blind, va_recv hK hP (ci := 4) (q0 := 0) rfl rfl, fun U hU hW => zp_Z (hP.sub (ws' := [(w 0, .inr (4, [.ref (w 1), .int (zI xl), .ref (w 2), .int (zI (xm + 1)), .int (zI xn), .int (zI xd), .int (zI xe)])), (w 1, .inl (cs 1, 120, .inl (zA f))), (w 2, .inl (cs 0, 60, .inl (zA (zU g xm xn))))]) [0, 1, 2] rfl) hK (hD.sub (ws' := [(w 0, .inr (4, [.ref (w 1), .int (zI xl), .ref (w 2), .int (zI (xm + 1)), .int (zI xn), .int (zI xd), .int (zI xe)])), (w 1, .inl (cs 1, 120, .inl (zA f))), (w 2, .inl (cs 0, 60, .inl (zA (zU g xm xn))))]) [0, 1, 2] (by decide) rfl) hN hU hW⟩ rfl rfl hl.1 rfl (lv_room (Nat.le_of_ble_eq_true rfl)) dX4_takes_168 ⟨Nat.le_of_ble_eq_true rfl, Nat.le_of_ble_eq_true rfl⟩) hS hP hD hA [0, 1, 2] [] rfl rfl (by decide) (by decide) (fun H locs hP hD hS => ?_)
                  have hP : va_P D vwCl ([(w 0, .inr (4, [.ref (w 1), .int (zI xl), .ref (w 2), .int (zI (xm + 1)), .int (zI 0), .int (zI 0), .int (zI 0)])), (w 1, .inl (cs 1, 120, .inl (zA f))), (w 2, .inl (cs 0, 60, .inl (zA (zU g xm xn))))]) H := hP.sub (ws' := [(w 0, .inr (4, [.ref (w 1), .int (zI xl), .ref (w 2), .int (zI (xm + 1)), .int (zI 0), .int (zI 0), .int (zI 0)])), (w 1, .inl (cs 1, 120, .inl (zA f))), (w 2, .inl (cs 0, 60, .inl (zA (zU g xm xn))))]) [0, 1, 2] rfl
                  have hD : va_D A0 ([(w 0, .inr (4, [.ref (w 1), .int (zI xl), .ref (w 2), .int (zI (xm + 1)), .int (zI 0), .int (zI 0), .int (zI 0)])), (w 1, .inl (cs 1, 120, .inl (zA f))), (w 2, .inl (cs 0, 60, .inl (zA (zU g xm xn))))]) := hD.sub (ws' := [(w 0, .inr (4, [.ref (w 1), .int (zI xl), .ref (w 2), .int (zI (xm + 1)), .int (zI 0), .int (zI 0), .int (zI 0)])), (w 1, .inl (cs 1, 120, .inl (zA f))), (w 2, .inl (cs 0, 60, .inl (zA (zU g xm xn))))]) [0, 1, 2] (by decide) rfl
                  refine zr_iconst hx hb dX4_takes_171 ?_
                  have hP8 : va_P D vwCl ([(w 0, .inr (4, [.ref (w 1), .int (zI xl), .ref (w 2), .int (zI (zIf3 xb xm xd (xm) (xm) (xm + 1) (xm))), .int (zI (zIf3 xb xm xd (xn) (10 * xn + (xb - 48)) (0) (xn))), .int (zI (zIf3 xb xm xd (xd) (xd + 1) (0) (xd))), .int (zI (zIf3 xb xm xd (1) (xe) (0) (xe)))])), (w 1, .inl (cs 1, 120, .inl (zA f))), (w 2, .inl (cs 0, 60, .inl (zA (zIf3 xb xm xd (g) (g) (zU g xm (zSg xe xn)) (g)))))]) H := by rw [zIf3_c (α := Int) (by omega), zIf3_c (α := Int → Int) (by omega)]; first | (rw [show zSg xe xn = xn from if_pos (by omega)]; exact hP) | (rw [show zSg xe xn = -xn from if_neg (by omega)]; exact hP)
                  have hP9 : va_P D vwCl ([(w 0, .inr (4, [.ref (w 1), .int (zI xl), .ref (w 2), .int (zI (zIf3 xb xm xd (xm) (xm) (xm + 1) (xm))), .int (zI (zIf3 xb xm xd (xn) (10 * xn + (xb - 48)) (0) (xn))), .int (zI (zIf3 xb xm xd (xd) (xd + 1) (0) (xd))), .int (zI (zIf3 xb xm xd (1) (xe) (0) (xe)))])), (w 1, .inl (cs 1, 120, .inl (zA f))), (w 2, .inl (cs 0, 60, .inl (zA (zIf3 xb xm xd (g) (g) (zU g xm (zSg xe xn)) (g)))))]) H := hP8
                  have hD9 : va_D A0 ([(w 0, .inr (4, [.ref (w 1), .int (zI xl), .ref (w 2), .int (zI (zIf3 xb xm xd (xm) (xm) (xm + 1) (xm))), .int (zI (zIf3 xb xm xd (xn) (10 * xn + (xb - 48)) (0) (xn))), .int (zI (zIf3 xb xm xd (xd) (xd + 1) (0) (xd))), .int (zI (zIf3 xb xm xd (1) (xe) (0) (xe)))])), (w 1, .inl (cs 1, 120, .inl (zA f))), (w 2, .inl (cs 0, 60, .inl (zA (zIf3 xb xm xd (g) (g) (zU g xm (zSg xe xn)) (g)))))]) := zD_addr hD rfl
                  subst hAe
                  exact W.zret hx hb hr (zbool_n (by first | decide | exact zB_r _)) (fun t ht hW => ⟨⟨_, (), rfl, (congrArg zI (show 1 = zIf3 xb xm xd (zB (xd = 0 ∧ xe = 0)) (zB (xd + 1 ≤ 5)) (1) (0) from by first | (rw [zIf3_c (by omega)]; done) | (rw [zIf3_c (by omega)]; exact (zB_t (by omega)).symm) | (rw [zIf3_c (by omega)]; exact (zB_f (by omega)).symm))), by rw [ht]; exact hP9, hD9⟩, hS.F ht⟩) hS.2.2 dX4_takes_172
                · refine lv_aload_n hx hb dX4_takes_144 rfl (lv_at hl 1 rfl) ?_
                  refine va_get (D := D) (ci := 4) (v := .int (zI xn)) (C := RX4) (T := TX4) (N := 7) hx hb hts hiX4 hown hK hP 0 rfl rfl 4 (by decide) (hts (.fieldLink RX4 40 "ChargeEstimator$MeasurementText" "number" "I") (List.mem_of_getElem? (i := 3) rfl)) (fun _ h9 => h9) rfl dX4_takes_145 ?_
                  refine zr_ineg hx hb dX4_takes_148 ?_
                  refine lv_goto (tgt := 156) hx hb dX4_takes_149 (by decide) ?_
                  refine zr_iast (D := D) (g := g) hx hb hK hP hD hS 2 0 rfl rfl (by decide) (by omega) dX4_takes_156 (fun H locs hP hD hS => ?_)
                  have hP : va_P D vwCl ([(w 0, .inr (4, [.ref (w 1), .int (zI xl), .ref (w 2), .int (zI xm), .int (zI xn), .int (zI xd), .int (zI xe)])), (w 1, .inl (cs 1, 120, .inl (zA f))), (w 2, .inl (cs 0, 60, .inl (zA (zU g xm (-xn)))))]) H := hP
                  have hD : va_D A0 ([(w 0, .inr (4, [.ref (w 1), .int (zI xl), .ref (w 2), .int (zI xm), .int (zI xn), .int (zI xd), .int (zI xe)])), (w 1, .inl (cs 1, 120, .inl (zA f))), (w 2, .inl (cs 0, 60, .inl (zA (zU g xm (-xn)))))]) := zD_addr hD rfl
                  refine lv_aload_n hx hb dX4_takes_157 rfl (lv_at hl 1 rfl) ?_
                  refine lv_dup hx hb dX4_takes_158 rfl ?_
                  refine va_get (D := D) (ci := 4) (v := .int (zI xm)) (C := RX4) (T := TX4) (N := 7) hx hb hts hiX4 hown hK hP 0 rfl rfl 3 (by decide) (hts (.fieldLink RX4 23 "ChargeEstimator$MeasurementText" "complete" "I") (List.mem_of_getElem? (i := 4) rfl)) (fun _ h9 => h9) rfl dX4_takes_159 ?_
                  refine zr_iconst hx hb dX4_takes_162 ?_
                  refine zr_iadd hx hb dX4_takes_163 ?_
                  refine va_put (D := D) (ci := 4) (v := .int (zI (xm + 1))) (ty := .int) (C := RX4) (T := TX4) (N := 7) hx hb hts hiX4 tyX4 tyX4_ok nmX4 hown hK hP hD hS 0 rfl rfl 3 (by decide) (hts (.fieldLink RX4 23 "ChargeEstimator$MeasurementText" "complete" "I") (List.mem_of_getElem? (i := 4) rfl)) (fun _ h9 => h9) rfl (by decide +kernel) rfl rfl (Nat.le_of_ble_eq_true rfl) dX4_takes_164 (fun H locs hP hD hS => ?_)
                  have hP : va_P D vwCl ([(w 0, .inr (4, [.ref (w 1), .int (zI xl), .ref (w 2), .int (zI (xm + 1)), .int (zI xn), .int (zI xd), .int (zI xe)])), (w 1, .inl (cs 1, 120, .inl (zA f))), (w 2, .inl (cs 0, 60, .inl (zA (zU g xm (-xn)))))]) H := hP
                  have hD : va_D A0 ([(w 0, .inr (4, [.ref (w 1), .int (zI xl), .ref (w 2), .int (zI (xm + 1)), .int (zI xn), .int (zI xd), .int (zI xe)])), (w 1, .inl (cs 1, 120, .inl (zA f))), (w 2, .inl (cs 0, 60, .inl (zA (zU g xm (-xn)))))]) := zD_addr hD rfl
                  refine lv_aload_n hx hb dX4_takes_167 rfl (lv_at hl 1 rfl) ?_
                  refine zc_vj (w := [(w 0, .inr (4, [.ref (w 1), .int (zI xl), .ref (w 2), .int (zI (xm + 1)), .int (zI xn), .int (zI xd), .int (zI xe)])), (w 1, .inl (cs 1, 120, .inl (zA f))), (w 2, .inl (cs 0, 60, .inl (zA (zU g xm (-xn)))))]) (wr := []) (va_runV (As := []) (rest := []) ⟨hx, hb, hml, hown, hts⟩ (met_X4_beginNumber l D cs w H.size f xl (zU g xm (-xn)) (xm + 1) xn xd xe ) (cwV 0 hts gX4_takes_X4_beginNumber rfl rfl rfl (by decide +kernel) ⟨Nat.le_of_ble_eq_true rfl, Nat.le_of_ble_eq_true rfl⟩) ⟨zPreZ.blind, va_recv hK hP (ci := 4) (q0 := 0) rfl rfl, fun U hU hW => zp_Z (hP.sub (ws' := [(w 0, .inr (4, [.ref (w 1), .int (zI xl), .ref (w 2), .int (zI (xm + 1)), .int (zI xn), .int (zI xd), .int (zI xe)])), (w 1, .inl (cs 1, 120, .inl (zA f))), (w 2, .inl (cs 0, 60, .inl (zA (zU g xm (-xn)))))]) [0, 1, 2] rfl) hK (hD.sub (ws' := [(w 0, .inr (4, [.ref (w 1), .int (zI xl), .ref (w 2), .int (zI (xm + 1)), .int (zI xn), .int (zI xd), .int (zI xe)])), (w 1, .inl (cs 1, 120, .inl (zA f))), (w 2, .inl (cs 0, 60, .inl (zA (zU g xm (-xn)))))]) [0, 1, 2] (by decide) rfl) hN hU hW⟩ rfl rfl hl.1 rfl (lv_room (Nat.le_of_ble_eq_true rfl)) dX4_takes_168 ⟨Nat.le_of_ble_eq_true rfl, Nat.le_of_ble_eq_true rfl⟩) hS hP hD hA [0, 1, 2] [] rfl rfl (by decide) (by decide) (fun H locs hP hD hS => ?_)
                  have hP : va_P D vwCl ([(w 0, .inr (4, [.ref (w 1), .int (zI xl), .ref (w 2), .int (zI (xm + 1)), .int (zI 0), .int (zI 0), .int (zI 0)])), (w 1, .inl (cs 1, 120, .inl (zA f))), (w 2, .inl (cs 0, 60, .inl (zA (zU g xm (-xn)))))]) H := hP.sub (ws' := [(w 0, .inr (4, [.ref (w 1), .int (zI xl), .ref (w 2), .int (zI (xm + 1)), .int (zI 0), .int (zI 0), .int (zI 0)])), (w 1, .inl (cs 1, 120, .inl (zA f))), (w 2, .inl (cs 0, 60, .inl (zA (zU g xm (-xn)))))]) [0, 1, 2] rfl
                  have hD : va_D A0 ([(w 0, .inr (4, [.ref (w 1), .int (zI xl), .ref (w 2), .int (zI (xm + 1)), .int (zI 0), .int (zI 0), .int (zI 0)])), (w 1, .inl (cs 1, 120, .inl (zA f))), (w 2, .inl (cs 0, 60, .inl (zA (zU g xm (-xn)))))]) := hD.sub (ws' := [(w 0, .inr (4, [.ref (w 1), .int (zI xl), .ref (w 2), .int (zI (xm + 1)), .int (zI 0), .int (zI 0), .int (zI 0)])), (w 1, .inl (cs 1, 120, .inl (zA f))), (w 2, .inl (cs 0, 60, .inl (zA (zU g xm (-xn)))))]) [0, 1, 2] (by decide) rfl
                  refine zr_iconst hx hb dX4_takes_171 ?_
                  have hP8 : va_P D vwCl ([(w 0, .inr (4, [.ref (w 1), .int (zI xl), .ref (w 2), .int (zI (zIf3 xb xm xd (xm) (xm) (xm + 1) (xm))), .int (zI (zIf3 xb xm xd (xn) (10 * xn + (xb - 48)) (0) (xn))), .int (zI (zIf3 xb xm xd (xd) (xd + 1) (0) (xd))), .int (zI (zIf3 xb xm xd (1) (xe) (0) (xe)))])), (w 1, .inl (cs 1, 120, .inl (zA f))), (w 2, .inl (cs 0, 60, .inl (zA (zIf3 xb xm xd (g) (g) (zU g xm (zSg xe xn)) (g)))))]) H := by rw [zIf3_c (α := Int) (by omega), zIf3_c (α := Int → Int) (by omega)]; first | (rw [show zSg xe xn = xn from if_pos (by omega)]; exact hP) | (rw [show zSg xe xn = -xn from if_neg (by omega)]; exact hP)
                  have hP9 : va_P D vwCl ([(w 0, .inr (4, [.ref (w 1), .int (zI xl), .ref (w 2), .int (zI (zIf3 xb xm xd (xm) (xm) (xm + 1) (xm))), .int (zI (zIf3 xb xm xd (xn) (10 * xn + (xb - 48)) (0) (xn))), .int (zI (zIf3 xb xm xd (xd) (xd + 1) (0) (xd))), .int (zI (zIf3 xb xm xd (1) (xe) (0) (xe)))])), (w 1, .inl (cs 1, 120, .inl (zA f))), (w 2, .inl (cs 0, 60, .inl (zA (zIf3 xb xm xd (g) (g) (zU g xm (zSg xe xn)) (g)))))]) H := hP8
                  have hD9 : va_D A0 ([(w 0, .inr (4, [.ref (w 1), .int (zI xl), .ref (w 2), .int (zI (zIf3 xb xm xd (xm) (xm) (xm + 1) (xm))), .int (zI (zIf3 xb xm xd (xn) (10 * xn + (xb - 48)) (0) (xn))), .int (zI (zIf3 xb xm xd (xd) (xd + 1) (0) (xd))), .int (zI (zIf3 xb xm xd (1) (xe) (0) (xe)))])), (w 1, .inl (cs 1, 120, .inl (zA f))), (w 2, .inl (cs 0, 60, .inl (zA (zIf3 xb xm xd (g) (g) (zU g xm (zSg xe xn)) (g)))))]) := zD_addr hD rfl
                  subst hAe
                  exact W.zret hx hb hr (zbool_n (by first | decide | exact zB_r _)) (fun t ht hW => ⟨⟨_, (), rfl, (congrArg zI (show 1 = zIf3 xb xm xd (zB (xd = 0 ∧ xe = 0)) (zB (xd + 1 ≤ 5)) (1) (0) from by first | (rw [zIf3_c (by omega)]; done) | (rw [zIf3_c (by omega)]; exact (zB_t (by omega)).symm) | (rw [zIf3_c (by omega)]; exact (zB_f (by omega)).symm))), by rw [ht]; exact hP9, hD9⟩, hS.F ht⟩) hS.2.2 dX4_takes_172
              · refine zr_iconst hx hb dX4_takes_127 ?_
                have hP8 : va_P D vwCl ([(w 0, .inr (4, [.ref (w 1), .int (zI xl), .ref (w 2), .int (zI (zIf3 xb xm xd (xm) (xm) (xm + 1) (xm))), .int (zI (zIf3 xb xm xd (xn) (10 * xn + (xb - 48)) (0) (xn))), .int (zI (zIf3 xb xm xd (xd) (xd + 1) (0) (xd))), .int (zI (zIf3 xb xm xd (1) (xe) (0) (xe)))])), (w 1, .inl (cs 1, 120, .inl (zA f))), (w 2, .inl (cs 0, 60, .inl (zA (zIf3 xb xm xd (g) (g) (zU g xm (zSg xe xn)) (g)))))]) s.heap := by rw [zIf3_d (α := Int) (by omega) (by omega) (by omega), zIf3_d (α := Int → Int) (by omega) (by omega) (by omega)]; exact hP
                have hP9 : va_P D vwCl ([(w 0, .inr (4, [.ref (w 1), .int (zI xl), .ref (w 2), .int (zI (zIf3 xb xm xd (xm) (xm) (xm + 1) (xm))), .int (zI (zIf3 xb xm xd (xn) (10 * xn + (xb - 48)) (0) (xn))), .int (zI (zIf3 xb xm xd (xd) (xd + 1) (0) (xd))), .int (zI (zIf3 xb xm xd (1) (xe) (0) (xe)))])), (w 1, .inl (cs 1, 120, .inl (zA f))), (w 2, .inl (cs 0, 60, .inl (zA (zIf3 xb xm xd (g) (g) (zU g xm (zSg xe xn)) (g)))))]) s.heap := hP8
                have hD9 : va_D A0 ([(w 0, .inr (4, [.ref (w 1), .int (zI xl), .ref (w 2), .int (zI (zIf3 xb xm xd (xm) (xm) (xm + 1) (xm))), .int (zI (zIf3 xb xm xd (xn) (10 * xn + (xb - 48)) (0) (xn))), .int (zI (zIf3 xb xm xd (xd) (xd + 1) (0) (xd))), .int (zI (zIf3 xb xm xd (1) (xe) (0) (xe)))])), (w 1, .inl (cs 1, 120, .inl (zA f))), (w 2, .inl (cs 0, 60, .inl (zA (zIf3 xb xm xd (g) (g) (zU g xm (zSg xe xn)) (g)))))]) := zD_addr hD rfl
                subst hAe
                exact W.zret hx hb hr (zbool_n (by first | decide | exact zB_r _)) (fun t ht hW => ⟨⟨_, (), rfl, (congrArg zI (show 0 = zIf3 xb xm xd (zB (xd = 0 ∧ xe = 0)) (zB (xd + 1 ≤ 5)) (1) (0) from by first | (rw [zIf3_d (by omega) (by omega) (by omega)]; done) | (rw [zIf3_d (by omega) (by omega) (by omega)]; exact (zB_t (by omega)).symm) | (rw [zIf3_d (by omega) (by omega) (by omega)]; exact (zB_f (by omega)).symm))), by rw [ht]; exact hP9, hD9⟩, hS.F ht⟩) hS.2.2 dX4_takes_128
        · refine zr_bipush hx hb dX4_takes_95 (by decide) ?_
          refine lv_goto (tgt := 102) hx hb dX4_takes_97 (by decide) ?_
          refine lv_istore_n (lv' := [(2, .int (zI 59)), (0, .ref (w 0)), (1, .int (zI xb))]) hx hb dX4_takes_102 rfl hl (by decide) rfl (fun ls hl => ?_)
          refine lv_iload_n hx hb dX4_takes_103 rfl (lv_at hl 2 rfl) ?_
          refine lv_iload_n hx hb dX4_takes_104 rfl (lv_at hl 0 rfl) ?_
          refine zr_icmp_ne (tgt := 127) hx hb dX4_takes_105 (by decide) (by omega) (by decide) (fun c18 => ?_) (fun c18 => ?_)
          · refine zr_iconst hx hb dX4_takes_127 ?_
            have hP8 : va_P D vwCl ([(w 0, .inr (4, [.ref (w 1), .int (zI xl), .ref (w 2), .int (zI (zIf3 xb xm xd (xm) (xm) (xm + 1) (xm))), .int (zI (zIf3 xb xm xd (xn) (10 * xn + (xb - 48)) (0) (xn))), .int (zI (zIf3 xb xm xd (xd) (xd + 1) (0) (xd))), .int (zI (zIf3 xb xm xd (1) (xe) (0) (xe)))])), (w 1, .inl (cs 1, 120, .inl (zA f))), (w 2, .inl (cs 0, 60, .inl (zA (zIf3 xb xm xd (g) (g) (zU g xm (zSg xe xn)) (g)))))]) s.heap := by rw [zIf3_d (α := Int) (by omega) (by omega) (by omega), zIf3_d (α := Int → Int) (by omega) (by omega) (by omega)]; exact hP
            have hP9 : va_P D vwCl ([(w 0, .inr (4, [.ref (w 1), .int (zI xl), .ref (w 2), .int (zI (zIf3 xb xm xd (xm) (xm) (xm + 1) (xm))), .int (zI (zIf3 xb xm xd (xn) (10 * xn + (xb - 48)) (0) (xn))), .int (zI (zIf3 xb xm xd (xd) (xd + 1) (0) (xd))), .int (zI (zIf3 xb xm xd (1) (xe) (0) (xe)))])), (w 1, .inl (cs 1, 120, .inl (zA f))), (w 2, .inl (cs 0, 60, .inl (zA (zIf3 xb xm xd (g) (g) (zU g xm (zSg xe xn)) (g)))))]) s.heap := hP8
            have hD9 : va_D A0 ([(w 0, .inr (4, [.ref (w 1), .int (zI xl), .ref (w 2), .int (zI (zIf3 xb xm xd (xm) (xm) (xm + 1) (xm))), .int (zI (zIf3 xb xm xd (xn) (10 * xn + (xb - 48)) (0) (xn))), .int (zI (zIf3 xb xm xd (xd) (xd + 1) (0) (xd))), .int (zI (zIf3 xb xm xd (1) (xe) (0) (xe)))])), (w 1, .inl (cs 1, 120, .inl (zA f))), (w 2, .inl (cs 0, 60, .inl (zA (zIf3 xb xm xd (g) (g) (zU g xm (zSg xe xn)) (g)))))]) := zD_addr hD rfl
            subst hAe
            exact W.zret hx hb hr (zbool_n (by first | decide | exact zB_r _)) (fun t ht hW => ⟨⟨_, (), rfl, (congrArg zI (show 0 = zIf3 xb xm xd (zB (xd = 0 ∧ xe = 0)) (zB (xd + 1 ≤ 5)) (1) (0) from by first | (rw [zIf3_d (by omega) (by omega) (by omega)]; done) | (rw [zIf3_d (by omega) (by omega) (by omega)]; exact (zB_t (by omega)).symm) | (rw [zIf3_d (by omega) (by omega) (by omega)]; exact (zB_f (by omega)).symm))), by rw [ht]; exact hP9, hD9⟩, hS.F ht⟩) hS.2.2 dX4_takes_128
          · refine lv_aload_n hx hb dX4_takes_108 rfl (lv_at hl 1 rfl) ?_
            refine va_get (D := D) (ci := 4) (v := .int (zI xd)) (C := RX4) (T := TX4) (N := 7) hx hb hts hiX4 hown hK hP 0 rfl rfl 5 (by decide) (hts (.fieldLink RX4 33 "ChargeEstimator$MeasurementText" "digits" "I") (List.mem_of_getElem? (i := 1) rfl)) (fun _ h9 => h9) rfl dX4_takes_109 ?_
            refine zr_if_eq (tgt := 127) hx hb dX4_takes_112 (by decide) (by omega) (fun c19 => ?_) (fun c19 => ?_)
            · refine zr_iconst hx hb dX4_takes_127 ?_
              have hP8 : va_P D vwCl ([(w 0, .inr (4, [.ref (w 1), .int (zI xl), .ref (w 2), .int (zI (zIf3 xb xm xd (xm) (xm) (xm + 1) (xm))), .int (zI (zIf3 xb xm xd (xn) (10 * xn + (xb - 48)) (0) (xn))), .int (zI (zIf3 xb xm xd (xd) (xd + 1) (0) (xd))), .int (zI (zIf3 xb xm xd (1) (xe) (0) (xe)))])), (w 1, .inl (cs 1, 120, .inl (zA f))), (w 2, .inl (cs 0, 60, .inl (zA (zIf3 xb xm xd (g) (g) (zU g xm (zSg xe xn)) (g)))))]) s.heap := by rw [zIf3_d (α := Int) (by omega) (by omega) (by omega), zIf3_d (α := Int → Int) (by omega) (by omega) (by omega)]; exact hP
              have hP9 : va_P D vwCl ([(w 0, .inr (4, [.ref (w 1), .int (zI xl), .ref (w 2), .int (zI (zIf3 xb xm xd (xm) (xm) (xm + 1) (xm))), .int (zI (zIf3 xb xm xd (xn) (10 * xn + (xb - 48)) (0) (xn))), .int (zI (zIf3 xb xm xd (xd) (xd + 1) (0) (xd))), .int (zI (zIf3 xb xm xd (1) (xe) (0) (xe)))])), (w 1, .inl (cs 1, 120, .inl (zA f))), (w 2, .inl (cs 0, 60, .inl (zA (zIf3 xb xm xd (g) (g) (zU g xm (zSg xe xn)) (g)))))]) s.heap := hP8
              have hD9 : va_D A0 ([(w 0, .inr (4, [.ref (w 1), .int (zI xl), .ref (w 2), .int (zI (zIf3 xb xm xd (xm) (xm) (xm + 1) (xm))), .int (zI (zIf3 xb xm xd (xn) (10 * xn + (xb - 48)) (0) (xn))), .int (zI (zIf3 xb xm xd (xd) (xd + 1) (0) (xd))), .int (zI (zIf3 xb xm xd (1) (xe) (0) (xe)))])), (w 1, .inl (cs 1, 120, .inl (zA f))), (w 2, .inl (cs 0, 60, .inl (zA (zIf3 xb xm xd (g) (g) (zU g xm (zSg xe xn)) (g)))))]) := zD_addr hD rfl
              subst hAe
              exact W.zret hx hb hr (zbool_n (by first | decide | exact zB_r _)) (fun t ht hW => ⟨⟨_, (), rfl, (congrArg zI (show 0 = zIf3 xb xm xd (zB (xd = 0 ∧ xe = 0)) (zB (xd + 1 ≤ 5)) (1) (0) from by first | (rw [zIf3_d (by omega) (by omega) (by omega)]; done) | (rw [zIf3_d (by omega) (by omega) (by omega)]; exact (zB_t (by omega)).symm) | (rw [zIf3_d (by omega) (by omega) (by omega)]; exact (zB_f (by omega)).symm))), by rw [ht]; exact hP9, hD9⟩, hS.F ht⟩) hS.2.2 dX4_takes_128
            · refine lv_aload_n hx hb dX4_takes_115 rfl (lv_at hl 1 rfl) ?_
              refine va_get (D := D) (ci := 4) (v := .int (zI xm)) (C := RX4) (T := TX4) (N := 7) hx hb hts hiX4 hown hK hP 0 rfl rfl 3 (by decide) (hts (.fieldLink RX4 23 "ChargeEstimator$MeasurementText" "complete" "I") (List.mem_of_getElem? (i := 4) rfl)) (fun _ h9 => h9) rfl dX4_takes_116 ?_
              refine lv_aload_n hx hb dX4_takes_119 rfl (lv_at hl 1 rfl) ?_
              refine va_get (D := D) (ci := 4) (v := .ref (w 2)) (C := RX4) (T := TX4) (N := 7) hx hb hts hiX4 hown hK hP 0 rfl rfl 2 (by decide) (hts (.fieldLink RX4 15 "ChargeEstimator$MeasurementText" "numbers" "[I") (List.mem_of_getElem? (i := 5) rfl)) (fun _ h9 => h9) rfl dX4_takes_120 ?_
              refine va_alen (v := zI 60) hx hb hK hP 2 rfl (t0 := 0) rfl rfl dX4_takes_123 ?_
              refine zr_icmp_lt (tgt := 129) hx hb dX4_takes_124 (by decide) (by omega) (by decide) (fun c20 => ?_) (fun c20 => ?_)
              · refine lv_aload_n hx hb dX4_takes_129 rfl (lv_at hl 1 rfl) ?_
                refine va_get (D := D) (ci := 4) (v := .ref (w 2)) (C := RX4) (T := TX4) (N := 7) hx hb hts hiX4 hown hK hP 0 rfl rfl 2 (by decide) (hts (.fieldLink RX4 15 "ChargeEstimator$MeasurementText" "numbers" "[I") (List.mem_of_getElem? (i := 5) rfl)) (fun _ h9 => h9) rfl dX4_takes_130 ?_
                refine lv_aload_n hx hb dX4_takes_133 rfl (lv_at hl 1 rfl) ?_
                refine va_get (D := D) (ci := 4) (v := .int (zI xm)) (C := RX4) (T := TX4) (N := 7) hx hb hts hiX4 hown hK hP 0 rfl rfl 3 (by decide) (hts (.fieldLink RX4 23 "ChargeEstimator$MeasurementText" "complete" "I") (List.mem_of_getElem? (i := 4) rfl)) (fun _ h9 => h9) rfl dX4_takes_134 ?_
                refine lv_aload_n hx hb dX4_takes_137 rfl (lv_at hl 1 rfl) ?_
                refine va_get (D := D) (ci := 4) (v := .int (zI xe)) (C := RX4) (T := TX4) (N := 7) hx hb hts hiX4 hown hK hP 0 rfl rfl 6 (by decide) (hts (.fieldLink RX4 36 "ChargeEstimator$MeasurementText" "negative" "Z") (List.mem_of_getElem? (i := 2) rfl)) (fun _ h9 => h9) rfl dX4_takes_138 ?_
                refine zr_if_eq (tgt := 152) hx hb dX4_takes_141 (by decide) (by omega) (fun c21 => ?_) (fun c21 => ?_)
                · refine lv_aload_n hx hb dX4_takes_152 rfl (lv_at hl 1 rfl) ?_
                  refine va_get (D := D) (ci := 4) (v := .int (zI xn)) (C := RX4) (T := TX4) (N := 7) hx hb hts hiX4 hown hK hP 0 rfl rfl 4 (by decide) (hts (.fieldLink RX4 40 "ChargeEstimator$MeasurementText" "number" "I") (List.mem_of_getElem? (i := 3) rfl)) (fun _ h9 => h9) rfl dX4_takes_153 ?_
                  refine zr_iast (D := D) (g := g) hx hb hK hP hD hS 2 0 rfl rfl (by decide) (by omega) dX4_takes_156 (fun H locs hP hD hS => ?_)
                  have hP : va_P D vwCl ([(w 0, .inr (4, [.ref (w 1), .int (zI xl), .ref (w 2), .int (zI xm), .int (zI xn), .int (zI xd), .int (zI xe)])), (w 1, .inl (cs 1, 120, .inl (zA f))), (w 2, .inl (cs 0, 60, .inl (zA (zU g xm xn))))]) H := hP
                  have hD : va_D A0 ([(w 0, .inr (4, [.ref (w 1), .int (zI xl), .ref (w 2), .int (zI xm), .int (zI xn), .int (zI xd), .int (zI xe)])), (w 1, .inl (cs 1, 120, .inl (zA f))), (w 2, .inl (cs 0, 60, .inl (zA (zU g xm xn))))]) := zD_addr hD rfl
                  refine lv_aload_n hx hb dX4_takes_157 rfl (lv_at hl 1 rfl) ?_
                  refine lv_dup hx hb dX4_takes_158 rfl ?_
                  refine va_get (D := D) (ci := 4) (v := .int (zI xm)) (C := RX4) (T := TX4) (N := 7) hx hb hts hiX4 hown hK hP 0 rfl rfl 3 (by decide) (hts (.fieldLink RX4 23 "ChargeEstimator$MeasurementText" "complete" "I") (List.mem_of_getElem? (i := 4) rfl)) (fun _ h9 => h9) rfl dX4_takes_159 ?_
                  refine zr_iconst hx hb dX4_takes_162 ?_
                  refine zr_iadd hx hb dX4_takes_163 ?_
                  refine va_put (D := D) (ci := 4) (v := .int (zI (xm + 1))) (ty := .int) (C := RX4) (T := TX4) (N := 7) hx hb hts hiX4 tyX4 tyX4_ok nmX4 hown hK hP hD hS 0 rfl rfl 3 (by decide) (hts (.fieldLink RX4 23 "ChargeEstimator$MeasurementText" "complete" "I") (List.mem_of_getElem? (i := 4) rfl)) (fun _ h9 => h9) rfl (by decide +kernel) rfl rfl (Nat.le_of_ble_eq_true rfl) dX4_takes_164 (fun H locs hP hD hS => ?_)
                  have hP : va_P D vwCl ([(w 0, .inr (4, [.ref (w 1), .int (zI xl), .ref (w 2), .int (zI (xm + 1)), .int (zI xn), .int (zI xd), .int (zI xe)])), (w 1, .inl (cs 1, 120, .inl (zA f))), (w 2, .inl (cs 0, 60, .inl (zA (zU g xm xn))))]) H := hP
                  have hD : va_D A0 ([(w 0, .inr (4, [.ref (w 1), .int (zI xl), .ref (w 2), .int (zI (xm + 1)), .int (zI xn), .int (zI xd), .int (zI xe)])), (w 1, .inl (cs 1, 120, .inl (zA f))), (w 2, .inl (cs 0, 60, .inl (zA (zU g xm xn))))]) := zD_addr hD rfl
                  refine lv_aload_n hx hb dX4_takes_167 rfl (lv_at hl 1 rfl) ?_
                  refine zc_vj (w := [(w 0, .inr (4, [.ref (w 1), .int (zI xl), .ref (w 2), .int (zI (xm + 1)), .int (zI xn), .int (zI xd), .int (zI xe)])), (w 1, .inl (cs 1, 120, .inl (zA f))), (w 2, .inl (cs 0, 60, .inl (zA (zU g xm xn))))]) (wr := []) (va_runV (As := []) (rest := []) ⟨hx, hb, hml, hown, hts⟩ (met_X4_beginNumber l D cs w H.size f xl (zU g xm xn) (xm + 1) xn xd xe ) (cwV 0 hts gX4_takes_X4_beginNumber rfl rfl rfl (by decide +kernel) ⟨Nat.le_of_ble_eq_true rfl, Nat.le_of_ble_eq_true rfl⟩) ⟨zPreZ.blind, va_recv hK hP (ci := 4) (q0 := 0) rfl rfl, fun U hU hW => zp_Z (hP.sub (ws' := [(w 0, .inr (4, [.ref (w 1), .int (zI xl), .ref (w 2), .int (zI (xm + 1)), .int (zI xn), .int (zI xd), .int (zI xe)])), (w 1, .inl (cs 1, 120, .inl (zA f))), (w 2, .inl (cs 0, 60, .inl (zA (zU g xm xn))))]) [0, 1, 2] rfl) hK (hD.sub (ws' := [(w 0, .inr (4, [.ref (w 1), .int (zI xl), .ref (w 2), .int (zI (xm + 1)), .int (zI xn), .int (zI xd), .int (zI xe)])), (w 1, .inl (cs 1, 120, .inl (zA f))), (w 2, .inl (cs 0, 60, .inl (zA (zU g xm xn))))]) [0, 1, 2] (by decide) rfl) hN hU hW⟩ rfl rfl hl.1 rfl (lv_room (Nat.le_of_ble_eq_true rfl)) dX4_takes_168 ⟨Nat.le_of_ble_eq_true rfl, Nat.le_of_ble_eq_true rfl⟩) hS hP hD hA [0, 1, 2] [] rfl rfl (by decide) (by decide) (fun H locs hP hD hS => ?_)
                  have hP : va_P D vwCl ([(w 0, .inr (4, [.ref (w 1), .int (zI xl), .ref (w 2), .int (zI (xm + 1)), .int (zI 0), .int (zI 0), .int (zI 0)])), (w 1, .inl (cs 1, 120, .inl (zA f))), (w 2, .inl (cs 0, 60, .inl (zA (zU g xm xn))))]) H := hP.sub (ws' := [(w 0, .inr (4, [.ref (w 1), .int (zI xl), .ref (w 2), .int (zI (xm + 1)), .int (zI 0), .int (zI 0), .int (zI 0)])), (w 1, .inl (cs 1, 120, .inl (zA f))), (w 2, .inl (cs 0, 60, .inl (zA (zU g xm xn))))]) [0, 1, 2] rfl
                  have hD : va_D A0 ([(w 0, .inr (4, [.ref (w 1), .int (zI xl), .ref (w 2), .int (zI (xm + 1)), .int (zI 0), .int (zI 0), .int (zI 0)])), (w 1, .inl (cs 1, 120, .inl (zA f))), (w 2, .inl (cs 0, 60, .inl (zA (zU g xm xn))))]) := hD.sub (ws' := [(w 0, .inr (4, [.ref (w 1), .int (zI xl), .ref (w 2), .int (zI (xm + 1)), .int (zI 0), .int (zI 0), .int (zI 0)])), (w 1, .inl (cs 1, 120, .inl (zA f))), (w 2, .inl (cs 0, 60, .inl (zA (zU g xm xn))))]) [0, 1, 2] (by decide) rfl
                  refine zr_iconst hx hb dX4_takes_171 ?_
                  have hP8 : va_P D vwCl ([(w 0, .inr (4, [.ref (w 1), .int (zI xl), .ref (w 2), .int (zI (zIf3 xb xm xd (xm) (xm) (xm + 1) (xm))), .int (zI (zIf3 xb xm xd (xn) (10 * xn + (xb - 48)) (0) (xn))), .int (zI (zIf3 xb xm xd (xd) (xd + 1) (0) (xd))), .int (zI (zIf3 xb xm xd (1) (xe) (0) (xe)))])), (w 1, .inl (cs 1, 120, .inl (zA f))), (w 2, .inl (cs 0, 60, .inl (zA (zIf3 xb xm xd (g) (g) (zU g xm (zSg xe xn)) (g)))))]) H := by rw [zIf3_c (α := Int) (by omega), zIf3_c (α := Int → Int) (by omega)]; first | (rw [show zSg xe xn = xn from if_pos (by omega)]; exact hP) | (rw [show zSg xe xn = -xn from if_neg (by omega)]; exact hP)
                  have hP9 : va_P D vwCl ([(w 0, .inr (4, [.ref (w 1), .int (zI xl), .ref (w 2), .int (zI (zIf3 xb xm xd (xm) (xm) (xm + 1) (xm))), .int (zI (zIf3 xb xm xd (xn) (10 * xn + (xb - 48)) (0) (xn))), .int (zI (zIf3 xb xm xd (xd) (xd + 1) (0) (xd))), .int (zI (zIf3 xb xm xd (1) (xe) (0) (xe)))])), (w 1, .inl (cs 1, 120, .inl (zA f))), (w 2, .inl (cs 0, 60, .inl (zA (zIf3 xb xm xd (g) (g) (zU g xm (zSg xe xn)) (g)))))]) H := hP8
                  have hD9 : va_D A0 ([(w 0, .inr (4, [.ref (w 1), .int (zI xl), .ref (w 2), .int (zI (zIf3 xb xm xd (xm) (xm) (xm + 1) (xm))), .int (zI (zIf3 xb xm xd (xn) (10 * xn + (xb - 48)) (0) (xn))), .int (zI (zIf3 xb xm xd (xd) (xd + 1) (0) (xd))), .int (zI (zIf3 xb xm xd (1) (xe) (0) (xe)))])), (w 1, .inl (cs 1, 120, .inl (zA f))), (w 2, .inl (cs 0, 60, .inl (zA (zIf3 xb xm xd (g) (g) (zU g xm (zSg xe xn)) (g)))))]) := zD_addr hD rfl
                  subst hAe
                  exact W.zret hx hb hr (zbool_n (by first | decide | exact zB_r _)) (fun t ht hW => ⟨⟨_, (), rfl, (congrArg zI (show 1 = zIf3 xb xm xd (zB (xd = 0 ∧ xe = 0)) (zB (xd + 1 ≤ 5)) (1) (0) from by first | (rw [zIf3_c (by omega)]; done) | (rw [zIf3_c (by omega)]; exact (zB_t (by omega)).symm) | (rw [zIf3_c (by omega)]; exact (zB_f (by omega)).symm))), by rw [ht]; exact hP9, hD9⟩, hS.F ht⟩) hS.2.2 dX4_takes_172
                · refine lv_aload_n hx hb dX4_takes_144 rfl (lv_at hl 1 rfl) ?_
                  refine va_get (D := D) (ci := 4) (v := .int (zI xn)) (C := RX4) (T := TX4) (N := 7) hx hb hts hiX4 hown hK hP 0 rfl rfl 4 (by decide) (hts (.fieldLink RX4 40 "ChargeEstimator$MeasurementText" "number" "I") (List.mem_of_getElem? (i := 3) rfl)) (fun _ h9 => h9) rfl dX4_takes_145 ?_
                  refine zr_ineg hx hb dX4_takes_148 ?_
                  refine lv_goto (tgt := 156) hx hb dX4_takes_149 (by decide) ?_
                  refine zr_iast (D := D) (g := g) hx hb hK hP hD hS 2 0 rfl rfl (by decide) (by omega) dX4_takes_156 (fun H locs hP hD hS => ?_)
                  have hP : va_P D vwCl ([(w 0, .inr (4, [.ref (w 1), .int (zI xl), .ref (w 2), .int (zI xm), .int (zI xn), .int (zI xd), .int (zI xe)])), (w 1, .inl (cs 1, 120, .inl (zA f))), (w 2, .inl (cs 0, 60, .inl (zA (zU g xm (-xn)))))]) H := hP
                  have hD : va_D A0 ([(w 0, .inr (4, [.ref (w 1), .int (zI xl), .ref (w 2), .int (zI xm), .int (zI xn), .int (zI xd), .int (zI xe)])), (w 1, .inl (cs 1, 120, .inl (zA f))), (w 2, .inl (cs 0, 60, .inl (zA (zU g xm (-xn)))))]) := zD_addr hD rfl
                  refine lv_aload_n hx hb dX4_takes_157 rfl (lv_at hl 1 rfl) ?_
                  refine lv_dup hx hb dX4_takes_158 rfl ?_
                  refine va_get (D := D) (ci := 4) (v := .int (zI xm)) (C := RX4) (T := TX4) (N := 7) hx hb hts hiX4 hown hK hP 0 rfl rfl 3 (by decide) (hts (.fieldLink RX4 23 "ChargeEstimator$MeasurementText" "complete" "I") (List.mem_of_getElem? (i := 4) rfl)) (fun _ h9 => h9) rfl dX4_takes_159 ?_
                  refine zr_iconst hx hb dX4_takes_162 ?_
                  refine zr_iadd hx hb dX4_takes_163 ?_
                  refine va_put (D := D) (ci := 4) (v := .int (zI (xm + 1))) (ty := .int) (C := RX4) (T := TX4) (N := 7) hx hb hts hiX4 tyX4 tyX4_ok nmX4 hown hK hP hD hS 0 rfl rfl 3 (by decide) (hts (.fieldLink RX4 23 "ChargeEstimator$MeasurementText" "complete" "I") (List.mem_of_getElem? (i := 4) rfl)) (fun _ h9 => h9) rfl (by decide +kernel) rfl rfl (Nat.le_of_ble_eq_true rfl) dX4_takes_164 (fun H locs hP hD hS => ?_)
                  have hP : va_P D vwCl ([(w 0, .inr (4, [.ref (w 1), .int (zI xl), .ref (w 2), .int (zI (xm + 1)), .int (zI xn), .int (zI xd), .int (zI xe)])), (w 1, .inl (cs 1, 120, .inl (zA f))), (w 2, .inl (cs 0, 60, .inl (zA (zU g xm (-xn)))))]) H := hP
                  have hD : va_D A0 ([(w 0, .inr (4, [.ref (w 1), .int (zI xl), .ref (w 2), .int (zI (xm + 1)), .int (zI xn), .int (zI xd), .int (zI xe)])), (w 1, .inl (cs 1, 120, .inl (zA f))), (w 2, .inl (cs 0, 60, .inl (zA (zU g xm (-xn)))))]) := zD_addr hD rfl
                  refine lv_aload_n hx hb dX4_takes_167 rfl (lv_at hl 1 rfl) ?_
                  refine zc_vj (w := [(w 0, .inr (4, [.ref (w 1), .int (zI xl), .ref (w 2), .int (zI (xm + 1)), .int (zI xn), .int (zI xd), .int (zI xe)])), (w 1, .inl (cs 1, 120, .inl (zA f))), (w 2, .inl (cs 0, 60, .inl (zA (zU g xm (-xn)))))]) (wr := []) (va_runV (As := []) (rest := []) ⟨hx, hb, hml, hown, hts⟩ (met_X4_beginNumber l D cs w H.size f xl (zU g xm (-xn)) (xm + 1) xn xd xe ) (cwV 0 hts gX4_takes_X4_beginNumber rfl rfl rfl (by decide +kernel) ⟨Nat.le_of_ble_eq_true rfl, Nat.le_of_ble_eq_true rfl⟩) ⟨zPreZ.blind, va_recv hK hP (ci := 4) (q0 := 0) rfl rfl, fun U hU hW => zp_Z (hP.sub (ws' := [(w 0, .inr (4, [.ref (w 1), .int (zI xl), .ref (w 2), .int (zI (xm + 1)), .int (zI xn), .int (zI xd), .int (zI xe)])), (w 1, .inl (cs 1, 120, .inl (zA f))), (w 2, .inl (cs 0, 60, .inl (zA (zU g xm (-xn)))))]) [0, 1, 2] rfl) hK (hD.sub (ws' := [(w 0, .inr (4, [.ref (w 1), .int (zI xl), .ref (w 2), .int (zI (xm + 1)), .int (zI xn), .int (zI xd), .int (zI xe)])), (w 1, .inl (cs 1, 120, .inl (zA f))), (w 2, .inl (cs 0, 60, .inl (zA (zU g xm (-xn)))))]) [0, 1, 2] (by decide) rfl) hN hU hW⟩ rfl rfl hl.1 rfl (lv_room (Nat.le_of_ble_eq_true rfl)) dX4_takes_168 ⟨Nat.le_of_ble_eq_true rfl, Nat.le_of_ble_eq_true rfl⟩) hS hP hD hA [0, 1, 2] [] rfl rfl (by decide) (by decide) (fun H locs hP hD hS => ?_)
                  have hP : va_P D vwCl ([(w 0, .inr (4, [.ref (w 1), .int (zI xl), .ref (w 2), .int (zI (xm + 1)), .int (zI 0), .int (zI 0), .int (zI 0)])), (w 1, .inl (cs 1, 120, .inl (zA f))), (w 2, .inl (cs 0, 60, .inl (zA (zU g xm (-xn)))))]) H := hP.sub (ws' := [(w 0, .inr (4, [.ref (w 1), .int (zI xl), .ref (w 2), .int (zI (xm + 1)), .int (zI 0), .int (zI 0), .int (zI 0)])), (w 1, .inl (cs 1, 120, .inl (zA f))), (w 2, .inl (cs 0, 60, .inl (zA (zU g xm (-xn)))))]) [0, 1, 2] rfl
                  have hD : va_D A0 ([(w 0, .inr (4, [.ref (w 1), .int (zI xl), .ref (w 2), .int (zI (xm + 1)), .int (zI 0), .int (zI 0), .int (zI 0)])), (w 1, .inl (cs 1, 120, .inl (zA f))), (w 2, .inl (cs 0, 60, .inl (zA (zU g xm (-xn)))))]) := hD.sub (ws' := [(w 0, .inr (4, [.ref (w 1), .int (zI xl), .ref (w 2), .int (zI (xm + 1)), .int (zI 0), .int (zI 0), .int (zI 0)])), (w 1, .inl (cs 1, 120, .inl (zA f))), (w 2, .inl (cs 0, 60, .inl (zA (zU g xm (-xn)))))]) [0, 1, 2] (by decide) rfl
                  refine zr_iconst hx hb dX4_takes_171 ?_
                  have hP8 : va_P D vwCl ([(w 0, .inr (4, [.ref (w 1), .int (zI xl), .ref (w 2), .int (zI (zIf3 xb xm xd (xm) (xm) (xm + 1) (xm))), .int (zI (zIf3 xb xm xd (xn) (10 * xn + (xb - 48)) (0) (xn))), .int (zI (zIf3 xb xm xd (xd) (xd + 1) (0) (xd))), .int (zI (zIf3 xb xm xd (1) (xe) (0) (xe)))])), (w 1, .inl (cs 1, 120, .inl (zA f))), (w 2, .inl (cs 0, 60, .inl (zA (zIf3 xb xm xd (g) (g) (zU g xm (zSg xe xn)) (g)))))]) H := by rw [zIf3_c (α := Int) (by omega), zIf3_c (α := Int → Int) (by omega)]; first | (rw [show zSg xe xn = xn from if_pos (by omega)]; exact hP) | (rw [show zSg xe xn = -xn from if_neg (by omega)]; exact hP)
                  have hP9 : va_P D vwCl ([(w 0, .inr (4, [.ref (w 1), .int (zI xl), .ref (w 2), .int (zI (zIf3 xb xm xd (xm) (xm) (xm + 1) (xm))), .int (zI (zIf3 xb xm xd (xn) (10 * xn + (xb - 48)) (0) (xn))), .int (zI (zIf3 xb xm xd (xd) (xd + 1) (0) (xd))), .int (zI (zIf3 xb xm xd (1) (xe) (0) (xe)))])), (w 1, .inl (cs 1, 120, .inl (zA f))), (w 2, .inl (cs 0, 60, .inl (zA (zIf3 xb xm xd (g) (g) (zU g xm (zSg xe xn)) (g)))))]) H := hP8
                  have hD9 : va_D A0 ([(w 0, .inr (4, [.ref (w 1), .int (zI xl), .ref (w 2), .int (zI (zIf3 xb xm xd (xm) (xm) (xm + 1) (xm))), .int (zI (zIf3 xb xm xd (xn) (10 * xn + (xb - 48)) (0) (xn))), .int (zI (zIf3 xb xm xd (xd) (xd + 1) (0) (xd))), .int (zI (zIf3 xb xm xd (1) (xe) (0) (xe)))])), (w 1, .inl (cs 1, 120, .inl (zA f))), (w 2, .inl (cs 0, 60, .inl (zA (zIf3 xb xm xd (g) (g) (zU g xm (zSg xe xn)) (g)))))]) := zD_addr hD rfl
                  subst hAe
                  exact W.zret hx hb hr (zbool_n (by first | decide | exact zB_r _)) (fun t ht hW => ⟨⟨_, (), rfl, (congrArg zI (show 1 = zIf3 xb xm xd (zB (xd = 0 ∧ xe = 0)) (zB (xd + 1 ≤ 5)) (1) (0) from by first | (rw [zIf3_c (by omega)]; done) | (rw [zIf3_c (by omega)]; exact (zB_t (by omega)).symm) | (rw [zIf3_c (by omega)]; exact (zB_f (by omega)).symm))), by rw [ht]; exact hP9, hD9⟩, hS.F ht⟩) hS.2.2 dX4_takes_172
              · refine zr_iconst hx hb dX4_takes_127 ?_
                have hP8 : va_P D vwCl ([(w 0, .inr (4, [.ref (w 1), .int (zI xl), .ref (w 2), .int (zI (zIf3 xb xm xd (xm) (xm) (xm + 1) (xm))), .int (zI (zIf3 xb xm xd (xn) (10 * xn + (xb - 48)) (0) (xn))), .int (zI (zIf3 xb xm xd (xd) (xd + 1) (0) (xd))), .int (zI (zIf3 xb xm xd (1) (xe) (0) (xe)))])), (w 1, .inl (cs 1, 120, .inl (zA f))), (w 2, .inl (cs 0, 60, .inl (zA (zIf3 xb xm xd (g) (g) (zU g xm (zSg xe xn)) (g)))))]) s.heap := by rw [zIf3_d (α := Int) (by omega) (by omega) (by omega), zIf3_d (α := Int → Int) (by omega) (by omega) (by omega)]; exact hP
                have hP9 : va_P D vwCl ([(w 0, .inr (4, [.ref (w 1), .int (zI xl), .ref (w 2), .int (zI (zIf3 xb xm xd (xm) (xm) (xm + 1) (xm))), .int (zI (zIf3 xb xm xd (xn) (10 * xn + (xb - 48)) (0) (xn))), .int (zI (zIf3 xb xm xd (xd) (xd + 1) (0) (xd))), .int (zI (zIf3 xb xm xd (1) (xe) (0) (xe)))])), (w 1, .inl (cs 1, 120, .inl (zA f))), (w 2, .inl (cs 0, 60, .inl (zA (zIf3 xb xm xd (g) (g) (zU g xm (zSg xe xn)) (g)))))]) s.heap := hP8
                have hD9 : va_D A0 ([(w 0, .inr (4, [.ref (w 1), .int (zI xl), .ref (w 2), .int (zI (zIf3 xb xm xd (xm) (xm) (xm + 1) (xm))), .int (zI (zIf3 xb xm xd (xn) (10 * xn + (xb - 48)) (0) (xn))), .int (zI (zIf3 xb xm xd (xd) (xd + 1) (0) (xd))), .int (zI (zIf3 xb xm xd (1) (xe) (0) (xe)))])), (w 1, .inl (cs 1, 120, .inl (zA f))), (w 2, .inl (cs 0, 60, .inl (zA (zIf3 xb xm xd (g) (g) (zU g xm (zSg xe xn)) (g)))))]) := zD_addr hD rfl
                subst hAe
                exact W.zret hx hb hr (zbool_n (by first | decide | exact zB_r _)) (fun t ht hW => ⟨⟨_, (), rfl, (congrArg zI (show 0 = zIf3 xb xm xd (zB (xd = 0 ∧ xe = 0)) (zB (xd + 1 ≤ 5)) (1) (0) from by first | (rw [zIf3_d (by omega) (by omega) (by omega)]; done) | (rw [zIf3_d (by omega) (by omega) (by omega)]; exact (zB_t (by omega)).symm) | (rw [zIf3_d (by omega) (by omega) (by omega)]; exact (zB_f (by omega)).symm))), by rw [ht]; exact hP9, hD9⟩, hS.F ht⟩) hS.2.2 dX4_takes_128
      · refine lv_aload_n hx hb dX4_takes_45 rfl (lv_at hl 0 rfl) ?_
        refine zr_bipush hx hb dX4_takes_46 (by decide) ?_
        refine lv_aload_n hx hb dX4_takes_48 rfl (lv_at hl 0 rfl) ?_
        refine va_get (D := D) (ci := 4) (v := .int (zI xn)) (C := RX4) (T := TX4) (N := 7) hx hb hts hiX4 hown hK hP 0 rfl rfl 4 (by decide) (hts (.fieldLink RX4 40 "ChargeEstimator$MeasurementText" "number" "I") (List.mem_of_getElem? (i := 3) rfl)) (fun _ h9 => h9) rfl dX4_takes_49 ?_
        refine zr_imul hx hb dX4_takes_52 ?_
        refine lv_iload_n hx hb dX4_takes_53 rfl (lv_at hl 1 rfl) ?_
        refine zr_bipush hx hb dX4_takes_54 (by decide) ?_
        refine zr_isub hx hb dX4_takes_56 ?_
        refine zr_iadd hx hb dX4_takes_57 ?_
        refine va_put (D := D) (ci := 4) (v := .int (zI ((10 * xn) + (xb - 48)))) (ty := .int) (C := RX4) (T := TX4) (N := 7) hx hb hts hiX4 tyX4 tyX4_ok nmX4 hown hK hP hD hS 0 rfl rfl 4 (by decide) (hts (.fieldLink RX4 40 "ChargeEstimator$MeasurementText" "number" "I") (List.mem_of_getElem? (i := 3) rfl)) (fun _ h9 => h9) rfl (by decide +kernel) rfl rfl (Nat.le_of_ble_eq_true rfl) dX4_takes_58 (fun H locs hP hD hS => ?_)
        have hP : va_P D vwCl ([(w 0, .inr (4, [.ref (w 1), .int (zI xl), .ref (w 2), .int (zI xm), .int (zI ((10 * xn) + (xb - 48))), .int (zI xd), .int (zI xe)])), (w 1, .inl (cs 1, 120, .inl (zA f))), (w 2, .inl (cs 0, 60, .inl (zA g)))]) H := hP
        have hD : va_D A0 ([(w 0, .inr (4, [.ref (w 1), .int (zI xl), .ref (w 2), .int (zI xm), .int (zI ((10 * xn) + (xb - 48))), .int (zI xd), .int (zI xe)])), (w 1, .inl (cs 1, 120, .inl (zA f))), (w 2, .inl (cs 0, 60, .inl (zA g)))]) := zD_addr hD rfl
        refine lv_aload_n hx hb dX4_takes_61 rfl (lv_at hl 0 rfl) ?_
        refine lv_dup hx hb dX4_takes_62 rfl ?_
        refine va_get (D := D) (ci := 4) (v := .int (zI xd)) (C := RX4) (T := TX4) (N := 7) hx hb hts hiX4 hown hK hP 0 rfl rfl 5 (by decide) (hts (.fieldLink RX4 33 "ChargeEstimator$MeasurementText" "digits" "I") (List.mem_of_getElem? (i := 1) rfl)) (fun _ h9 => h9) rfl dX4_takes_63 ?_
        refine zr_iconst hx hb dX4_takes_66 ?_
        refine zr_iadd hx hb dX4_takes_67 ?_
        refine va_put (D := D) (ci := 4) (v := .int (zI (xd + 1))) (ty := .int) (C := RX4) (T := TX4) (N := 7) hx hb hts hiX4 tyX4 tyX4_ok nmX4 hown hK hP hD hS 0 rfl rfl 5 (by decide) (hts (.fieldLink RX4 33 "ChargeEstimator$MeasurementText" "digits" "I") (List.mem_of_getElem? (i := 1) rfl)) (fun _ h9 => h9) rfl (by decide +kernel) rfl rfl (Nat.le_of_ble_eq_true rfl) dX4_takes_68 (fun H locs hP hD hS => ?_)
        have hP : va_P D vwCl ([(w 0, .inr (4, [.ref (w 1), .int (zI xl), .ref (w 2), .int (zI xm), .int (zI ((10 * xn) + (xb - 48))), .int (zI (xd + 1)), .int (zI xe)])), (w 1, .inl (cs 1, 120, .inl (zA f))), (w 2, .inl (cs 0, 60, .inl (zA g)))]) H := hP
        have hD : va_D A0 ([(w 0, .inr (4, [.ref (w 1), .int (zI xl), .ref (w 2), .int (zI xm), .int (zI ((10 * xn) + (xb - 48))), .int (zI (xd + 1)), .int (zI xe)])), (w 1, .inl (cs 1, 120, .inl (zA f))), (w 2, .inl (cs 0, 60, .inl (zA g)))]) := zD_addr hD rfl
        refine lv_aload_n hx hb dX4_takes_71 rfl (lv_at hl 0 rfl) ?_
        refine va_get (D := D) (ci := 4) (v := .int (zI (xd + 1))) (C := RX4) (T := TX4) (N := 7) hx hb hts hiX4 hown hK hP 0 rfl rfl 5 (by decide) (hts (.fieldLink RX4 33 "ChargeEstimator$MeasurementText" "digits" "I") (List.mem_of_getElem? (i := 1) rfl)) (fun _ h9 => h9) rfl dX4_takes_72 ?_
        refine zr_iconst hx hb dX4_takes_75 ?_
        refine zr_icmp_gt (tgt := 83) hx hb dX4_takes_76 (by decide) (by omega) (by decide) (fun c22 => ?_) (fun c22 => ?_)
        · refine zr_iconst hx hb dX4_takes_83 ?_
          have hP8 : va_P D vwCl ([(w 0, .inr (4, [.ref (w 1), .int (zI xl), .ref (w 2), .int (zI (zIf3 xb xm xd (xm) (xm) (xm + 1) (xm))), .int (zI (zIf3 xb xm xd (xn) (10 * xn + (xb - 48)) (0) (xn))), .int (zI (zIf3 xb xm xd (xd) (xd + 1) (0) (xd))), .int (zI (zIf3 xb xm xd (1) (xe) (0) (xe)))])), (w 1, .inl (cs 1, 120, .inl (zA f))), (w 2, .inl (cs 0, 60, .inl (zA (zIf3 xb xm xd (g) (g) (zU g xm (zSg xe xn)) (g)))))]) H := by rw [zIf3_b (α := Int) (by omega), zIf3_b (α := Int → Int) (by omega)]; exact hP
          have hP9 : va_P D vwCl ([(w 0, .inr (4, [.ref (w 1), .int (zI xl), .ref (w 2), .int (zI (zIf3 xb xm xd (xm) (xm) (xm + 1) (xm))), .int (zI (zIf3 xb xm xd (xn) (10 * xn + (xb - 48)) (0) (xn))), .int (zI (zIf3 xb xm xd (xd) (xd + 1) (0) (xd))), .int (zI (zIf3 xb xm xd (1) (xe) (0) (xe)))])), (w 1, .inl (cs 1, 120, .inl (zA f))), (w 2, .inl (cs 0, 60, .inl (zA (zIf3 xb xm xd (g) (g) (zU g xm (zSg xe xn)) (g)))))]) H := hP8
          have hD9 : va_D A0 ([(w 0, .inr (4, [.ref (w 1), .int (zI xl), .ref (w 2), .int (zI (zIf3 xb xm xd (xm) (xm) (xm + 1) (xm))), .int (zI (zIf3 xb xm xd (xn) (10 * xn + (xb - 48)) (0) (xn))), .int (zI (zIf3 xb xm xd (xd) (xd + 1) (0) (xd))), .int (zI (zIf3 xb xm xd (1) (xe) (0) (xe)))])), (w 1, .inl (cs 1, 120, .inl (zA f))), (w 2, .inl (cs 0, 60, .inl (zA (zIf3 xb xm xd (g) (g) (zU g xm (zSg xe xn)) (g)))))]) := zD_addr hD rfl
          subst hAe
          exact W.zret hx hb hr (zbool_n (by first | decide | exact zB_r _)) (fun t ht hW => ⟨⟨_, (), rfl, (congrArg zI (show 0 = zIf3 xb xm xd (zB (xd = 0 ∧ xe = 0)) (zB (xd + 1 ≤ 5)) (1) (0) from by first | (rw [zIf3_b (by omega)]; done) | (rw [zIf3_b (by omega)]; exact (zB_t (by omega)).symm) | (rw [zIf3_b (by omega)]; exact (zB_f (by omega)).symm))), by rw [ht]; exact hP9, hD9⟩, hS.F ht⟩) hS.2.2 dX4_takes_84
        · refine zr_iconst hx hb dX4_takes_79 ?_
          refine lv_goto (tgt := 84) hx hb dX4_takes_80 (by decide) ?_
          have hP8 : va_P D vwCl ([(w 0, .inr (4, [.ref (w 1), .int (zI xl), .ref (w 2), .int (zI (zIf3 xb xm xd (xm) (xm) (xm + 1) (xm))), .int (zI (zIf3 xb xm xd (xn) (10 * xn + (xb - 48)) (0) (xn))), .int (zI (zIf3 xb xm xd (xd) (xd + 1) (0) (xd))), .int (zI (zIf3 xb xm xd (1) (xe) (0) (xe)))])), (w 1, .inl (cs 1, 120, .inl (zA f))), (w 2, .inl (cs 0, 60, .inl (zA (zIf3 xb xm xd (g) (g) (zU g xm (zSg xe xn)) (g)))))]) H := by rw [zIf3_b (α := Int) (by omega), zIf3_b (α := Int → Int) (by omega)]; exact hP
          have hP9 : va_P D vwCl ([(w 0, .inr (4, [.ref (w 1), .int (zI xl), .ref (w 2), .int (zI (zIf3 xb xm xd (xm) (xm) (xm + 1) (xm))), .int (zI (zIf3 xb xm xd (xn) (10 * xn + (xb - 48)) (0) (xn))), .int (zI (zIf3 xb xm xd (xd) (xd + 1) (0) (xd))), .int (zI (zIf3 xb xm xd (1) (xe) (0) (xe)))])), (w 1, .inl (cs 1, 120, .inl (zA f))), (w 2, .inl (cs 0, 60, .inl (zA (zIf3 xb xm xd (g) (g) (zU g xm (zSg xe xn)) (g)))))]) H := hP8
          have hD9 : va_D A0 ([(w 0, .inr (4, [.ref (w 1), .int (zI xl), .ref (w 2), .int (zI (zIf3 xb xm xd (xm) (xm) (xm + 1) (xm))), .int (zI (zIf3 xb xm xd (xn) (10 * xn + (xb - 48)) (0) (xn))), .int (zI (zIf3 xb xm xd (xd) (xd + 1) (0) (xd))), .int (zI (zIf3 xb xm xd (1) (xe) (0) (xe)))])), (w 1, .inl (cs 1, 120, .inl (zA f))), (w 2, .inl (cs 0, 60, .inl (zA (zIf3 xb xm xd (g) (g) (zU g xm (zSg xe xn)) (g)))))]) := zD_addr hD rfl
          subst hAe
          exact W.zret hx hb hr (zbool_n (by first | decide | exact zB_r _)) (fun t ht hW => ⟨⟨_, (), rfl, (congrArg zI (show 1 = zIf3 xb xm xd (zB (xd = 0 ∧ xe = 0)) (zB (xd + 1 ≤ 5)) (1) (0) from by first | (rw [zIf3_b (by omega)]; done) | (rw [zIf3_b (by omega)]; exact (zB_t (by omega)).symm) | (rw [zIf3_b (by omega)]; exact (zB_f (by omega)).symm))), by rw [ht]; exact hP9, hD9⟩, hS.F ht⟩) hS.2.2 dX4_takes_84
  · refine lv_aload_n hx hb dX4_takes_6 rfl (lv_at hl 0 rfl) ?_
    refine va_get (D := D) (ci := 4) (v := .int (zI xd)) (C := RX4) (T := TX4) (N := 7) hx hb hts hiX4 hown hK hP 0 rfl rfl 5 (by decide) (hts (.fieldLink RX4 33 "ChargeEstimator$MeasurementText" "digits" "I") (List.mem_of_getElem? (i := 1) rfl)) (fun _ h9 => h9) rfl dX4_takes_7 ?_
    refine zr_if_ne (tgt := 24) hx hb dX4_takes_10 (by decide) (by omega) (fun c23 => ?_) (fun c23 => ?_)
    · refine zr_iconst hx hb dX4_takes_24 ?_
      refine lv_istore_n (lv' := [(2, .int (zI 0)), (0, .ref (w 0)), (1, .int (zI xb))]) hx hb dX4_takes_25 rfl hl (by decide) rfl (fun ls hl => ?_)
      refine lv_aload_n hx hb dX4_takes_26 rfl (lv_at hl 1 rfl) ?_
      refine zr_iconst hx hb dX4_takes_27 ?_
      refine va_put (D := D) (ci := 4) (v := .int (zI 1)) (ty := .boolean) (C := RX4) (T := TX4) (N := 7) hx hb hts hiX4 tyX4 tyX4_ok nmX4 hown hK hP hD hS 0 rfl rfl 6 (by decide) (hts (.fieldLink RX4 36 "ChargeEstimator$MeasurementText" "negative" "Z") (List.mem_of_getElem? (i := 2) rfl)) (fun _ h9 => h9) rfl (by decide +kernel) (zbool_n (by decide)) (zbool_f (by decide)) (Nat.le_of_ble_eq_true rfl) dX4_takes_28 (fun H locs hP hD hS => ?_)
      have hP : va_P D vwCl ([(w 0, .inr (4, [.ref (w 1), .int (zI xl), .ref (w 2), .int (zI xm), .int (zI xn), .int (zI xd), .int (zI 1)])), (w 1, .inl (cs 1, 120, .inl (zA f))), (w 2, .inl (cs 0, 60, .inl (zA g)))]) H := hP
      have hD : va_D A0 ([(w 0, .inr (4, [.ref (w 1), .int (zI xl), .ref (w 2), .int (zI xm), .int (zI xn), .int (zI xd), .int (zI 1)])), (w 1, .inl (cs 1, 120, .inl (zA f))), (w 2, .inl (cs 0, 60, .inl (zA g)))]) := zD_addr hD rfl
      refine lv_iload_n hx hb dX4_takes_31 rfl (lv_at hl 0 rfl) ?_
      have hP8 : va_P D vwCl ([(w 0, .inr (4, [.ref (w 1), .int (zI xl), .ref (w 2), .int (zI (zIf3 xb xm xd (xm) (xm) (xm + 1) (xm))), .int (zI (zIf3 xb xm xd (xn) (10 * xn + (xb - 48)) (0) (xn))), .int (zI (zIf3 xb xm xd (xd) (xd + 1) (0) (xd))), .int (zI (zIf3 xb xm xd (1) (xe) (0) (xe)))])), (w 1, .inl (cs 1, 120, .inl (zA f))), (w 2, .inl (cs 0, 60, .inl (zA (zIf3 xb xm xd (g) (g) (zU g xm (zSg xe xn)) (g)))))]) H := by rw [zIf3_a (α := Int) (by omega), zIf3_a (α := Int → Int) (by omega)]; exact hP
      have hP9 : va_P D vwCl ([(w 0, .inr (4, [.ref (w 1), .int (zI xl), .ref (w 2), .int (zI (zIf3 xb xm xd (xm) (xm) (xm + 1) (xm))), .int (zI (zIf3 xb xm xd (xn) (10 * xn + (xb - 48)) (0) (xn))), .int (zI (zIf3 xb xm xd (xd) (xd + 1) (0) (xd))), .int (zI (zIf3 xb xm xd (1) (xe) (0) (xe)))])), (w 1, .inl (cs 1, 120, .inl (zA f))), (w 2, .inl (cs 0, 60, .inl (zA (zIf3 xb xm xd (g) (g) (zU g xm (zSg xe xn)) (g)))))]) H := hP8
      have hD9 : va_D A0 ([(w 0, .inr (4, [.ref (w 1), .int (zI xl), .ref (w 2), .int (zI (zIf3 xb xm xd (xm) (xm) (xm + 1) (xm))), .int (zI (zIf3 xb xm xd (xn) (10 * xn + (xb - 48)) (0) (xn))), .int (zI (zIf3 xb xm xd (xd) (xd + 1) (0) (xd))), .int (zI (zIf3 xb xm xd (1) (xe) (0) (xe)))])), (w 1, .inl (cs 1, 120, .inl (zA f))), (w 2, .inl (cs 0, 60, .inl (zA (zIf3 xb xm xd (g) (g) (zU g xm (zSg xe xn)) (g)))))]) := zD_addr hD rfl
      subst hAe
      exact W.zret hx hb hr (zbool_n (by first | decide | exact zB_r _)) (fun t ht hW => ⟨⟨_, (), rfl, (congrArg zI (show 0 = zIf3 xb xm xd (zB (xd = 0 ∧ xe = 0)) (zB (xd + 1 ≤ 5)) (1) (0) from by first | (rw [zIf3_a (by omega)]; done) | (rw [zIf3_a (by omega)]; exact (zB_t (by omega)).symm) | (rw [zIf3_a (by omega)]; exact (zB_f (by omega)).symm))), by rw [ht]; exact hP9, hD9⟩, hS.F ht⟩) hS.2.2 dX4_takes_32
    · refine lv_aload_n hx hb dX4_takes_13 rfl (lv_at hl 0 rfl) ?_
      refine va_get (D := D) (ci := 4) (v := .int (zI xe)) (C := RX4) (T := TX4) (N := 7) hx hb hts hiX4 hown hK hP 0 rfl rfl 6 (by decide) (hts (.fieldLink RX4 36 "ChargeEstimator$MeasurementText" "negative" "Z") (List.mem_of_getElem? (i := 2) rfl)) (fun _ h9 => h9) rfl dX4_takes_14 ?_
      refine zr_if_ne (tgt := 24) hx hb dX4_takes_17 (by decide) (by omega) (fun c24 => ?_) (fun c24 => ?_)
      · refine zr_iconst hx hb dX4_takes_24 ?_
        refine lv_istore_n (lv' := [(2, .int (zI 0)), (0, .ref (w 0)), (1, .int (zI xb))]) hx hb dX4_takes_25 rfl hl (by decide) rfl (fun ls hl => ?_)
        refine lv_aload_n hx hb dX4_takes_26 rfl (lv_at hl 1 rfl) ?_
        refine zr_iconst hx hb dX4_takes_27 ?_
        refine va_put (D := D) (ci := 4) (v := .int (zI 1)) (ty := .boolean) (C := RX4) (T := TX4) (N := 7) hx hb hts hiX4 tyX4 tyX4_ok nmX4 hown hK hP hD hS 0 rfl rfl 6 (by decide) (hts (.fieldLink RX4 36 "ChargeEstimator$MeasurementText" "negative" "Z") (List.mem_of_getElem? (i := 2) rfl)) (fun _ h9 => h9) rfl (by decide +kernel) (zbool_n (by decide)) (zbool_f (by decide)) (Nat.le_of_ble_eq_true rfl) dX4_takes_28 (fun H locs hP hD hS => ?_)
        have hP : va_P D vwCl ([(w 0, .inr (4, [.ref (w 1), .int (zI xl), .ref (w 2), .int (zI xm), .int (zI xn), .int (zI xd), .int (zI 1)])), (w 1, .inl (cs 1, 120, .inl (zA f))), (w 2, .inl (cs 0, 60, .inl (zA g)))]) H := hP
        have hD : va_D A0 ([(w 0, .inr (4, [.ref (w 1), .int (zI xl), .ref (w 2), .int (zI xm), .int (zI xn), .int (zI xd), .int (zI 1)])), (w 1, .inl (cs 1, 120, .inl (zA f))), (w 2, .inl (cs 0, 60, .inl (zA g)))]) := zD_addr hD rfl
        refine lv_iload_n hx hb dX4_takes_31 rfl (lv_at hl 0 rfl) ?_
        have hP8 : va_P D vwCl ([(w 0, .inr (4, [.ref (w 1), .int (zI xl), .ref (w 2), .int (zI (zIf3 xb xm xd (xm) (xm) (xm + 1) (xm))), .int (zI (zIf3 xb xm xd (xn) (10 * xn + (xb - 48)) (0) (xn))), .int (zI (zIf3 xb xm xd (xd) (xd + 1) (0) (xd))), .int (zI (zIf3 xb xm xd (1) (xe) (0) (xe)))])), (w 1, .inl (cs 1, 120, .inl (zA f))), (w 2, .inl (cs 0, 60, .inl (zA (zIf3 xb xm xd (g) (g) (zU g xm (zSg xe xn)) (g)))))]) H := by rw [zIf3_a (α := Int) (by omega), zIf3_a (α := Int → Int) (by omega)]; exact hP
        have hP9 : va_P D vwCl ([(w 0, .inr (4, [.ref (w 1), .int (zI xl), .ref (w 2), .int (zI (zIf3 xb xm xd (xm) (xm) (xm + 1) (xm))), .int (zI (zIf3 xb xm xd (xn) (10 * xn + (xb - 48)) (0) (xn))), .int (zI (zIf3 xb xm xd (xd) (xd + 1) (0) (xd))), .int (zI (zIf3 xb xm xd (1) (xe) (0) (xe)))])), (w 1, .inl (cs 1, 120, .inl (zA f))), (w 2, .inl (cs 0, 60, .inl (zA (zIf3 xb xm xd (g) (g) (zU g xm (zSg xe xn)) (g)))))]) H := hP8
        have hD9 : va_D A0 ([(w 0, .inr (4, [.ref (w 1), .int (zI xl), .ref (w 2), .int (zI (zIf3 xb xm xd (xm) (xm) (xm + 1) (xm))), .int (zI (zIf3 xb xm xd (xn) (10 * xn + (xb - 48)) (0) (xn))), .int (zI (zIf3 xb xm xd (xd) (xd + 1) (0) (xd))), .int (zI (zIf3 xb xm xd (1) (xe) (0) (xe)))])), (w 1, .inl (cs 1, 120, .inl (zA f))), (w 2, .inl (cs 0, 60, .inl (zA (zIf3 xb xm xd (g) (g) (zU g xm (zSg xe xn)) (g)))))]) := zD_addr hD rfl
        subst hAe
        exact W.zret hx hb hr (zbool_n (by first | decide | exact zB_r _)) (fun t ht hW => ⟨⟨_, (), rfl, (congrArg zI (show 0 = zIf3 xb xm xd (zB (xd = 0 ∧ xe = 0)) (zB (xd + 1 ≤ 5)) (1) (0) from by first | (rw [zIf3_a (by omega)]; done) | (rw [zIf3_a (by omega)]; exact (zB_t (by omega)).symm) | (rw [zIf3_a (by omega)]; exact (zB_f (by omega)).symm))), by rw [ht]; exact hP9, hD9⟩, hS.F ht⟩) hS.2.2 dX4_takes_32
      · refine zr_iconst hx hb dX4_takes_20 ?_
        refine lv_goto (tgt := 25) hx hb dX4_takes_21 (by decide) ?_
        refine lv_istore_n (lv' := [(2, .int (zI 1)), (0, .ref (w 0)), (1, .int (zI xb))]) hx hb dX4_takes_25 rfl hl (by decide) rfl (fun ls hl => ?_)
        refine lv_aload_n hx hb dX4_takes_26 rfl (lv_at hl 1 rfl) ?_
        refine zr_iconst hx hb dX4_takes_27 ?_
        refine va_put (D := D) (ci := 4) (v := .int (zI 1)) (ty := .boolean) (C := RX4) (T := TX4) (N := 7) hx hb hts hiX4 tyX4 tyX4_ok nmX4 hown hK hP hD hS 0 rfl rfl 6 (by decide) (hts (.fieldLink RX4 36 "ChargeEstimator$MeasurementText" "negative" "Z") (List.mem_of_getElem? (i := 2) rfl)) (fun _ h9 => h9) rfl (by decide +kernel) (zbool_n (by decide)) (zbool_f (by decide)) (Nat.le_of_ble_eq_true rfl) dX4_takes_28 (fun H locs hP hD hS => ?_)
        have hP : va_P D vwCl ([(w 0, .inr (4, [.ref (w 1), .int (zI xl), .ref (w 2), .int (zI xm), .int (zI xn), .int (zI xd), .int (zI 1)])), (w 1, .inl (cs 1, 120, .inl (zA f))), (w 2, .inl (cs 0, 60, .inl (zA g)))]) H := hP
        have hD : va_D A0 ([(w 0, .inr (4, [.ref (w 1), .int (zI xl), .ref (w 2), .int (zI xm), .int (zI xn), .int (zI xd), .int (zI 1)])), (w 1, .inl (cs 1, 120, .inl (zA f))), (w 2, .inl (cs 0, 60, .inl (zA g)))]) := zD_addr hD rfl
        refine lv_iload_n hx hb dX4_takes_31 rfl (lv_at hl 0 rfl) ?_
        have hP8 : va_P D vwCl ([(w 0, .inr (4, [.ref (w 1), .int (zI xl), .ref (w 2), .int (zI (zIf3 xb xm xd (xm) (xm) (xm + 1) (xm))), .int (zI (zIf3 xb xm xd (xn) (10 * xn + (xb - 48)) (0) (xn))), .int (zI (zIf3 xb xm xd (xd) (xd + 1) (0) (xd))), .int (zI (zIf3 xb xm xd (1) (xe) (0) (xe)))])), (w 1, .inl (cs 1, 120, .inl (zA f))), (w 2, .inl (cs 0, 60, .inl (zA (zIf3 xb xm xd (g) (g) (zU g xm (zSg xe xn)) (g)))))]) H := by rw [zIf3_a (α := Int) (by omega), zIf3_a (α := Int → Int) (by omega)]; exact hP
        have hP9 : va_P D vwCl ([(w 0, .inr (4, [.ref (w 1), .int (zI xl), .ref (w 2), .int (zI (zIf3 xb xm xd (xm) (xm) (xm + 1) (xm))), .int (zI (zIf3 xb xm xd (xn) (10 * xn + (xb - 48)) (0) (xn))), .int (zI (zIf3 xb xm xd (xd) (xd + 1) (0) (xd))), .int (zI (zIf3 xb xm xd (1) (xe) (0) (xe)))])), (w 1, .inl (cs 1, 120, .inl (zA f))), (w 2, .inl (cs 0, 60, .inl (zA (zIf3 xb xm xd (g) (g) (zU g xm (zSg xe xn)) (g)))))]) H := hP8
        have hD9 : va_D A0 ([(w 0, .inr (4, [.ref (w 1), .int (zI xl), .ref (w 2), .int (zI (zIf3 xb xm xd (xm) (xm) (xm + 1) (xm))), .int (zI (zIf3 xb xm xd (xn) (10 * xn + (xb - 48)) (0) (xn))), .int (zI (zIf3 xb xm xd (xd) (xd + 1) (0) (xd))), .int (zI (zIf3 xb xm xd (1) (xe) (0) (xe)))])), (w 1, .inl (cs 1, 120, .inl (zA f))), (w 2, .inl (cs 0, 60, .inl (zA (zIf3 xb xm xd (g) (g) (zU g xm (zSg xe xn)) (g)))))]) := zD_addr hD rfl
        subst hAe
        exact W.zret hx hb hr (zbool_n (by first | decide | exact zB_r _)) (fun t ht hW => ⟨⟨_, (), rfl, (congrArg zI (show 1 = zIf3 xb xm xd (zB (xd = 0 ∧ xe = 0)) (zB (xd + 1 ≤ 5)) (1) (0) from by first | (rw [zIf3_a (by omega)]; done) | (rw [zIf3_a (by omega)]; exact (zB_t (by omega)).symm) | (rw [zIf3_a (by omega)]; exact (zB_f (by omega)).symm))), by rw [ht]; exact hP9, hD9⟩, hS.F ht⟩) hS.2.2 dX4_takes_32
