/-! constructors -/
set_option maxHeartbeats 4000000 in
set_option maxRecDepth 100000 in
theorem met_X0_init (l : Launch) (D : va_G) (cs : Nat → ClassId) (a0 : Nat) (sz : Nat) : Met l yX0_init wsX0_init ({ frames := 1, cells := 1, slots := 160, locals := 12 }) (va_Pc [.ref a0] (zPreN D (zTy cs) ([(a0, .inr (0, [.null, .int (zI 0)]))]) sz)) (zQn D ([(a0, .inr (0, [.null, .int (zI 0)]))]) sz a0 (fun o => [(o 0 0, .inr (0, [.ref (o 0 1), .int (zI 0)])), (o 0 1, .inl (cs 0, 160, .inl (zA (fun _ => 0))))])) 1 160 (va_A ([(a0, .inr (0, [.null, .int (zI 0)]))]) sz) := by
  refine Met.ofW (cc := cX0_init) (maxL := 1) (ret := none) (by decide) rfl ?_
  intro p e s m args below meth c s₁ B hml hv
  obtain ⟨rfl, ⟨hsz, hP, hK, hD0, hN⟩, hX, hO⟩ := hv
  have hx := B.exec
  have hb := B.bytes
  have hr := B.returns
  have hts := atoms_spec (ws := wsX0_init) B.pre
  have hown : s.vm.findClass RX0 = some m.cls := findClass_of_methodNamed B.named
  have hlocks := B.notSynchronized
  have hin : meth.name = "<init>" := (name_of_methodNamed B.named B.method).1
  subst hsz
  obtain ⟨A0, hAe⟩ : ∃ A0, A0 = va_A ([(a0, .inr (0, [.null, .int (zI 0)]))]) s.heap.size := ⟨_, rfl⟩
  have hD := hD0.self (sz := s.heap.size)
  rw [← hAe] at hD hX
  have hA : ∀ q : Nat, s.heap.size ≤ q → A0 q := fun q h => by rw [hAe]; exact Or.inr h
  have hS : va_S A0 s.heap s.heap [] := va_S.rf
  have hP : va_P D vwCl ([(a0, .inr (0, [.null, .int (zI 0)]))]) s.heap := hP
  have hl := lv_entry ([.ref a0]) (n := 1) (Nat.le_of_ble_eq_true rfl)
  rw [lg_entry_eq]
  generalize (lg_sl ([.ref a0]) ++ List.replicate (1 - (lg_sl ([.ref a0])).length) Slot.unset).toArray = ls at hl ⊢
  have hl : lv_has ls 1 [(0, .ref a0)] := hl
  have hiX0 : ∀ w ∈ wsX00, w ∈ wsX0_init := by decide +kernel
  refine lv_aload_n hx hb dX0_init_0 rfl (lv_at hl 0 rfl) ?_
  refine W.objInit hx hb hown (hts (.methodLink RX0 3 objectInit) (List.mem_of_getElem? (i := 1) rfl)) (hts (.instanceMethod objectInit) (List.mem_of_getElem? (i := 2) rfl)) (hts (.code objectInit ⟨#[0xb1]⟩ 1 none) (List.mem_of_getElem? (i := 3) rfl)) rfl (by rw [hml]; exact hl.1) rfl dX0_init_1 (Nat.le_of_ble_eq_true rfl) (Nat.le_of_ble_eq_true rfl) ?_
  refine W.eq (g2 := F0 m 4 ls []) rfl ?_
  refine lv_aload_n hx hb dX0_init_4 rfl (lv_at hl 0 rfl) ?_
  refine zr_sipush hx hb dX0_init_5 (by decide) ?_
  refine zr_newi (N := 160) hx hb (hts (.arrayClass .int) (List.mem_of_getElem? (i := 4) rfl)) hK hP hD hS hA (by decide) rfl (Nat.le_of_ble_eq_true rfl) (Nat.le_of_ble_eq_true rfl) (Nat.le_of_ble_eq_true rfl) dX0_init_8 (fun q1 H hP hD hS => ?_)
  refine W.widen (k := 1) (n := 160) (Nat.le_of_ble_eq_true rfl) (Nat.le_of_ble_eq_true rfl) ?_
  have hP : va_P D vwCl ([(a0, .inr (0, [.null, .int (zI 0)])), (q1, .inl (cs 0, 160, .inl (zA (fun _ => 0))))]) H := hP
  have hD : va_D A0 ([(a0, .inr (0, [.null, .int (zI 0)])), (q1, .inl (cs 0, 160, .inl (zA (fun _ => 0))))]) := hD
  refine va_putF (D := D) (ci := 0) (v := .ref q1) (ty := tyX0 0) (C := RX0) (T := TX0) (N := 2) hx hb hts hiX0 tyX0 tyX0_ok nmX0 hown hK hP hD hS 0 rfl rfl 0 (by decide) (hts (.fieldLink RX0 11 "ChargeEstimator$AnchorLog" "rows" "[I") (List.mem_of_getElem? (i := 5) rfl)) (fun _ h9 => h9) rfl hin rfl (tyX0_ok 0 (by decide)) rfl rfl (Nat.le_of_ble_eq_true rfl) dX0_init_10 (fun H locs hP hD hS => ?_)
  have hP : va_P D vwCl ([(a0, .inr (0, [.ref q1, .int (zI 0)])), (q1, .inl (cs 0, 160, .inl (zA (fun _ => 0))))]) H := hP
  have hD : va_D A0 ([(a0, .inr (0, [.ref q1, .int (zI 0)])), (q1, .inl (cs 0, 160, .inl (zA (fun _ => 0))))]) := hD
  have hP8 : va_P D vwCl ([((fun _ => zoF [a0, q1]) 0 0, .inr (0, [.ref ((fun _ => zoF [a0, q1]) 0 1), .int (zI 0)])), ((fun _ => zoF [a0, q1]) 0 1, .inl (cs 0, 160, .inl (zA (fun _ => 0))))]) H := hP.sub (ws' := [((fun _ => zoF [a0, q1]) 0 0, .inr (0, [.ref ((fun _ => zoF [a0, q1]) 0 1), .int (zI 0)])), ((fun _ => zoF [a0, q1]) 0 1, .inl (cs 0, 160, .inl (zA (fun _ => 0))))]) [0, 1] rfl
  have hD8 : va_D A0 ([((fun _ => zoF [a0, q1]) 0 0, .inr (0, [.ref ((fun _ => zoF [a0, q1]) 0 1), .int (zI 0)])), ((fun _ => zoF [a0, q1]) 0 1, .inl (cs 0, 160, .inl (zA (fun _ => 0))))]) := hD.sub (ws' := [((fun _ => zoF [a0, q1]) 0 0, .inr (0, [.ref ((fun _ => zoF [a0, q1]) 0 1), .int (zI 0)])), ((fun _ => zoF [a0, q1]) 0 1, .inl (cs 0, 160, .inl (zA (fun _ => 0))))]) [0, 1] (by decide) rfl
  subst hAe
  exact W.vret hx hb hr (fun t ht hW => ⟨⟨(), rfl, trivial, (fun _ => zoF [a0, q1]), rfl, by rw [ht]; exact hP8, hD8⟩, hS.F ht⟩) hS.2.2 dX0_init_13
set_option maxHeartbeats 4000000 in
set_option maxRecDepth 100000 in
theorem met_X4_init (l : Launch) (D : va_G) (cs : Nat → ClassId) (a0 : Nat) (sz : Nat) : Met l yX4_init wsX4_init ({ frames := 1, cells := 2, slots := 180, locals := 12 }) (va_Pc [.ref a0] (zPreN D (zTy cs) ([(a0, .inr (4, [.null, .int (zI 0), .null, .int (zI 0), .int (zI 0), .int (zI 0), .int (zI 0)]))]) sz)) (zQn D ([(a0, .inr (4, [.null, .int (zI 0), .null, .int (zI 0), .int (zI 0), .int (zI 0), .int (zI 0)]))]) sz a0 (fun o => ztxt cs (o 0) (fun _ => 0) 0 (fun _ => 0) 0 0 0 0)) 2 180 (va_A ([(a0, .inr (4, [.null, .int (zI 0), .null, .int (zI 0), .int (zI 0), .int (zI 0), .int (zI 0)]))]) sz) := by
  refine Met.ofW (cc := cX4_init) (maxL := 1) (ret := none) (by decide) rfl ?_
  intro p e s m args below meth c s₁ B hml hv
  obtain ⟨rfl, ⟨hsz, hP, hK, hD0, hN⟩, hX, hO⟩ := hv
  have hx := B.exec
  have hb := B.bytes
  have hr := B.returns
  have hts := atoms_spec (ws := wsX4_init) B.pre
  have hown : s.vm.findClass RX4 = some m.cls := findClass_of_methodNamed B.named
  have hlocks := B.notSynchronized
  have hin : meth.name = "<init>" := (name_of_methodNamed B.named B.method).1
  subst hsz
  obtain ⟨A0, hAe⟩ : ∃ A0, A0 = va_A ([(a0, .inr (4, [.null, .int (zI 0), .null, .int (zI 0), .int (zI 0), .int (zI 0), .int (zI 0)]))]) s.heap.size := ⟨_, rfl⟩
  have hD := hD0.self (sz := s.heap.size)
  rw [← hAe] at hD hX
  have hA : ∀ q : Nat, s.heap.size ≤ q → A0 q := fun q h => by rw [hAe]; exact Or.inr h
  have hS : va_S A0 s.heap s.heap [] := va_S.rf
  have hP : va_P D vwCl ([(a0, .inr (4, [.null, .int (zI 0), .null, .int (zI 0), .int (zI 0), .int (zI 0), .int (zI 0)]))]) s.heap := hP
  have hl := lv_entry ([.ref a0]) (n := 1) (Nat.le_of_ble_eq_true rfl)
  rw [lg_entry_eq]
  generalize (lg_sl ([.ref a0]) ++ List.replicate (1 - (lg_sl ([.ref a0])).length) Slot.unset).toArray = ls at hl ⊢
  have hl : lv_has ls 1 [(0, .ref a0)] := hl
  have hiX4 : ∀ w ∈ wsX40, w ∈ wsX4_init := by decide +kernel
  refine lv_aload_n hx hb dX4_init_0 rfl (lv_at hl 0 rfl) ?_
  refine W.objInit hx hb hown (hts (.methodLink RX4 3 objectInit) (List.mem_of_getElem? (i := 1) rfl)) (hts (.instanceMethod objectInit) (List.mem_of_getElem? (i := 2) rfl)) (hts (.code objectInit ⟨#[0xb1]⟩ 1 none) (List.mem_of_getElem? (i := 3) rfl)) rfl (by rw [hml]; exact hl.1) rfl dX4_init_1 (Nat.le_of_ble_eq_true rfl) (Nat.le_of_ble_eq_true rfl) ?_
  refine W.eq (g2 := F0 m 4 ls []) rfl ?_
  refine lv_aload_n hx hb dX4_init_4 rfl (lv_at hl 0 rfl) ?_
  refine zr_bipush hx hb dX4_init_5 (by decide) ?_
  refine zr_newb (N := 120) hx hb (hts (.arrayClass .byte) (List.mem_of_getElem? (i := 4) rfl)) hK hP hD hS hA (by decide) rfl (Nat.le_of_ble_eq_true rfl) (Nat.le_of_ble_eq_true rfl) (Nat.le_of_ble_eq_true rfl) dX4_init_7 (fun q1 H hP hD hS => ?_)
  refine W.widen (k := 1) (n := 120) (Nat.le_of_ble_eq_true rfl) (Nat.le_of_ble_eq_true rfl) ?_
  have hP : va_P D vwCl ([(a0, .inr (4, [.null, .int (zI 0), .null, .int (zI 0), .int (zI 0), .int (zI 0), .int (zI 0)])), (q1, .inl (cs 1, 120, .inl (zA (fun _ => 0))))]) H := hP
  have hD : va_D A0 ([(a0, .inr (4, [.null, .int (zI 0), .null, .int (zI 0), .int (zI 0), .int (zI 0), .int (zI 0)])), (q1, .inl (cs 1, 120, .inl (zA (fun _ => 0))))]) := hD
  refine va_putF (D := D) (ci := 4) (v := .ref q1) (ty := tyX4 0) (C := RX4) (T := TX4) (N := 7) hx hb hts hiX4 tyX4 tyX4_ok nmX4 hown hK hP hD hS 0 rfl rfl 0 (by decide) (hts (.fieldLink RX4 11 "ChargeEstimator$MeasurementText" "bytes" "[B") (List.mem_of_getElem? (i := 5) rfl)) (fun _ h9 => h9) rfl hin rfl (tyX4_ok 0 (by decide)) rfl rfl (Nat.le_of_ble_eq_true rfl) dX4_init_9 (fun H locs hP hD hS => ?_)
  have hP : va_P D vwCl ([(a0, .inr (4, [.ref q1, .int (zI 0), .null, .int (zI 0), .int (zI 0), .int (zI 0), .int (zI 0)])), (q1, .inl (cs 1, 120, .inl (zA (fun _ => 0))))]) H := hP
  have hD : va_D A0 ([(a0, .inr (4, [.ref q1, .int (zI 0), .null, .int (zI 0), .int (zI 0), .int (zI 0), .int (zI 0)])), (q1, .inl (cs 1, 120, .inl (zA (fun _ => 0))))]) := hD
  refine lv_aload_n hx hb dX4_init_12 rfl (lv_at hl 0 rfl) ?_
  refine zr_bipush hx hb dX4_init_13 (by decide) ?_
  refine zr_newi (N := 60) hx hb (hts (.arrayClass .int) (List.mem_of_getElem? (i := 6) rfl)) hK hP hD hS hA (by decide) rfl (Nat.le_of_ble_eq_true rfl) (Nat.le_of_ble_eq_true rfl) (Nat.le_of_ble_eq_true rfl) dX4_init_15 (fun q2 H hP hD hS => ?_)
  refine W.widen (k := 2) (n := 180) (Nat.le_of_ble_eq_true rfl) (Nat.le_of_ble_eq_true rfl) ?_
  have hP : va_P D vwCl ([(a0, .inr (4, [.ref q1, .int (zI 0), .null, .int (zI 0), .int (zI 0), .int (zI 0), .int (zI 0)])), (q1, .inl (cs 1, 120, .inl (zA (fun _ => 0)))), (q2, .inl (cs 0, 60, .inl (zA (fun _ => 0))))]) H := hP
  have hD : va_D A0 ([(a0, .inr (4, [.ref q1, .int (zI 0), .null, .int (zI 0), .int (zI 0), .int (zI 0), .int (zI 0)])), (q1, .inl (cs 1, 120, .inl (zA (fun _ => 0)))), (q2, .inl (cs 0, 60, .inl (zA (fun _ => 0))))]) := hD
  refine va_putF (D := D) (ci := 4) (v := .ref q2) (ty := tyX4 2) (C := RX4) (T := TX4) (N := 7) hx hb hts hiX4 tyX4 tyX4_ok nmX4 hown hK hP hD hS 0 rfl rfl 2 (by decide) (hts (.fieldLink RX4 15 "ChargeEstimator$MeasurementText" "numbers" "[I") (List.mem_of_getElem? (i := 7) rfl)) (fun _ h9 => h9) rfl hin rfl (tyX4_ok 2 (by decide)) rfl rfl (Nat.le_of_ble_eq_true rfl) dX4_init_17 (fun H locs hP hD hS => ?_)
  have hP : va_P D vwCl ([(a0, .inr (4, [.ref q1, .int (zI 0), .ref q2, .int (zI 0), .int (zI 0), .int (zI 0), .int (zI 0)])), (q1, .inl (cs 1, 120, .inl (zA (fun _ => 0)))), (q2, .inl (cs 0, 60, .inl (zA (fun _ => 0))))]) H := hP
  have hD : va_D A0 ([(a0, .inr (4, [.ref q1, .int (zI 0), .ref q2, .int (zI 0), .int (zI 0), .int (zI 0), .int (zI 0)])), (q1, .inl (cs 1, 120, .inl (zA (fun _ => 0)))), (q2, .inl (cs 0, 60, .inl (zA (fun _ => 0))))]) := hD
  have hP8 : va_P D vwCl (ztxt cs ((fun _ => zoF [a0, q1, q2]) 0) (fun _ => 0) 0 (fun _ => 0) 0 0 0 0) H := hP.sub (ws' := ztxt cs ((fun _ => zoF [a0, q1, q2]) 0) (fun _ => 0) 0 (fun _ => 0) 0 0 0 0) [0, 1, 2] rfl
  have hD8 : va_D A0 (ztxt cs ((fun _ => zoF [a0, q1, q2]) 0) (fun _ => 0) 0 (fun _ => 0) 0 0 0 0) := hD.sub (ws' := ztxt cs ((fun _ => zoF [a0, q1, q2]) 0) (fun _ => 0) 0 (fun _ => 0) 0 0 0 0) [0, 1, 2] (by decide) rfl
  subst hAe
  exact W.vret hx hb hr (fun t ht hW => ⟨⟨(), rfl, trivial, (fun _ => zoF [a0, q1, q2]), rfl, by rw [ht]; exact hP8, hD8⟩, hS.F ht⟩) hS.2.2 dX4_init_20
theorem zQ3 {D : va_G} {cl : List vw_C} {a b c : Nat × va_E} {H : Heap} : va_P D cl [a, b, c] H ↔ va_at D cl a H ∧ va_at D cl b H ∧ va_at D cl c H := by
  rw [zP_cons, zP_cons, zP_cons]
  exact ⟨fun ⟨a, b, c, _⟩ => ⟨a, b, c⟩, fun ⟨a, b, c⟩ => ⟨a, b, c, zP_nil⟩⟩
theorem zAll {n : Nat} {f g : Int → Int} (h : ∀ k : Fin n, f (k.val : Int) = g (k.val : Int)) (k : Int) (a : 0 ≤ k) (b : k < n) : f k = g k := by
  have := h ⟨k.toNat, by omega⟩
  rw [show (((⟨k.toNat, by omega⟩ : Fin n).val : Nat) : Int) = k from Int.toNat_of_nonneg a] at this
  exact this
theorem zX2a (k : Int) (a : 0 ≤ k) (b : k < (11 : Nat)) : (zU (zU (zU (zU (zU (zU (zU (zU (zU (zU (zU ((fun _ => 0)) 0 (zIlo 0)) 1 (zIlo 1)) 2 (zIlo 2)) 3 (zIlo 3)) 4 (zIlo 4)) 5 (zIlo 5)) 6 (zIlo 6)) 7 (zIlo 7)) 8 (zIlo 8)) 9 (zIlo 9)) 10 (zIlo 10)) k = zIlo k := zAll (n := 11) (g := zIlo) (by decide +kernel) k a b
theorem zX2b (k : Int) (a : 0 ≤ k) (b : k < (11 : Nat)) : (zU (zU (zU (zU (zU (zU (zU (zU (zU (zU (zU ((fun _ => 0)) 0 (zIlo 0 + 40)) 1 (zIlo 1 + 40)) 2 (zIlo 2 + 40)) 3 (zIlo 3 + 40)) 4 (zIlo 4 + 40)) 5 (zIlo 5 + 40)) 6 (zIlo 6 + 40)) 7 (zIlo 7 + 40)) 8 (zIlo 8 + 40)) 9 (zIlo 9 + 40)) 10 (zIlo 10 + 40)) k = (fun k => zIlo k + 40) k := zAll (n := 11) (g := fun k => zIlo k + 40) (by decide +kernel) k a b
set_option maxHeartbeats 4000000 in
set_option maxRecDepth 100000 in
theorem met_X2_init (l : Launch) (D : va_G) (cs : Nat → ClassId) (a0 : Nat) (sz : Nat) : Met l yX2_init wsX2_init ({ frames := 1, cells := 2, slots := 22, locals := 12 }) (va_Pc [.ref a0] (zPreN D (zTy cs) ([(a0, .inr (2, [.null, .null]))]) sz)) (zQn D ([(a0, .inr (2, [.null, .null]))]) sz a0 (fun o => [(o 0 0, .inr (2, [.ref (o 0 1), .ref (o 0 2)])), (o 0 1, .inl (cs 0, 11, .inl (zA zIlo))), (o 0 2, .inl (cs 0, 11, .inl (zA (fun k => zIlo k + 40))))])) 2 22 (va_A ([(a0, .inr (2, [.null, .null]))]) sz) := by
  refine Met.ofW (cc := cX2_init) (maxL := 2) (ret := none) (by decide) rfl ?_
  intro p e s m args below meth c s₁ B hml hv
  obtain ⟨rfl, ⟨hsz, hP, hK, hD0, hN⟩, hX, hO⟩ := hv
  have hx := B.exec
  have hb := B.bytes
  have hr := B.returns
  have hts := atoms_spec (ws := wsX2_init) B.pre
  have hown : s.vm.findClass RX2 = some m.cls := findClass_of_methodNamed B.named
  have hlocks := B.notSynchronized
  have hin : meth.name = "<init>" := (name_of_methodNamed B.named B.method).1
  subst hsz
  obtain ⟨A0, hAe⟩ : ∃ A0, A0 = va_A ([(a0, .inr (2, [.null, .null]))]) s.heap.size := ⟨_, rfl⟩
  have hD := hD0.self (sz := s.heap.size)
  rw [← hAe] at hD hX
  have hA : ∀ q : Nat, s.heap.size ≤ q → A0 q := fun q h => by rw [hAe]; exact Or.inr h
  have hS : va_S A0 s.heap s.heap [] := va_S.rf
  have hP : va_P D vwCl ([(a0, .inr (2, [.null, .null]))]) s.heap := hP
  have hl := lv_entry ([.ref a0]) (n := 2) (Nat.le_of_ble_eq_true rfl)
  rw [lg_entry_eq]
  generalize (lg_sl ([.ref a0]) ++ List.replicate (2 - (lg_sl ([.ref a0])).length) Slot.unset).toArray = ls at hl ⊢
  have hl : lv_has ls 2 [(0, .ref a0)] := hl
  have hiX2 : ∀ w ∈ wsX20, w ∈ wsX2_init := by decide +kernel
  refine lv_aload_n hx hb dX2_init_0 rfl (lv_at hl 0 rfl) ?_
  refine W.objInit hx hb hown (hts (.methodLink RX2 3 objectInit) (List.mem_of_getElem? (i := 1) rfl)) (hts (.instanceMethod objectInit) (List.mem_of_getElem? (i := 2) rfl)) (hts (.code objectInit ⟨#[0xb1]⟩ 1 none) (List.mem_of_getElem? (i := 3) rfl)) rfl (by rw [hml]; exact hl.1) rfl dX2_init_1 (Nat.le_of_ble_eq_true rfl) (Nat.le_of_ble_eq_true rfl) ?_
  refine W.eq (g2 := F0 m 4 ls []) rfl ?_
  refine lv_aload_n hx hb dX2_init_4 rfl (lv_at hl 0 rfl) ?_
  refine zr_bipush hx hb dX2_init_5 (by decide) ?_
  refine zr_newi (N := 11) hx hb (hts (.arrayClass .int) (List.mem_of_getElem? (i := 4) rfl)) hK hP hD hS hA (by decide) rfl (Nat.le_of_ble_eq_true rfl) (Nat.le_of_ble_eq_true rfl) (Nat.le_of_ble_eq_true rfl) dX2_init_7 (fun q1 H hP hD hS => ?_)
  refine W.widen (k := 1) (n := 11) (Nat.le_of_ble_eq_true rfl) (Nat.le_of_ble_eq_true rfl) ?_
  have hP : va_P D vwCl ([(a0, .inr (2, [.null, .null])), (q1, .inl (cs 0, 11, .inl (zA (fun _ => 0))))]) H := hP
  have hD : va_D A0 ([(a0, .inr (2, [.null, .null])), (q1, .inl (cs 0, 11, .inl (zA (fun _ => 0))))]) := hD
  refine va_putF (D := D) (ci := 2) (v := .ref q1) (ty := tyX2 0) (C := RX2) (T := TX2) (N := 2) hx hb hts hiX2 tyX2 tyX2_ok nmX2 hown hK hP hD hS 0 rfl rfl 0 (by decide) (hts (.fieldLink RX2 11 "ChargeEstimator$Curves" "lower" "[I") (List.mem_of_getElem? (i := 5) rfl)) (fun _ h9 => h9) rfl hin rfl (tyX2_ok 0 (by decide)) rfl rfl (Nat.le_of_ble_eq_true rfl) dX2_init_9 (fun H locs hP hD hS => ?_)
  have hP : va_P D vwCl ([(a0, .inr (2, [.ref q1, .null])), (q1, .inl (cs 0, 11, .inl (zA (fun _ => 0))))]) H := hP
  have hD : va_D A0 ([(a0, .inr (2, [.ref q1, .null])), (q1, .inl (cs 0, 11, .inl (zA (fun _ => 0))))]) := hD
  refine lv_aload_n hx hb dX2_init_12 rfl (lv_at hl 0 rfl) ?_
  refine zr_bipush hx hb dX2_init_13 (by decide) ?_
  refine zr_newi (N := 11) hx hb (hts (.arrayClass .int) (List.mem_of_getElem? (i := 4) rfl)) hK hP hD hS hA (by decide) rfl (Nat.le_of_ble_eq_true rfl) (Nat.le_of_ble_eq_true rfl) (Nat.le_of_ble_eq_true rfl) dX2_init_15 (fun q2 H hP hD hS => ?_)
  refine W.widen (k := 2) (n := 22) (Nat.le_of_ble_eq_true rfl) (Nat.le_of_ble_eq_true rfl) ?_
  have hP : va_P D vwCl ([(a0, .inr (2, [.ref q1, .null])), (q1, .inl (cs 0, 11, .inl (zA (fun _ => 0)))), (q2, .inl (cs 0, 11, .inl (zA (fun _ => 0))))]) H := hP
  have hD : va_D A0 ([(a0, .inr (2, [.ref q1, .null])), (q1, .inl (cs 0, 11, .inl (zA (fun _ => 0)))), (q2, .inl (cs 0, 11, .inl (zA (fun _ => 0))))]) := hD
  refine va_putF (D := D) (ci := 2) (v := .ref q2) (ty := tyX2 1) (C := RX2) (T := TX2) (N := 2) hx hb hts hiX2 tyX2 tyX2_ok nmX2 hown hK hP hD hS 0 rfl rfl 1 (by decide) (hts (.fieldLink RX2 15 "ChargeEstimator$Curves" "upper" "[I") (List.mem_of_getElem? (i := 6) rfl)) (fun _ h9 => h9) rfl hin rfl (tyX2_ok 1 (by decide)) rfl rfl (Nat.le_of_ble_eq_true rfl) dX2_init_17 (fun H locs hP hD hS => ?_)
  have hP : va_P D vwCl ([(a0, .inr (2, [.ref q1, .ref q2])), (q1, .inl (cs 0, 11, .inl (zA (fun _ => 0)))), (q2, .inl (cs 0, 11, .inl (zA (fun _ => 0))))]) H := hP
  have hD : va_D A0 ([(a0, .inr (2, [.ref q1, .ref q2])), (q1, .inl (cs 0, 11, .inl (zA (fun _ => 0)))), (q2, .inl (cs 0, 11, .inl (zA (fun _ => 0))))]) := hD
  refine zr_iconst hx hb dX2_init_20 ?_
  refine lv_istore_n (lv' := [(1, .int (zI 0)), (0, .ref a0)]) hx hb dX2_init_21 rfl hl (by decide) rfl (fun ls hl => ?_)
  refine lv_iload_n hx hb dX2_init_22 rfl (lv_at hl 0 rfl) ?_
  refine zr_bipush hx hb dX2_init_23 (by decide) ?_
  refine zr_icmp_ge (tgt := 59) hx hb dX2_init_25 (by decide) (by decide) (by decide) (fun c3 => ?_) (fun c3 => ?_)
  · exact absurd c3 (by decide)
  · refine lv_aload_n hx hb dX2_init_28 rfl (lv_at hl 1 rfl) ?_
    refine va_get (D := D) (ci := 2) (v := .ref q1) (C := RX2) (T := TX2) (N := 2) hx hb hts hiX2 hown hK hP 0 rfl rfl 0 (by decide) (hts (.fieldLink RX2 11 "ChargeEstimator$Curves" "lower" "[I") (List.mem_of_getElem? (i := 5) rfl)) (fun _ h9 => h9) rfl dX2_init_29 ?_
    refine lv_iload_n hx hb dX2_init_32 rfl (lv_at hl 0 rfl) ?_
    obtain ⟨tL, tL1, tL2⟩ := hX.1.2
    refine va_gets hx hb tL1 hS hown (hts (.fieldLink RX2 18 "ChargeEstimator$Curves" "INITIAL_LOWER" "[I") (List.mem_of_getElem? (i := 7) rfl)) (fun _ h => h) dX2_init_33 ?_
    refine lv_iload_n hx hb dX2_init_36 rfl (lv_at hl 0 rfl) ?_
    refine zr_sald hx hb tL2 hS (by decide) (by decide) dX2_init_37 ?_
    refine zr_iast (D := D) (g := (fun _ => 0)) hx hb hK hP hD hS 1 0 rfl rfl (by decide) (by decide) dX2_init_38 (fun H locs hP hD hS => ?_)
    have hP : va_P D vwCl ([(a0, .inr (2, [.ref q1, .ref q2])), (q1, .inl (cs 0, 11, .inl (zA (zU (fun _ => 0) 0 (zIlo 0))))), (q2, .inl (cs 0, 11, .inl (zA (fun _ => 0))))]) H := hP
    have hD : va_D A0 ([(a0, .inr (2, [.ref q1, .ref q2])), (q1, .inl (cs 0, 11, .inl (zA (zU (fun _ => 0) 0 (zIlo 0))))), (q2, .inl (cs 0, 11, .inl (zA (fun _ => 0))))]) := zD_addr hD rfl
    refine lv_aload_n hx hb dX2_init_39 rfl (lv_at hl 1 rfl) ?_
    refine va_get (D := D) (ci := 2) (v := .ref q2) (C := RX2) (T := TX2) (N := 2) hx hb hts hiX2 hown hK hP 0 rfl rfl 1 (by decide) (hts (.fieldLink RX2 15 "ChargeEstimator$Curves" "upper" "[I") (List.mem_of_getElem? (i := 6) rfl)) (fun _ h9 => h9) rfl dX2_init_40 ?_
    refine lv_iload_n hx hb dX2_init_43 rfl (lv_at hl 0 rfl) ?_
    obtain ⟨tL, tL1, tL2⟩ := hX.1.2
    refine va_gets hx hb tL1 hS hown (hts (.fieldLink RX2 18 "ChargeEstimator$Curves" "INITIAL_LOWER" "[I") (List.mem_of_getElem? (i := 7) rfl)) (fun _ h => h) dX2_init_44 ?_
    refine lv_iload_n hx hb dX2_init_47 rfl (lv_at hl 0 rfl) ?_
    refine zr_sald hx hb tL2 hS (by decide) (by decide) dX2_init_48 ?_
    refine zr_bipush hx hb dX2_init_49 (by decide) ?_
    refine zr_iadd hx hb dX2_init_51 ?_
    refine zr_iast (D := D) (g := (fun _ => 0)) hx hb hK hP hD hS 2 0 rfl rfl (by decide) (by decide) dX2_init_52 (fun H locs hP hD hS => ?_)
    have hP : va_P D vwCl ([(a0, .inr (2, [.ref q1, .ref q2])), (q1, .inl (cs 0, 11, .inl (zA (zU (fun _ => 0) 0 (zIlo 0))))), (q2, .inl (cs 0, 11, .inl (zA (zU (fun _ => 0) 0 ((zIlo 0) + 40)))))]) H := hP
    have hD : va_D A0 ([(a0, .inr (2, [.ref q1, .ref q2])), (q1, .inl (cs 0, 11, .inl (zA (zU (fun _ => 0) 0 (zIlo 0))))), (q2, .inl (cs 0, 11, .inl (zA (zU (fun _ => 0) 0 ((zIlo 0) + 40)))))]) := zD_addr hD rfl
    refine zr_iinc (kk := 0) (lv' := [(1, .int (zI 1)), (0, .ref a0)]) hx hb dX2_init_53 hl rfl (by decide) rfl (fun ls hl => ?_)
    refine lv_goto (tgt := 22) hx hb dX2_init_56 (by decide) ?_
    refine lv_iload_n hx hb dX2_init_22 rfl (lv_at hl 0 rfl) ?_
    refine zr_bipush hx hb dX2_init_23 (by decide) ?_
    refine zr_icmp_ge (tgt := 59) hx hb dX2_init_25 (by decide) (by decide) (by decide) (fun c4 => ?_) (fun c4 => ?_)
    · exact absurd c4 (by decide)
    · refine lv_aload_n hx hb dX2_init_28 rfl (lv_at hl 1 rfl) ?_
      refine va_get (D := D) (ci := 2) (v := .ref q1) (C := RX2) (T := TX2) (N := 2) hx hb hts hiX2 hown hK hP 0 rfl rfl 0 (by decide) (hts (.fieldLink RX2 11 "ChargeEstimator$Curves" "lower" "[I") (List.mem_of_getElem? (i := 5) rfl)) (fun _ h9 => h9) rfl dX2_init_29 ?_
      refine lv_iload_n hx hb dX2_init_32 rfl (lv_at hl 0 rfl) ?_
      obtain ⟨tL, tL1, tL2⟩ := hX.1.2
      refine va_gets hx hb tL1 hS hown (hts (.fieldLink RX2 18 "ChargeEstimator$Curves" "INITIAL_LOWER" "[I") (List.mem_of_getElem? (i := 7) rfl)) (fun _ h => h) dX2_init_33 ?_
      refine lv_iload_n hx hb dX2_init_36 rfl (lv_at hl 0 rfl) ?_
      refine zr_sald hx hb tL2 hS (by decide) (by decide) dX2_init_37 ?_
      refine zr_iast (D := D) (g := zU (fun _ => 0) 0 (zIlo 0)) hx hb hK hP hD hS 1 0 rfl rfl (by decide) (by decide) dX2_init_38 (fun H locs hP hD hS => ?_)
      have hP : va_P D vwCl ([(a0, .inr (2, [.ref q1, .ref q2])), (q1, .inl (cs 0, 11, .inl (zA (zU (zU (fun _ => 0) 0 (zIlo 0)) 1 (zIlo 1))))), (q2, .inl (cs 0, 11, .inl (zA (zU (fun _ => 0) 0 ((zIlo 0) + 40)))))]) H := hP
      have hD : va_D A0 ([(a0, .inr (2, [.ref q1, .ref q2])), (q1, .inl (cs 0, 11, .inl (zA (zU (zU (fun _ => 0) 0 (zIlo 0)) 1 (zIlo 1))))), (q2, .inl (cs 0, 11, .inl (zA (zU (fun _ => 0) 0 ((zIlo 0) + 40)))))]) := zD_addr hD rfl
      refine lv_aload_n hx hb dX2_init_39 rfl (lv_at hl 1 rfl) ?_
      refine va_get (D := D) (ci := 2) (v := .ref q2) (C := RX2) (T := TX2) (N := 2) hx hb hts hiX2 hown hK hP 0 rfl rfl 1 (by decide) (hts (.fieldLink RX2 15 "ChargeEstimator$Curves" "upper" "[I") (List.mem_of_getElem? (i := 6) rfl)) (fun _ h9 => h9) rfl dX2_init_40 ?_
      refine lv_iload_n hx hb dX2_init_43 rfl (lv_at hl 0 rfl) ?_
      obtain ⟨tL, tL1, tL2⟩ := hX.1.2
      refine va_gets hx hb tL1 hS hown (hts (.fieldLink RX2 18 "ChargeEstimator$Curves" "INITIAL_LOWER" "[I") (List.mem_of_getElem? (i := 7) rfl)) (fun _ h => h) dX2_init_44 ?_
      refine lv_iload_n hx hb dX2_init_47 rfl (lv_at hl 0 rfl) ?_
      refine zr_sald hx hb tL2 hS (by decide) (by decide) dX2_init_48 ?_
      refine zr_bipush hx hb dX2_init_49 (by decide) ?_
      refine zr_iadd hx hb dX2_init_51 ?_
      refine zr_iast (D := D) (g := zU (fun _ => 0) 0 ((zIlo 0) + 40)) hx hb hK hP hD hS 2 0 rfl rfl (by decide) (by decide) dX2_init_52 (fun H locs hP hD hS => ?_)
      have hP : va_P D vwCl ([(a0, .inr (2, [.ref q1, .ref q2])), (q1, .inl (cs 0, 11, .inl (zA (zU (zU (fun _ => 0) 0 (zIlo 0)) 1 (zIlo 1))))), (q2, .inl (cs 0, 11, .inl (zA (zU (zU (fun _ => 0) 0 ((zIlo 0) + 40)) 1 ((zIlo 1) + 40)))))]) H := hP
      have hD : va_D A0 ([(a0, .inr (2, [.ref q1, .ref q2])), (q1, .inl (cs 0, 11, .inl (zA (zU (zU (fun _ => 0) 0 (zIlo 0)) 1 (zIlo 1))))), (q2, .inl (cs 0, 11, .inl (zA (zU (zU (fun _ => 0) 0 ((zIlo 0) + 40)) 1 ((zIlo 1) + 40)))))]) := zD_addr hD rfl
      refine zr_iinc (kk := 0) (lv' := [(1, .int (zI 2)), (0, .ref a0)]) hx hb dX2_init_53 hl rfl (by decide) rfl (fun ls hl => ?_)
      refine lv_goto (tgt := 22) hx hb dX2_init_56 (by decide) ?_
      refine lv_iload_n hx hb dX2_init_22 rfl (lv_at hl 0 rfl) ?_
      refine zr_bipush hx hb dX2_init_23 (by decide) ?_
      refine zr_icmp_ge (tgt := 59) hx hb dX2_init_25 (by decide) (by decide) (by decide) (fun c5 => ?_) (fun c5 => ?_)
      · exact absurd c5 (by decide)
      · refine lv_aload_n hx hb dX2_init_28 rfl (lv_at hl 1 rfl) ?_
        refine va_get (D := D) (ci := 2) (v := .ref q1) (C := RX2) (T := TX2) (N := 2) hx hb hts hiX2 hown hK hP 0 rfl rfl 0 (by decide) (hts (.fieldLink RX2 11 "ChargeEstimator$Curves" "lower" "[I") (List.mem_of_getElem? (i := 5) rfl)) (fun _ h9 => h9) rfl dX2_init_29 ?_
        refine lv_iload_n hx hb dX2_init_32 rfl (lv_at hl 0 rfl) ?_
        obtain ⟨tL, tL1, tL2⟩ := hX.1.2
        refine va_gets hx hb tL1 hS hown (hts (.fieldLink RX2 18 "ChargeEstimator$Curves" "INITIAL_LOWER" "[I") (List.mem_of_getElem? (i := 7) rfl)) (fun _ h => h) dX2_init_33 ?_
        refine lv_iload_n hx hb dX2_init_36 rfl (lv_at hl 0 rfl) ?_
        refine zr_sald hx hb tL2 hS (by decide) (by decide) dX2_init_37 ?_
        refine zr_iast (D := D) (g := zU (zU (fun _ => 0) 0 (zIlo 0)) 1 (zIlo 1)) hx hb hK hP hD hS 1 0 rfl rfl (by decide) (by decide) dX2_init_38 (fun H locs hP hD hS => ?_)
        have hP : va_P D vwCl ([(a0, .inr (2, [.ref q1, .ref q2])), (q1, .inl (cs 0, 11, .inl (zA (zU (zU (zU (fun _ => 0) 0 (zIlo 0)) 1 (zIlo 1)) 2 (zIlo 2))))), (q2, .inl (cs 0, 11, .inl (zA (zU (zU (fun _ => 0) 0 ((zIlo 0) + 40)) 1 ((zIlo 1) + 40)))))]) H := hP
        have hD : va_D A0 ([(a0, .inr (2, [.ref q1, .ref q2])), (q1, .inl (cs 0, 11, .inl (zA (zU (zU (zU (fun _ => 0) 0 (zIlo 0)) 1 (zIlo 1)) 2 (zIlo 2))))), (q2, .inl (cs 0, 11, .inl (zA (zU (zU (fun _ => 0) 0 ((zIlo 0) + 40)) 1 ((zIlo 1) + 40)))))]) := zD_addr hD rfl
        refine lv_aload_n hx hb dX2_init_39 rfl (lv_at hl 1 rfl) ?_
        refine va_get (D := D) (ci := 2) (v := .ref q2) (C := RX2) (T := TX2) (N := 2) hx hb hts hiX2 hown hK hP 0 rfl rfl 1 (by decide) (hts (.fieldLink RX2 15 "ChargeEstimator$Curves" "upper" "[I") (List.mem_of_getElem? (i := 6) rfl)) (fun _ h9 => h9) rfl dX2_init_40 ?_
        refine lv_iload_n hx hb dX2_init_43 rfl (lv_at hl 0 rfl) ?_
        obtain ⟨tL, tL1, tL2⟩ := hX.1.2
        refine va_gets hx hb tL1 hS hown (hts (.fieldLink RX2 18 "ChargeEstimator$Curves" "INITIAL_LOWER" "[I") (List.mem_of_getElem? (i := 7) rfl)) (fun _ h => h) dX2_init_44 ?_
        refine lv_iload_n hx hb dX2_init_47 rfl (lv_at hl 0 rfl) ?_
        refine zr_sald hx hb tL2 hS (by decide) (by decide) dX2_init_48 ?_
        refine zr_bipush hx hb dX2_init_49 (by decide) ?_
        refine zr_iadd hx hb dX2_init_51 ?_
        refine zr_iast (D := D) (g := zU (zU (fun _ => 0) 0 ((zIlo 0) + 40)) 1 ((zIlo 1) + 40)) hx hb hK hP hD hS 2 0 rfl rfl (by decide) (by decide) dX2_init_52 (fun H locs hP hD hS => ?_)
        have hP : va_P D vwCl ([(a0, .inr (2, [.ref q1, .ref q2])), (q1, .inl (cs 0, 11, .inl (zA (zU (zU (zU (fun _ => 0) 0 (zIlo 0)) 1 (zIlo 1)) 2 (zIlo 2))))), (q2, .inl (cs 0, 11, .inl (zA (zU (zU (zU (fun _ => 0) 0 ((zIlo 0) + 40)) 1 ((zIlo 1) + 40)) 2 ((zIlo 2) + 40)))))]) H := hP
        have hD : va_D A0 ([(a0, .inr (2, [.ref q1, .ref q2])), (q1, .inl (cs 0, 11, .inl (zA (zU (zU (zU (fun _ => 0) 0 (zIlo 0)) 1 (zIlo 1)) 2 (zIlo 2))))), (q2, .inl (cs 0, 11, .inl (zA (zU (zU (zU (fun _ => 0) 0 ((zIlo 0) + 40)) 1 ((zIlo 1) + 40)) 2 ((zIlo 2) + 40)))))]) := zD_addr hD rfl
        refine zr_iinc (kk := 0) (lv' := [(1, .int (zI 3)), (0, .ref a0)]) hx hb dX2_init_53 hl rfl (by decide) rfl (fun ls hl => ?_)
        refine lv_goto (tgt := 22) hx hb dX2_init_56 (by decide) ?_
        refine lv_iload_n hx hb dX2_init_22 rfl (lv_at hl 0 rfl) ?_
        refine zr_bipush hx hb dX2_init_23 (by decide) ?_
        refine zr_icmp_ge (tgt := 59) hx hb dX2_init_25 (by decide) (by decide) (by decide) (fun c6 => ?_) (fun c6 => ?_)
        · exact absurd c6 (by decide)
        · refine lv_aload_n hx hb dX2_init_28 rfl (lv_at hl 1 rfl) ?_
          refine va_get (D := D) (ci := 2) (v := .ref q1) (C := RX2) (T := TX2) (N := 2) hx hb hts hiX2 hown hK hP 0 rfl rfl 0 (by decide) (hts (.fieldLink RX2 11 "ChargeEstimator$Curves" "lower" "[I") (List.mem_of_getElem? (i := 5) rfl)) (fun _ h9 => h9) rfl dX2_init_29 ?_
          refine lv_iload_n hx hb dX2_init_32 rfl (lv_at hl 0 rfl) ?_
          obtain ⟨tL, tL1, tL2⟩ := hX.1.2
          refine va_gets hx hb tL1 hS hown (hts (.fieldLink RX2 18 "ChargeEstimator$Curves" "INITIAL_LOWER" "[I") (List.mem_of_getElem? (i := 7) rfl)) (fun _ h => h) dX2_init_33 ?_
          refine lv_iload_n hx hb dX2_init_36 rfl (lv_at hl 0 rfl) ?_
          refine zr_sald hx hb tL2 hS (by decide) (by decide) dX2_init_37 ?_
          refine zr_iast (D := D) (g := zU (zU (zU (fun _ => 0) 0 (zIlo 0)) 1 (zIlo 1)) 2 (zIlo 2)) hx hb hK hP hD hS 1 0 rfl rfl (by decide) (by decide) dX2_init_38 (fun H locs hP hD hS => ?_)
          have hP : va_P D vwCl ([(a0, .inr (2, [.ref q1, .ref q2])), (q1, .inl (cs 0, 11, .inl (zA (zU (zU (zU (zU (fun _ => 0) 0 (zIlo 0)) 1 (zIlo 1)) 2 (zIlo 2)) 3 (zIlo 3))))), (q2, .inl (cs 0, 11, .inl (zA (zU (zU (zU (fun _ => 0) 0 ((zIlo 0) + 40)) 1 ((zIlo 1) + 40)) 2 ((zIlo 2) + 40)))))]) H := hP
          have hD : va_D A0 ([(a0, .inr (2, [.ref q1, .ref q2])), (q1, .inl (cs 0, 11, .inl (zA (zU (zU (zU (zU (fun _ => 0) 0 (zIlo 0)) 1 (zIlo 1)) 2 (zIlo 2)) 3 (zIlo 3))))), (q2, .inl (cs 0, 11, .inl (zA (zU (zU (zU (fun _ => 0) 0 ((zIlo 0) + 40)) 1 ((zIlo 1) + 40)) 2 ((zIlo 2) + 40)))))]) := zD_addr hD rfl
          refine lv_aload_n hx hb dX2_init_39 rfl (lv_at hl 1 rfl) ?_
          refine va_get (D := D) (ci := 2) (v := .ref q2) (C := RX2) (T := TX2) (N := 2) hx hb hts hiX2 hown hK hP 0 rfl rfl 1 (by decide) (hts (.fieldLink RX2 15 "ChargeEstimator$Curves" "upper" "[I") (List.mem_of_getElem? (i := 6) rfl)) (fun _ h9 => h9) rfl dX2_init_40 ?_
          refine lv_iload_n hx hb dX2_init_43 rfl (lv_at hl 0 rfl) ?_
          obtain ⟨tL, tL1, tL2⟩ := hX.1.2
          refine va_gets hx hb tL1 hS hown (hts (.fieldLink RX2 18 "ChargeEstimator$Curves" "INITIAL_LOWER" "[I") (List.mem_of_getElem? (i := 7) rfl)) (fun _ h => h) dX2_init_44 ?_
          refine lv_iload_n hx hb dX2_init_47 rfl (lv_at hl 0 rfl) ?_
          refine zr_sald hx hb tL2 hS (by decide) (by decide) dX2_init_48 ?_
          refine zr_bipush hx hb dX2_init_49 (by decide) ?_
          refine zr_iadd hx hb dX2_init_51 ?_
          refine zr_iast (D := D) (g := zU (zU (zU (fun _ => 0) 0 ((zIlo 0) + 40)) 1 ((zIlo 1) + 40)) 2 ((zIlo 2) + 40)) hx hb hK hP hD hS 2 0 rfl rfl (by decide) (by decide) dX2_init_52 (fun H locs hP hD hS => ?_)
          have hP : va_P D vwCl ([(a0, .inr (2, [.ref q1, .ref q2])), (q1, .inl (cs 0, 11, .inl (zA (zU (zU (zU (zU (fun _ => 0) 0 (zIlo 0)) 1 (zIlo 1)) 2 (zIlo 2)) 3 (zIlo 3))))), (q2, .inl (cs 0, 11, .inl (zA (zU (zU (zU (zU (fun _ => 0) 0 ((zIlo 0) + 40)) 1 ((zIlo 1) + 40)) 2 ((zIlo 2) + 40)) 3 ((zIlo 3) + 40)))))]) H := hP
          have hD : va_D A0 ([(a0, .inr (2, [.ref q1, .ref q2])), (q1, .inl (cs 0, 11, .inl (zA (zU (zU (zU (zU (fun _ => 0) 0 (zIlo 0)) 1 (zIlo 1)) 2 (zIlo 2)) 3 (zIlo 3))))), (q2, .inl (cs 0, 11, .inl (zA (zU (zU (zU (zU (fun _ => 0) 0 ((zIlo 0) + 40)) 1 ((zIlo 1) + 40)) 2 ((zIlo 2) + 40)) 3 ((zIlo 3) + 40)))))]) := zD_addr hD rfl
          refine zr_iinc (kk := 0) (lv' := [(1, .int (zI 4)), (0, .ref a0)]) hx hb dX2_init_53 hl rfl (by decide) rfl (fun ls hl => ?_)
          refine lv_goto (tgt := 22) hx hb dX2_init_56 (by decide) ?_
          refine lv_iload_n hx hb dX2_init_22 rfl (lv_at hl 0 rfl) ?_
          refine zr_bipush hx hb dX2_init_23 (by decide) ?_
          refine zr_icmp_ge (tgt := 59) hx hb dX2_init_25 (by decide) (by decide) (by decide) (fun c7 => ?_) (fun c7 => ?_)
          · exact absurd c7 (by decide)
          · refine lv_aload_n hx hb dX2_init_28 rfl (lv_at hl 1 rfl) ?_
            refine va_get (D := D) (ci := 2) (v := .ref q1) (C := RX2) (T := TX2) (N := 2) hx hb hts hiX2 hown hK hP 0 rfl rfl 0 (by decide) (hts (.fieldLink RX2 11 "ChargeEstimator$Curves" "lower" "[I") (List.mem_of_getElem? (i := 5) rfl)) (fun _ h9 => h9) rfl dX2_init_29 ?_
            refine lv_iload_n hx hb dX2_init_32 rfl (lv_at hl 0 rfl) ?_
            obtain ⟨tL, tL1, tL2⟩ := hX.1.2
            refine va_gets hx hb tL1 hS hown (hts (.fieldLink RX2 18 "ChargeEstimator$Curves" "INITIAL_LOWER" "[I") (List.mem_of_getElem? (i := 7) rfl)) (fun _ h => h) dX2_init_33 ?_
            refine lv_iload_n hx hb dX2_init_36 rfl (lv_at hl 0 rfl) ?_
            refine zr_sald hx hb tL2 hS (by decide) (by decide) dX2_init_37 ?_
            refine zr_iast (D := D) (g := zU (zU (zU (zU (fun _ => 0) 0 (zIlo 0)) 1 (zIlo 1)) 2 (zIlo 2)) 3 (zIlo 3)) hx hb hK hP hD hS 1 0 rfl rfl (by decide) (by decide) dX2_init_38 (fun H locs hP hD hS => ?_)
            have hP : va_P D vwCl ([(a0, .inr (2, [.ref q1, .ref q2])), (q1, .inl (cs 0, 11, .inl (zA (zU (zU (zU (zU (zU (fun _ => 0) 0 (zIlo 0)) 1 (zIlo 1)) 2 (zIlo 2)) 3 (zIlo 3)) 4 (zIlo 4))))), (q2, .inl (cs 0, 11, .inl (zA (zU (zU (zU (zU (fun _ => 0) 0 ((zIlo 0) + 40)) 1 ((zIlo 1) + 40)) 2 ((zIlo 2) + 40)) 3 ((zIlo 3) + 40)))))]) H := hP
            have hD : va_D A0 ([(a0, .inr (2, [.ref q1, .ref q2])), (q1, .inl (cs 0, 11, .inl (zA (zU (zU (zU (zU (zU (fun _ => 0) 0 (zIlo 0)) 1 (zIlo 1)) 2 (zIlo 2)) 3 (zIlo 3)) 4 (zIlo 4))))), (q2, .inl (cs 0, 11, .inl (zA (zU (zU (zU (zU (fun _ => 0) 0 ((zIlo 0) + 40)) 1 ((zIlo 1) + 40)) 2 ((zIlo 2) + 40)) 3 ((zIlo 3) + 40)))))]) := zD_addr hD rfl
            refine lv_aload_n hx hb dX2_init_39 rfl (lv_at hl 1 rfl) ?_
            refine va_get (D := D) (ci := 2) (v := .ref q2) (C := RX2) (T := TX2) (N := 2) hx hb hts hiX2 hown hK hP 0 rfl rfl 1 (by decide) (hts (.fieldLink RX2 15 "ChargeEstimator$Curves" "upper" "[I") (List.mem_of_getElem? (i := 6) rfl)) (fun _ h9 => h9) rfl dX2_init_40 ?_
            refine lv_iload_n hx hb dX2_init_43 rfl (lv_at hl 0 rfl) ?_
            obtain ⟨tL, tL1, tL2⟩ := hX.1.2
            refine va_gets hx hb tL1 hS hown (hts (.fieldLink RX2 18 "ChargeEstimator$Curves" "INITIAL_LOWER" "[I") (List.mem_of_getElem? (i := 7) rfl)) (fun _ h => h) dX2_init_44 ?_
            refine lv_iload_n hx hb dX2_init_47 rfl (lv_at hl 0 rfl) ?_
            refine zr_sald hx hb tL2 hS (by decide) (by decide) dX2_init_48 ?_
            refine zr_bipush hx hb dX2_init_49 (by decide) ?_
            refine zr_iadd hx hb dX2_init_51 ?_
            refine zr_iast (D := D) (g := zU (zU (zU (zU (fun _ => 0) 0 ((zIlo 0) + 40)) 1 ((zIlo 1) + 40)) 2 ((zIlo 2) + 40)) 3 ((zIlo 3) + 40)) hx hb hK hP hD hS 2 0 rfl rfl (by decide) (by decide) dX2_init_52 (fun H locs hP hD hS => ?_)
            have hP : va_P D vwCl ([(a0, .inr (2, [.ref q1, .ref q2])), (q1, .inl (cs 0, 11, .inl (zA (zU (zU (zU (zU (zU (fun _ => 0) 0 (zIlo 0)) 1 (zIlo 1)) 2 (zIlo 2)) 3 (zIlo 3)) 4 (zIlo 4))))), (q2, .inl (cs 0, 11, .inl (zA (zU (zU (zU (zU (zU (fun _ => 0) 0 ((zIlo 0) + 40)) 1 ((zIlo 1) + 40)) 2 ((zIlo 2) + 40)) 3 ((zIlo 3) + 40)) 4 ((zIlo 4) + 40)))))]) H := hP
            have hD : va_D A0 ([(a0, .inr (2, [.ref q1, .ref q2])), (q1, .inl (cs 0, 11, .inl (zA (zU (zU (zU (zU (zU (fun _ => 0) 0 (zIlo 0)) 1 (zIlo 1)) 2 (zIlo 2)) 3 (zIlo 3)) 4 (zIlo 4))))), (q2, .inl (cs 0, 11, .inl (zA (zU (zU (zU (zU (zU (fun _ => 0) 0 ((zIlo 0) + 40)) 1 ((zIlo 1) + 40)) 2 ((zIlo 2) + 40)) 3 ((zIlo 3) + 40)) 4 ((zIlo 4) + 40)))))]) := zD_addr hD rfl
            refine zr_iinc (kk := 0) (lv' := [(1, .int (zI 5)), (0, .ref a0)]) hx hb dX2_init_53 hl rfl (by decide) rfl (fun ls hl => ?_)
            refine lv_goto (tgt := 22) hx hb dX2_init_56 (by decide) ?_
            refine lv_iload_n hx hb dX2_init_22 rfl (lv_at hl 0 rfl) ?_
            refine zr_bipush hx hb dX2_init_23 (by decide) ?_
            refine zr_icmp_ge (tgt := 59) hx hb dX2_init_25 (by decide) (by decide) (by decide) (fun c8 => ?_) (fun c8 => ?_)
            · exact absurd c8 (by decide)
            · refine lv_aload_n hx hb dX2_init_28 rfl (lv_at hl 1 rfl) ?_
              refine va_get (D := D) (ci := 2) (v := .ref q1) (C := RX2) (T := TX2) (N := 2) hx hb hts hiX2 hown hK hP 0 rfl rfl 0 (by decide) (hts (.fieldLink RX2 11 "ChargeEstimator$Curves" "lower" "[I") (List.mem_of_getElem? (i := 5) rfl)) (fun _ h9 => h9) rfl dX2_init_29 ?_
              refine lv_iload_n hx hb dX2_init_32 rfl (lv_at hl 0 rfl) ?_
              obtain ⟨tL, tL1, tL2⟩ := hX.1.2
              refine va_gets hx hb tL1 hS hown (hts (.fieldLink RX2 18 "ChargeEstimator$Curves" "INITIAL_LOWER" "[I") (List.mem_of_getElem? (i := 7) rfl)) (fun _ h => h) dX2_init_33 ?_
              refine lv_iload_n hx hb dX2_init_36 rfl (lv_at hl 0 rfl) ?_
              refine zr_sald hx hb tL2 hS (by decide) (by decide) dX2_init_37 ?_
              refine zr_iast (D := D) (g := zU (zU (zU (zU (zU (fun _ => 0) 0 (zIlo 0)) 1 (zIlo 1)) 2 (zIlo 2)) 3 (zIlo 3)) 4 (zIlo 4)) hx hb hK hP hD hS 1 0 rfl rfl (by decide) (by decide) dX2_init_38 (fun H locs hP hD hS => ?_)
              have hP : va_P D vwCl ([(a0, .inr (2, [.ref q1, .ref q2])), (q1, .inl (cs 0, 11, .inl (zA (zU (zU (zU (zU (zU (zU (fun _ => 0) 0 (zIlo 0)) 1 (zIlo 1)) 2 (zIlo 2)) 3 (zIlo 3)) 4 (zIlo 4)) 5 (zIlo 5))))), (q2, .inl (cs 0, 11, .inl (zA (zU (zU (zU (zU (zU (fun _ => 0) 0 ((zIlo 0) + 40)) 1 ((zIlo 1) + 40)) 2 ((zIlo 2) + 40)) 3 ((zIlo 3) + 40)) 4 ((zIlo 4) + 40)))))]) H := hP
              have hD : va_D A0 ([(a0, .inr (2, [.ref q1, .ref q2])), (q1, .inl (cs 0, 11, .inl (zA (zU (zU (zU (zU (zU (zU (fun _ => 0) 0 (zIlo 0)) 1 (zIlo 1)) 2 (zIlo 2)) 3 (zIlo 3)) 4 (zIlo 4)) 5 (zIlo 5))))), (q2, .inl (cs 0, 11, .inl (zA (zU (zU (zU (zU (zU (fun _ => 0) 0 ((zIlo 0) + 40)) 1 ((zIlo 1) + 40)) 2 ((zIlo 2) + 40)) 3 ((zIlo 3) + 40)) 4 ((zIlo 4) + 40)))))]) := zD_addr hD rfl
              refine lv_aload_n hx hb dX2_init_39 rfl (lv_at hl 1 rfl) ?_
              refine va_get (D := D) (ci := 2) (v := .ref q2) (C := RX2) (T := TX2) (N := 2) hx hb hts hiX2 hown hK hP 0 rfl rfl 1 (by decide) (hts (.fieldLink RX2 15 "ChargeEstimator$Curves" "upper" "[I") (List.mem_of_getElem? (i := 6) rfl)) (fun _ h9 => h9) rfl dX2_init_40 ?_
              refine lv_iload_n hx hb dX2_init_43 rfl (lv_at hl 0 rfl) ?_
              obtain ⟨tL, tL1, tL2⟩ := hX.1.2
              refine va_gets hx hb tL1 hS hown (hts (.fieldLink RX2 18 "ChargeEstimator$Curves" "INITIAL_LOWER" "[I") (List.mem_of_getElem? (i := 7) rfl)) (fun _ h => h) dX2_init_44 ?_
              refine lv_iload_n hx hb dX2_init_47 rfl (lv_at hl 0 rfl) ?_
              refine zr_sald hx hb tL2 hS (by decide) (by decide) dX2_init_48 ?_
              refine zr_bipush hx hb dX2_init_49 (by decide) ?_
              refine zr_iadd hx hb dX2_init_51 ?_
              refine zr_iast (D := D) (g := zU (zU (zU (zU (zU (fun _ => 0) 0 ((zIlo 0) + 40)) 1 ((zIlo 1) + 40)) 2 ((zIlo 2) + 40)) 3 ((zIlo 3) + 40)) 4 ((zIlo 4) + 40)) hx hb hK hP hD hS 2 0 rfl rfl (by decide) (by decide) dX2_init_52 (fun H locs hP hD hS => ?_)
              have hP : va_P D vwCl ([(a0, .inr (2, [.ref q1, .ref q2])), (q1, .inl (cs 0, 11, .inl (zA (zU (zU (zU (zU (zU (zU (fun _ => 0) 0 (zIlo 0)) 1 (zIlo 1)) 2 (zIlo 2)) 3 (zIlo 3)) 4 (zIlo 4)) 5 (zIlo 5))))), (q2, .inl (cs 0, 11, .inl (zA (zU (zU (zU (zU (zU (zU (fun _ => 0) 0 ((zIlo 0) + 40)) 1 ((zIlo 1) + 40)) 2 ((zIlo 2) + 40)) 3 ((zIlo 3) + 40)) 4 ((zIlo 4) + 40)) 5 ((zIlo 5) + 40)))))]) H := hP
              have hD : va_D A0 ([(a0, .inr (2, [.ref q1, .ref q2])), (q1, .inl (cs 0, 11, .inl (zA (zU (zU (zU (zU (zU (zU (fun _ => 0) 0 (zIlo 0)) 1 (zIlo 1)) 2 (zIlo 2)) 3 (zIlo 3)) 4 (zIlo 4)) 5 (zIlo 5))))), (q2, .inl (cs 0, 11, .inl (zA (zU (zU (zU (zU (zU (zU (fun _ => 0) 0 ((zIlo 0) + 40)) 1 ((zIlo 1) + 40)) 2 ((zIlo 2) + 40)) 3 ((zIlo 3) + 40)) 4 ((zIlo 4) + 40)) 5 ((zIlo 5) + 40)))))]) := zD_addr hD rfl
              refine zr_iinc (kk := 0) (lv' := [(1, .int (zI 6)), (0, .ref a0)]) hx hb dX2_init_53 hl rfl (by decide) rfl (fun ls hl => ?_)
              refine lv_goto (tgt := 22) hx hb dX2_init_56 (by decide) ?_
              refine lv_iload_n hx hb dX2_init_22 rfl (lv_at hl 0 rfl) ?_
              refine zr_bipush hx hb dX2_init_23 (by decide) ?_
              refine zr_icmp_ge (tgt := 59) hx hb dX2_init_25 (by decide) (by decide) (by decide) (fun c9 => ?_) (fun c9 => ?_)
              · exact absurd c9 (by decide)
              · refine lv_aload_n hx hb dX2_init_28 rfl (lv_at hl 1 rfl) ?_
                refine va_get (D := D) (ci := 2) (v := .ref q1) (C := RX2) (T := TX2) (N := 2) hx hb hts hiX2 hown hK hP 0 rfl rfl 0 (by decide) (hts (.fieldLink RX2 11 "ChargeEstimator$Curves" "lower" "[I") (List.mem_of_getElem? (i := 5) rfl)) (fun _ h9 => h9) rfl dX2_init_29 ?_
                refine lv_iload_n hx hb dX2_init_32 rfl (lv_at hl 0 rfl) ?_
                obtain ⟨tL, tL1, tL2⟩ := hX.1.2
                refine va_gets hx hb tL1 hS hown (hts (.fieldLink RX2 18 "ChargeEstimator$Curves" "INITIAL_LOWER" "[I") (List.mem_of_getElem? (i := 7) rfl)) (fun _ h => h) dX2_init_33 ?_
                refine lv_iload_n hx hb dX2_init_36 rfl (lv_at hl 0 rfl) ?_
                refine zr_sald hx hb tL2 hS (by decide) (by decide) dX2_init_37 ?_
                refine zr_iast (D := D) (g := zU (zU (zU (zU (zU (zU (fun _ => 0) 0 (zIlo 0)) 1 (zIlo 1)) 2 (zIlo 2)) 3 (zIlo 3)) 4 (zIlo 4)) 5 (zIlo 5)) hx hb hK hP hD hS 1 0 rfl rfl (by decide) (by decide) dX2_init_38 (fun H locs hP hD hS => ?_)
                have hP : va_P D vwCl ([(a0, .inr (2, [.ref q1, .ref q2])), (q1, .inl (cs 0, 11, .inl (zA (zU (zU (zU (zU (zU (zU (zU (fun _ => 0) 0 (zIlo 0)) 1 (zIlo 1)) 2 (zIlo 2)) 3 (zIlo 3)) 4 (zIlo 4)) 5 (zIlo 5)) 6 (zIlo 6))))), (q2, .inl (cs 0, 11, .inl (zA (zU (zU (zU (zU (zU (zU (fun _ => 0) 0 ((zIlo 0) + 40)) 1 ((zIlo 1) + 40)) 2 ((zIlo 2) + 40)) 3 ((zIlo 3) + 40)) 4 ((zIlo 4) + 40)) 5 ((zIlo 5) + 40)))))]) H := hP
                have hD : va_D A0 ([(a0, .inr (2, [.ref q1, .ref q2])), (q1, .inl (cs 0, 11, .inl (zA (zU (zU (zU (zU (zU (zU (zU (fun _ => 0) 0 (zIlo 0)) 1 (zIlo 1)) 2 (zIlo 2)) 3 (zIlo 3)) 4 (zIlo 4)) 5 (zIlo 5)) 6 (zIlo 6))))), (q2, .inl (cs 0, 11, .inl (zA (zU (zU (zU (zU (zU (zU (fun _ => 0) 0 ((zIlo 0) + 40)) 1 ((zIlo 1) + 40)) 2 ((zIlo 2) + 40)) 3 ((zIlo 3) + 40)) 4 ((zIlo 4) + 40)) 5 ((zIlo 5) + 40)))))]) := zD_addr hD rfl
                refine lv_aload_n hx hb dX2_init_39 rfl (lv_at hl 1 rfl) ?_
                refine va_get (D := D) (ci := 2) (v := .ref q2) (C := RX2) (T := TX2) (N := 2) hx hb hts hiX2 hown hK hP 0 rfl rfl 1 (by decide) (hts (.fieldLink RX2 15 "ChargeEstimator$Curves" "upper" "[I") (List.mem_of_getElem? (i := 6) rfl)) (fun _ h9 => h9) rfl dX2_init_40 ?_
                refine lv_iload_n hx hb dX2_init_43 rfl (lv_at hl 0 rfl) ?_
                obtain ⟨tL, tL1, tL2⟩ := hX.1.2
                refine va_gets hx hb tL1 hS hown (hts (.fieldLink RX2 18 "ChargeEstimator$Curves" "INITIAL_LOWER" "[I") (List.mem_of_getElem? (i := 7) rfl)) (fun _ h => h) dX2_init_44 ?_
                refine lv_iload_n hx hb dX2_init_47 rfl (lv_at hl 0 rfl) ?_
                refine zr_sald hx hb tL2 hS (by decide) (by decide) dX2_init_48 ?_
                refine zr_bipush hx hb dX2_init_49 (by decide) ?_
                refine zr_iadd hx hb dX2_init_51 ?_
                refine zr_iast (D := D) (g := zU (zU (zU (zU (zU (zU (fun _ => 0) 0 ((zIlo 0) + 40)) 1 ((zIlo 1) + 40)) 2 ((zIlo 2) + 40)) 3 ((zIlo 3) + 40)) 4 ((zIlo 4) + 40)) 5 ((zIlo 5) + 40)) hx hb hK hP hD hS 2 0 rfl rfl (by decide) (by decide) dX2_init_52 (fun H locs hP hD hS => ?_)
                have hP : va_P D vwCl ([(a0, .inr (2, [.ref q1, .ref q2])), (q1, .inl (cs 0, 11, .inl (zA (zU (zU (zU (zU (zU (zU (zU (fun _ => 0) 0 (zIlo 0)) 1 (zIlo 1)) 2 (zIlo 2)) 3 (zIlo 3)) 4 (zIlo 4)) 5 (zIlo 5)) 6 (zIlo 6))))), (q2, .inl (cs 0, 11, .inl (zA (zU (zU (zU (zU (zU (zU (zU (fun _ => 0) 0 ((zIlo 0) + 40)) 1 ((zIlo 1) + 40)) 2 ((zIlo 2) + 40)) 3 ((zIlo 3) + 40)) 4 ((zIlo 4) + 40)) 5 ((zIlo 5) + 40)) 6 ((zIlo 6) + 40)))))]) H := hP
                have hD : va_D A0 ([(a0, .inr (2, [.ref q1, .ref q2])), (q1, .inl (cs 0, 11, .inl (zA (zU (zU (zU (zU (zU (zU (zU (fun _ => 0) 0 (zIlo 0)) 1 (zIlo 1)) 2 (zIlo 2)) 3 (zIlo 3)) 4 (zIlo 4)) 5 (zIlo 5)) 6 (zIlo 6))))), (q2, .inl (cs 0, 11, .inl (zA (zU (zU (zU (zU (zU (zU (zU (fun _ => 0) 0 ((zIlo 0) + 40)) 1 ((zIlo 1) + 40)) 2 ((zIlo 2) + 40)) 3 ((zIlo 3) + 40)) 4 ((zIlo 4) + 40)) 5 ((zIlo 5) + 40)) 6 ((zIlo 6) + 40)))))]) := zD_addr hD rfl
                refine zr_iinc (kk := 0) (lv' := [(1, .int (zI 7)), (0, .ref a0)]) hx hb dX2_init_53 hl rfl (by decide) rfl (fun ls hl => ?_)
                refine lv_goto (tgt := 22) hx hb dX2_init_56 (by decide) ?_
                refine lv_iload_n hx hb dX2_init_22 rfl (lv_at hl 0 rfl) ?_
                refine zr_bipush hx hb dX2_init_23 (by decide) ?_
                refine zr_icmp_ge (tgt := 59) hx hb dX2_init_25 (by decide) (by decide) (by decide) (fun c10 => ?_) (fun c10 => ?_)
                · exact absurd c10 (by decide)
                · refine lv_aload_n hx hb dX2_init_28 rfl (lv_at hl 1 rfl) ?_
                  refine va_get (D := D) (ci := 2) (v := .ref q1) (C := RX2) (T := TX2) (N := 2) hx hb hts hiX2 hown hK hP 0 rfl rfl 0 (by decide) (hts (.fieldLink RX2 11 "ChargeEstimator$Curves" "lower" "[I") (List.mem_of_getElem? (i := 5) rfl)) (fun _ h9 => h9) rfl dX2_init_29 ?_
                  refine lv_iload_n hx hb dX2_init_32 rfl (lv_at hl 0 rfl) ?_
                  obtain ⟨tL, tL1, tL2⟩ := hX.1.2
                  refine va_gets hx hb tL1 hS hown (hts (.fieldLink RX2 18 "ChargeEstimator$Curves" "INITIAL_LOWER" "[I") (List.mem_of_getElem? (i := 7) rfl)) (fun _ h => h) dX2_init_33 ?_
                  refine lv_iload_n hx hb dX2_init_36 rfl (lv_at hl 0 rfl) ?_
                  refine zr_sald hx hb tL2 hS (by decide) (by decide) dX2_init_37 ?_
                  refine zr_iast (D := D) (g := zU (zU (zU (zU (zU (zU (zU (fun _ => 0) 0 (zIlo 0)) 1 (zIlo 1)) 2 (zIlo 2)) 3 (zIlo 3)) 4 (zIlo 4)) 5 (zIlo 5)) 6 (zIlo 6)) hx hb hK hP hD hS 1 0 rfl rfl (by decide) (by decide) dX2_init_38 (fun H locs hP hD hS => ?_)
                  have hP : va_P D vwCl ([(a0, .inr (2, [.ref q1, .ref q2])), (q1, .inl (cs 0, 11, .inl (zA (zU (zU (zU (zU (zU (zU (zU (zU (fun _ => 0) 0 (zIlo 0)) 1 (zIlo 1)) 2 (zIlo 2)) 3 (zIlo 3)) 4 (zIlo 4)) 5 (zIlo 5)) 6 (zIlo 6)) 7 (zIlo 7))))), (q2, .inl (cs 0, 11, .inl (zA (zU (zU (zU (zU (zU (zU (zU (fun _ => 0) 0 ((zIlo 0) + 40)) 1 ((zIlo 1) + 40)) 2 ((zIlo 2) + 40)) 3 ((zIlo 3) + 40)) 4 ((zIlo 4) + 40)) 5 ((zIlo 5) + 40)) 6 ((zIlo 6) + 40)))))]) H := hP
                  have hD : va_D A0 ([(a0, .inr (2, [.ref q1, .ref q2])), (q1, .inl (cs 0, 11, .inl (zA (zU (zU (zU (zU (zU (zU (zU (zU (fun _ => 0) 0 (zIlo 0)) 1 (zIlo 1)) 2 (zIlo 2)) 3 (zIlo 3)) 4 (zIlo 4)) 5 (zIlo 5)) 6 (zIlo 6)) 7 (zIlo 7))))), (q2, .inl (cs 0, 11, .inl (zA (zU (zU (zU (zU (zU (zU (zU (fun _ => 0) 0 ((zIlo 0) + 40)) 1 ((zIlo 1) + 40)) 2 ((zIlo 2) + 40)) 3 ((zIlo 3) + 40)) 4 ((zIlo 4) + 40)) 5 ((zIlo 5) + 40)) 6 ((zIlo 6) + 40)))))]) := zD_addr hD rfl
                  refine lv_aload_n hx hb dX2_init_39 rfl (lv_at hl 1 rfl) ?_
                  refine va_get (D := D) (ci := 2) (v := .ref q2) (C := RX2) (T := TX2) (N := 2) hx hb hts hiX2 hown hK hP 0 rfl rfl 1 (by decide) (hts (.fieldLink RX2 15 "ChargeEstimator$Curves" "upper" "[I") (List.mem_of_getElem? (i := 6) rfl)) (fun _ h9 => h9) rfl dX2_init_40 ?_
                  refine lv_iload_n hx hb dX2_init_43 rfl (lv_at hl 0 rfl) ?_
                  obtain ⟨tL, tL1, tL2⟩ := hX.1.2
                  refine va_gets hx hb tL1 hS hown (hts (.fieldLink RX2 18 "ChargeEstimator$Curves" "INITIAL_LOWER" "[I") (List.mem_of_getElem? (i := 7) rfl)) (fun _ h => h) dX2_init_44 ?_
                  refine lv_iload_n hx hb dX2_init_47 rfl (lv_at hl 0 rfl) ?_
                  refine zr_sald hx hb tL2 hS (by decide) (by decide) dX2_init_48 ?_
                  refine zr_bipush hx hb dX2_init_49 (by decide) ?_
                  refine zr_iadd hx hb dX2_init_51 ?_
                  refine zr_iast (D := D) (g := zU (zU (zU (zU (zU (zU (zU (fun _ => 0) 0 ((zIlo 0) + 40)) 1 ((zIlo 1) + 40)) 2 ((zIlo 2) + 40)) 3 ((zIlo 3) + 40)) 4 ((zIlo 4) + 40)) 5 ((zIlo 5) + 40)) 6 ((zIlo 6) + 40)) hx hb hK hP hD hS 2 0 rfl rfl (by decide) (by decide) dX2_init_52 (fun H locs hP hD hS => ?_)
                  have hP : va_P D vwCl ([(a0, .inr (2, [.ref q1, .ref q2])), (q1, .inl (cs 0, 11, .inl (zA (zU (zU (zU (zU (zU (zU (zU (zU (fun _ => 0) 0 (zIlo 0)) 1 (zIlo 1)) 2 (zIlo 2)) 3 (zIlo 3)) 4 (zIlo 4)) 5 (zIlo 5)) 6 (zIlo 6)) 7 (zIlo 7))))), (q2, .inl (cs 0, 11, .inl (zA (zU (zU (zU (zU (zU (zU (zU (zU (fun _ => 0) 0 ((zIlo 0) + 40)) 1 ((zIlo 1) + 40)) 2 ((zIlo 2) + 40)) 3 ((zIlo 3) + 40)) 4 ((zIlo 4) + 40)) 5 ((zIlo 5) + 40)) 6 ((zIlo 6) + 40)) 7 ((zIlo 7) + 40)))))]) H := hP
                  have hD : va_D A0 ([(a0, .inr (2, [.ref q1, .ref q2])), (q1, .inl (cs 0, 11, .inl (zA (zU (zU (zU (zU (zU (zU (zU (zU (fun _ => 0) 0 (zIlo 0)) 1 (zIlo 1)) 2 (zIlo 2)) 3 (zIlo 3)) 4 (zIlo 4)) 5 (zIlo 5)) 6 (zIlo 6)) 7 (zIlo 7))))), (q2, .inl (cs 0, 11, .inl (zA (zU (zU (zU (zU (zU (zU (zU (zU (fun _ => 0) 0 ((zIlo 0) + 40)) 1 ((zIlo 1) + 40)) 2 ((zIlo 2) + 40)) 3 ((zIlo 3) + 40)) 4 ((zIlo 4) + 40)) 5 ((zIlo 5) + 40)) 6 ((zIlo 6) + 40)) 7 ((zIlo 7) + 40)))))]) := zD_addr hD rfl
                  refine zr_iinc (kk := 0) (lv' := [(1, .int (zI 8)), (0, .ref a0)]) hx hb dX2_init_53 hl rfl (by decide) rfl (fun ls hl => ?_)
                  refine lv_goto (tgt := 22) hx hb dX2_init_56 (by decide) ?_
                  refine lv_iload_n hx hb dX2_init_22 rfl (lv_at hl 0 rfl) ?_
                  refine zr_bipush hx hb dX2_init_23 (by decide) ?_
                  refine zr_icmp_ge (tgt := 59) hx hb dX2_init_25 (by decide) (by decide) (by decide) (fun c11 => ?_) (fun c11 => ?_)
                  · exact absurd c11 (by decide)
                  · refine lv_aload_n hx hb dX2_init_28 rfl (lv_at hl 1 rfl) ?_
                    refine va_get (D := D) (ci := 2) (v := .ref q1) (C := RX2) (T := TX2) (N := 2) hx hb hts hiX2 hown hK hP 0 rfl rfl 0 (by decide) (hts (.fieldLink RX2 11 "ChargeEstimator$Curves" "lower" "[I") (List.mem_of_getElem? (i := 5) rfl)) (fun _ h9 => h9) rfl dX2_init_29 ?_
                    refine lv_iload_n hx hb dX2_init_32 rfl (lv_at hl 0 rfl) ?_
                    obtain ⟨tL, tL1, tL2⟩ := hX.1.2
                    refine va_gets hx hb tL1 hS hown (hts (.fieldLink RX2 18 "ChargeEstimator$Curves" "INITIAL_LOWER" "[I") (List.mem_of_getElem? (i := 7) rfl)) (fun _ h => h) dX2_init_33 ?_
                    refine lv_iload_n hx hb dX2_init_36 rfl (lv_at hl 0 rfl) ?_
                    refine zr_sald hx hb tL2 hS (by decide) (by decide) dX2_init_37 ?_
                    refine zr_iast (D := D) (g := zU (zU (zU (zU (zU (zU (zU (zU (fun _ => 0) 0 (zIlo 0)) 1 (zIlo 1)) 2 (zIlo 2)) 3 (zIlo 3)) 4 (zIlo 4)) 5 (zIlo 5)) 6 (zIlo 6)) 7 (zIlo 7)) hx hb hK hP hD hS 1 0 rfl rfl (by decide) (by decide) dX2_init_38 (fun H locs hP hD hS => ?_)
                    have hP : va_P D vwCl ([(a0, .inr (2, [.ref q1, .ref q2])), (q1, .inl (cs 0, 11, .inl (zA (zU (zU (zU (zU (zU (zU (zU (zU (zU (fun _ => 0) 0 (zIlo 0)) 1 (zIlo 1)) 2 (zIlo 2)) 3 (zIlo 3)) 4 (zIlo 4)) 5 (zIlo 5)) 6 (zIlo 6)) 7 (zIlo 7)) 8 (zIlo 8))))), (q2, .inl (cs 0, 11, .inl (zA (zU (zU (zU (zU (zU (zU (zU (zU (fun _ => 0) 0 ((zIlo 0) + 40)) 1 ((zIlo 1) + 40)) 2 ((zIlo 2) + 40)) 3 ((zIlo 3) + 40)) 4 ((zIlo 4) + 40)) 5 ((zIlo 5) + 40)) 6 ((zIlo 6) + 40)) 7 ((zIlo 7) + 40)))))]) H := hP
                    have hD : va_D A0 ([(a0, .inr (2, [.ref q1, .ref q2])), (q1, .inl (cs 0, 11, .inl (zA (zU (zU (zU (zU (zU (zU (zU (zU (zU (fun _ => 0) 0 (zIlo 0)) 1 (zIlo 1)) 2 (zIlo 2)) 3 (zIlo 3)) 4 (zIlo 4)) 5 (zIlo 5)) 6 (zIlo 6)) 7 (zIlo 7)) 8 (zIlo 8))))), (q2, .inl (cs 0, 11, .inl (zA (zU (zU (zU (zU (zU (zU (zU (zU (fun _ => 0) 0 ((zIlo 0) + 40)) 1 ((zIlo 1) + 40)) 2 ((zIlo 2) + 40)) 3 ((zIlo 3) + 40)) 4 ((zIlo 4) + 40)) 5 ((zIlo 5) + 40)) 6 ((zIlo 6) + 40)) 7 ((zIlo 7) + 40)))))]) := zD_addr hD rfl
                    refine lv_aload_n hx hb dX2_init_39 rfl (lv_at hl 1 rfl) ?_
                    refine va_get (D := D) (ci := 2) (v := .ref q2) (C := RX2) (T := TX2) (N := 2) hx hb hts hiX2 hown hK hP 0 rfl rfl 1 (by decide) (hts (.fieldLink RX2 15 "ChargeEstimator$Curves" "upper" "[I") (List.mem_of_getElem? (i := 6) rfl)) (fun _ h9 => h9) rfl dX2_init_40 ?_
                    refine lv_iload_n hx hb dX2_init_43 rfl (lv_at hl 0 rfl) ?_
                    obtain ⟨tL, tL1, tL2⟩ := hX.1.2
                    refine va_gets hx hb tL1 hS hown (hts (.fieldLink RX2 18 "ChargeEstimator$Curves" "INITIAL_LOWER" "[I") (List.mem_of_getElem? (i := 7) rfl)) (fun _ h => h) dX2_init_44 ?_
                    refine lv_iload_n hx hb dX2_init_47 rfl (lv_at hl 0 rfl) ?_
                    refine zr_sald hx hb tL2 hS (by decide) (by decide) dX2_init_48 ?_
                    refine zr_bipush hx hb dX2_init_49 (by decide) ?_
                    refine zr_iadd hx hb dX2_init_51 ?_
                    refine zr_iast (D := D) (g := zU (zU (zU (zU (zU (zU (zU (zU (fun _ => 0) 0 ((zIlo 0) + 40)) 1 ((zIlo 1) + 40)) 2 ((zIlo 2) + 40)) 3 ((zIlo 3) + 40)) 4 ((zIlo 4) + 40)) 5 ((zIlo 5) + 40)) 6 ((zIlo 6) + 40)) 7 ((zIlo 7) + 40)) hx hb hK hP hD hS 2 0 rfl rfl (by decide) (by decide) dX2_init_52 (fun H locs hP hD hS => ?_)
                    have hP : va_P D vwCl ([(a0, .inr (2, [.ref q1, .ref q2])), (q1, .inl (cs 0, 11, .inl (zA (zU (zU (zU (zU (zU (zU (zU (zU (zU (fun _ => 0) 0 (zIlo 0)) 1 (zIlo 1)) 2 (zIlo 2)) 3 (zIlo 3)) 4 (zIlo 4)) 5 (zIlo 5)) 6 (zIlo 6)) 7 (zIlo 7)) 8 (zIlo 8))))), (q2, .inl (cs 0, 11, .inl (zA (zU (zU (zU (zU (zU (zU (zU (zU (zU (fun _ => 0) 0 ((zIlo 0) + 40)) 1 ((zIlo 1) + 40)) 2 ((zIlo 2) + 40)) 3 ((zIlo 3) + 40)) 4 ((zIlo 4) + 40)) 5 ((zIlo 5) + 40)) 6 ((zIlo 6) + 40)) 7 ((zIlo 7) + 40)) 8 ((zIlo 8) + 40)))))]) H := hP
                    have hD : va_D A0 ([(a0, .inr (2, [.ref q1, .ref q2])), (q1, .inl (cs 0, 11, .inl (zA (zU (zU (zU (zU (zU (zU (zU (zU (zU (fun _ => 0) 0 (zIlo 0)) 1 (zIlo 1)) 2 (zIlo 2)) 3 (zIlo 3)) 4 (zIlo 4)) 5 (zIlo 5)) 6 (zIlo 6)) 7 (zIlo 7)) 8 (zIlo 8))))), (q2, .inl (cs 0, 11, .inl (zA (zU (zU (zU (zU (zU (zU (zU (zU (zU (fun _ => 0) 0 ((zIlo 0) + 40)) 1 ((zIlo 1) + 40)) 2 ((zIlo 2) + 40)) 3 ((zIlo 3) + 40)) 4 ((zIlo 4) + 40)) 5 ((zIlo 5) + 40)) 6 ((zIlo 6) + 40)) 7 ((zIlo 7) + 40)) 8 ((zIlo 8) + 40)))))]) := zD_addr hD rfl
                    refine zr_iinc (kk := 0) (lv' := [(1, .int (zI 9)), (0, .ref a0)]) hx hb dX2_init_53 hl rfl (by decide) rfl (fun ls hl => ?_)
                    refine lv_goto (tgt := 22) hx hb dX2_init_56 (by decide) ?_
                    refine lv_iload_n hx hb dX2_init_22 rfl (lv_at hl 0 rfl) ?_
                    refine zr_bipush hx hb dX2_init_23 (by decide) ?_
                    refine zr_icmp_ge (tgt := 59) hx hb dX2_init_25 (by decide) (by decide) (by decide) (fun c12 => ?_) (fun c12 => ?_)
                    · exact absurd c12 (by decide)
                    · refine lv_aload_n hx hb dX2_init_28 rfl (lv_at hl 1 rfl) ?_
                      refine va_get (D := D) (ci := 2) (v := .ref q1) (C := RX2) (T := TX2) (N := 2) hx hb hts hiX2 hown hK hP 0 rfl rfl 0 (by decide) (hts (.fieldLink RX2 11 "ChargeEstimator$Curves" "lower" "[I") (List.mem_of_getElem? (i := 5) rfl)) (fun _ h9 => h9) rfl dX2_init_29 ?_
                      refine lv_iload_n hx hb dX2_init_32 rfl (lv_at hl 0 rfl) ?_
                      obtain ⟨tL, tL1, tL2⟩ := hX.1.2
                      refine va_gets hx hb tL1 hS hown (hts (.fieldLink RX2 18 "ChargeEstimator$Curves" "INITIAL_LOWER" "[I") (List.mem_of_getElem? (i := 7) rfl)) (fun _ h => h) dX2_init_33 ?_
                      refine lv_iload_n hx hb dX2_init_36 rfl (lv_at hl 0 rfl) ?_
                      refine zr_sald hx hb tL2 hS (by decide) (by decide) dX2_init_37 ?_
                      refine zr_iast (D := D) (g := zU (zU (zU (zU (zU (zU (zU (zU (zU (fun _ => 0) 0 (zIlo 0)) 1 (zIlo 1)) 2 (zIlo 2)) 3 (zIlo 3)) 4 (zIlo 4)) 5 (zIlo 5)) 6 (zIlo 6)) 7 (zIlo 7)) 8 (zIlo 8)) hx hb hK hP hD hS 1 0 rfl rfl (by decide) (by decide) dX2_init_38 (fun H locs hP hD hS => ?_)
                      have hP : va_P D vwCl ([(a0, .inr (2, [.ref q1, .ref q2])), (q1, .inl (cs 0, 11, .inl (zA (zU (zU (zU (zU (zU (zU (zU (zU (zU (zU (fun _ => 0) 0 (zIlo 0)) 1 (zIlo 1)) 2 (zIlo 2)) 3 (zIlo 3)) 4 (zIlo 4)) 5 (zIlo 5)) 6 (zIlo 6)) 7 (zIlo 7)) 8 (zIlo 8)) 9 (zIlo 9))))), (q2, .inl (cs 0, 11, .inl (zA (zU (zU (zU (zU (zU (zU (zU (zU (zU (fun _ => 0) 0 ((zIlo 0) + 40)) 1 ((zIlo 1) + 40)) 2 ((zIlo 2) + 40)) 3 ((zIlo 3) + 40)) 4 ((zIlo 4) + 40)) 5 ((zIlo 5) + 40)) 6 ((zIlo 6) + 40)) 7 ((zIlo 7) + 40)) 8 ((zIlo 8) + 40)))))]) H := hP
                      have hD : va_D A0 ([(a0, .inr (2, [.ref q1, .ref q2])), (q1, .inl (cs 0, 11, .inl (zA (zU (zU (zU (zU (zU (zU (zU (zU (zU (zU (fun _ => 0) 0 (zIlo 0)) 1 (zIlo 1)) 2 (zIlo 2)) 3 (zIlo 3)) 4 (zIlo 4)) 5 (zIlo 5)) 6 (zIlo 6)) 7 (zIlo 7)) 8 (zIlo 8)) 9 (zIlo 9))))), (q2, .inl (cs 0, 11, .inl (zA (zU (zU (zU (zU (zU (zU (zU (zU (zU (fun _ => 0) 0 ((zIlo 0) + 40)) 1 ((zIlo 1) + 40)) 2 ((zIlo 2) + 40)) 3 ((zIlo 3) + 40)) 4 ((zIlo 4) + 40)) 5 ((zIlo 5) + 40)) 6 ((zIlo 6) + 40)) 7 ((zIlo 7) + 40)) 8 ((zIlo 8) + 40)))))]) := zD_addr hD rfl
                      refine lv_aload_n hx hb dX2_init_39 rfl (lv_at hl 1 rfl) ?_
                      refine va_get (D := D) (ci := 2) (v := .ref q2) (C := RX2) (T := TX2) (N := 2) hx hb hts hiX2 hown hK hP 0 rfl rfl 1 (by decide) (hts (.fieldLink RX2 15 "ChargeEstimator$Curves" "upper" "[I") (List.mem_of_getElem? (i := 6) rfl)) (fun _ h9 => h9) rfl dX2_init_40 ?_
                      refine lv_iload_n hx hb dX2_init_43 rfl (lv_at hl 0 rfl) ?_
                      obtain ⟨tL, tL1, tL2⟩ := hX.1.2
                      refine va_gets hx hb tL1 hS hown (hts (.fieldLink RX2 18 "ChargeEstimator$Curves" "INITIAL_LOWER" "[I") (List.mem_of_getElem? (i := 7) rfl)) (fun _ h => h) dX2_init_44 ?_
                      refine lv_iload_n hx hb dX2_init_47 rfl (lv_at hl 0 rfl) ?_
                      refine zr_sald hx hb tL2 hS (by decide) (by decide) dX2_init_48 ?_
                      refine zr_bipush hx hb dX2_init_49 (by decide) ?_
                      refine zr_iadd hx hb dX2_init_51 ?_
                      refine zr_iast (D := D) (g := zU (zU (zU (zU (zU (zU (zU (zU (zU (fun _ => 0) 0 ((zIlo 0) + 40)) 1 ((zIlo 1) + 40)) 2 ((zIlo 2) + 40)) 3 ((zIlo 3) + 40)) 4 ((zIlo 4) + 40)) 5 ((zIlo 5) + 40)) 6 ((zIlo 6) + 40)) 7 ((zIlo 7) + 40)) 8 ((zIlo 8) + 40)) hx hb hK hP hD hS 2 0 rfl rfl (by decide) (by decide) dX2_init_52 (fun H locs hP hD hS => ?_)
                      have hP : va_P D vwCl ([(a0, .inr (2, [.ref q1, .ref q2])), (q1, .inl (cs 0, 11, .inl (zA (zU (zU (zU (zU (zU (zU (zU (zU (zU (zU (fun _ => 0) 0 (zIlo 0)) 1 (zIlo 1)) 2 (zIlo 2)) 3 (zIlo 3)) 4 (zIlo 4)) 5 (zIlo 5)) 6 (zIlo 6)) 7 (zIlo 7)) 8 (zIlo 8)) 9 (zIlo 9))))), (q2, .inl (cs 0, 11, .inl (zA (zU (zU (zU (zU (zU (zU (zU (zU (zU (zU (fun _ => 0) 0 ((zIlo 0) + 40)) 1 ((zIlo 1) + 40)) 2 ((zIlo 2) + 40)) 3 ((zIlo 3) + 40)) 4 ((zIlo 4) + 40)) 5 ((zIlo 5) + 40)) 6 ((zIlo 6) + 40)) 7 ((zIlo 7) + 40)) 8 ((zIlo 8) + 40)) 9 ((zIlo 9) + 40)))))]) H := hP
                      have hD : va_D A0 ([(a0, .inr (2, [.ref q1, .ref q2])), (q1, .inl (cs 0, 11, .inl (zA (zU (zU (zU (zU (zU (zU (zU (zU (zU (zU (fun _ => 0) 0 (zIlo 0)) 1 (zIlo 1)) 2 (zIlo 2)) 3 (zIlo 3)) 4 (zIlo 4)) 5 (zIlo 5)) 6 (zIlo 6)) 7 (zIlo 7)) 8 (zIlo 8)) 9 (zIlo 9))))), (q2, .inl (cs 0, 11, .inl (zA (zU (zU (zU (zU (zU (zU (zU (zU (zU (zU (fun _ => 0) 0 ((zIlo 0) + 40)) 1 ((zIlo 1) + 40)) 2 ((zIlo 2) + 40)) 3 ((zIlo 3) + 40)) 4 ((zIlo 4) + 40)) 5 ((zIlo 5) + 40)) 6 ((zIlo 6) + 40)) 7 ((zIlo 7) + 40)) 8 ((zIlo 8) + 40)) 9 ((zIlo 9) + 40)))))]) := zD_addr hD rfl
                      refine zr_iinc (kk := 0) (lv' := [(1, .int (zI 10)), (0, .ref a0)]) hx hb dX2_init_53 hl rfl (by decide) rfl (fun ls hl => ?_)
                      refine lv_goto (tgt := 22) hx hb dX2_init_56 (by decide) ?_
                      refine lv_iload_n hx hb dX2_init_22 rfl (lv_at hl 0 rfl) ?_
                      refine zr_bipush hx hb dX2_init_23 (by decide) ?_
                      refine zr_icmp_ge (tgt := 59) hx hb dX2_init_25 (by decide) (by decide) (by decide) (fun c13 => ?_) (fun c13 => ?_)
                      · exact absurd c13 (by decide)
                      · refine lv_aload_n hx hb dX2_init_28 rfl (lv_at hl 1 rfl) ?_
                        refine va_get (D := D) (ci := 2) (v := .ref q1) (C := RX2) (T := TX2) (N := 2) hx hb hts hiX2 hown hK hP 0 rfl rfl 0 (by decide) (hts (.fieldLink RX2 11 "ChargeEstimator$Curves" "lower" "[I") (List.mem_of_getElem? (i := 5) rfl)) (fun _ h9 => h9) rfl dX2_init_29 ?_
                        refine lv_iload_n hx hb dX2_init_32 rfl (lv_at hl 0 rfl) ?_
                        obtain ⟨tL, tL1, tL2⟩ := hX.1.2
                        refine va_gets hx hb tL1 hS hown (hts (.fieldLink RX2 18 "ChargeEstimator$Curves" "INITIAL_LOWER" "[I") (List.mem_of_getElem? (i := 7) rfl)) (fun _ h => h) dX2_init_33 ?_
                        refine lv_iload_n hx hb dX2_init_36 rfl (lv_at hl 0 rfl) ?_
                        refine zr_sald hx hb tL2 hS (by decide) (by decide) dX2_init_37 ?_
                        refine zr_iast (D := D) (g := zU (zU (zU (zU (zU (zU (zU (zU (zU (zU (fun _ => 0) 0 (zIlo 0)) 1 (zIlo 1)) 2 (zIlo 2)) 3 (zIlo 3)) 4 (zIlo 4)) 5 (zIlo 5)) 6 (zIlo 6)) 7 (zIlo 7)) 8 (zIlo 8)) 9 (zIlo 9)) hx hb hK hP hD hS 1 0 rfl rfl (by decide) (by decide) dX2_init_38 (fun H locs hP hD hS => ?_)
                        have hP : va_P D vwCl ([(a0, .inr (2, [.ref q1, .ref q2])), (q1, .inl (cs 0, 11, .inl (zA (zU (zU (zU (zU (zU (zU (zU (zU (zU (zU (zU (fun _ => 0) 0 (zIlo 0)) 1 (zIlo 1)) 2 (zIlo 2)) 3 (zIlo 3)) 4 (zIlo 4)) 5 (zIlo 5)) 6 (zIlo 6)) 7 (zIlo 7)) 8 (zIlo 8)) 9 (zIlo 9)) 10 (zIlo 10))))), (q2, .inl (cs 0, 11, .inl (zA (zU (zU (zU (zU (zU (zU (zU (zU (zU (zU (fun _ => 0) 0 ((zIlo 0) + 40)) 1 ((zIlo 1) + 40)) 2 ((zIlo 2) + 40)) 3 ((zIlo 3) + 40)) 4 ((zIlo 4) + 40)) 5 ((zIlo 5) + 40)) 6 ((zIlo 6) + 40)) 7 ((zIlo 7) + 40)) 8 ((zIlo 8) + 40)) 9 ((zIlo 9) + 40)))))]) H := hP
                        have hD : va_D A0 ([(a0, .inr (2, [.ref q1, .ref q2])), (q1, .inl (cs 0, 11, .inl (zA (zU (zU (zU (zU (zU (zU (zU (zU (zU (zU (zU (fun _ => 0) 0 (zIlo 0)) 1 (zIlo 1)) 2 (zIlo 2)) 3 (zIlo 3)) 4 (zIlo 4)) 5 (zIlo 5)) 6 (zIlo 6)) 7 (zIlo 7)) 8 (zIlo 8)) 9 (zIlo 9)) 10 (zIlo 10))))), (q2, .inl (cs 0, 11, .inl (zA (zU (zU (zU (zU (zU (zU (zU (zU (zU (zU (fun _ => 0) 0 ((zIlo 0) + 40)) 1 ((zIlo 1) + 40)) 2 ((zIlo 2) + 40)) 3 ((zIlo 3) + 40)) 4 ((zIlo 4) + 40)) 5 ((zIlo 5) + 40)) 6 ((zIlo 6) + 40)) 7 ((zIlo 7) + 40)) 8 ((zIlo 8) + 40)) 9 ((zIlo 9) + 40)))))]) := zD_addr hD rfl
                        refine lv_aload_n hx hb dX2_init_39 rfl (lv_at hl 1 rfl) ?_
                        refine va_get (D := D) (ci := 2) (v := .ref q2) (C := RX2) (T := TX2) (N := 2) hx hb hts hiX2 hown hK hP 0 rfl rfl 1 (by decide) (hts (.fieldLink RX2 15 "ChargeEstimator$Curves" "upper" "[I") (List.mem_of_getElem? (i := 6) rfl)) (fun _ h9 => h9) rfl dX2_init_40 ?_
                        refine lv_iload_n hx hb dX2_init_43 rfl (lv_at hl 0 rfl) ?_
                        obtain ⟨tL, tL1, tL2⟩ := hX.1.2
                        refine va_gets hx hb tL1 hS hown (hts (.fieldLink RX2 18 "ChargeEstimator$Curves" "INITIAL_LOWER" "[I") (List.mem_of_getElem? (i := 7) rfl)) (fun _ h => h) dX2_init_44 ?_
                        refine lv_iload_n hx hb dX2_init_47 rfl (lv_at hl 0 rfl) ?_
                        refine zr_sald hx hb tL2 hS (by decide) (by decide) dX2_init_48 ?_
                        refine zr_bipush hx hb dX2_init_49 (by decide) ?_
                        refine zr_iadd hx hb dX2_init_51 ?_
                        refine zr_iast (D := D) (g := zU (zU (zU (zU (zU (zU (zU (zU (zU (zU (fun _ => 0) 0 ((zIlo 0) + 40)) 1 ((zIlo 1) + 40)) 2 ((zIlo 2) + 40)) 3 ((zIlo 3) + 40)) 4 ((zIlo 4) + 40)) 5 ((zIlo 5) + 40)) 6 ((zIlo 6) + 40)) 7 ((zIlo 7) + 40)) 8 ((zIlo 8) + 40)) 9 ((zIlo 9) + 40)) hx hb hK hP hD hS 2 0 rfl rfl (by decide) (by decide) dX2_init_52 (fun H locs hP hD hS => ?_)
                        have hP : va_P D vwCl ([(a0, .inr (2, [.ref q1, .ref q2])), (q1, .inl (cs 0, 11, .inl (zA (zU (zU (zU (zU (zU (zU (zU (zU (zU (zU (zU (fun _ => 0) 0 (zIlo 0)) 1 (zIlo 1)) 2 (zIlo 2)) 3 (zIlo 3)) 4 (zIlo 4)) 5 (zIlo 5)) 6 (zIlo 6)) 7 (zIlo 7)) 8 (zIlo 8)) 9 (zIlo 9)) 10 (zIlo 10))))), (q2, .inl (cs 0, 11, .inl (zA (zU (zU (zU (zU (zU (zU (zU (zU (zU (zU (zU (fun _ => 0) 0 ((zIlo 0) + 40)) 1 ((zIlo 1) + 40)) 2 ((zIlo 2) + 40)) 3 ((zIlo 3) + 40)) 4 ((zIlo 4) + 40)) 5 ((zIlo 5) + 40)) 6 ((zIlo 6) + 40)) 7 ((zIlo 7) + 40)) 8 ((zIlo 8) + 40)) 9 ((zIlo 9) + 40)) 10 ((zIlo 10) + 40)))))]) H := hP
                        have hD : va_D A0 ([(a0, .inr (2, [.ref q1, .ref q2])), (q1, .inl (cs 0, 11, .inl (zA (zU (zU (zU (zU (zU (zU (zU (zU (zU (zU (zU (fun _ => 0) 0 (zIlo 0)) 1 (zIlo 1)) 2 (zIlo 2)) 3 (zIlo 3)) 4 (zIlo 4)) 5 (zIlo 5)) 6 (zIlo 6)) 7 (zIlo 7)) 8 (zIlo 8)) 9 (zIlo 9)) 10 (zIlo 10))))), (q2, .inl (cs 0, 11, .inl (zA (zU (zU (zU (zU (zU (zU (zU (zU (zU (zU (zU (fun _ => 0) 0 ((zIlo 0) + 40)) 1 ((zIlo 1) + 40)) 2 ((zIlo 2) + 40)) 3 ((zIlo 3) + 40)) 4 ((zIlo 4) + 40)) 5 ((zIlo 5) + 40)) 6 ((zIlo 6) + 40)) 7 ((zIlo 7) + 40)) 8 ((zIlo 8) + 40)) 9 ((zIlo 9) + 40)) 10 ((zIlo 10) + 40)))))]) := zD_addr hD rfl
                        refine zr_iinc (kk := 0) (lv' := [(1, .int (zI 11)), (0, .ref a0)]) hx hb dX2_init_53 hl rfl (by decide) rfl (fun ls hl => ?_)
                        refine lv_goto (tgt := 22) hx hb dX2_init_56 (by decide) ?_
                        refine lv_iload_n hx hb dX2_init_22 rfl (lv_at hl 0 rfl) ?_
                        refine zr_bipush hx hb dX2_init_23 (by decide) ?_
                        refine zr_icmp_ge (tgt := 59) hx hb dX2_init_25 (by decide) (by decide) (by decide) (fun c14 => ?_) (fun c14 => ?_)
                        · have hE : ∀ k : Int, 0 ≤ k → k < 11 → ∀ x y : Int → Int, True := fun _ _ _ _ _ => trivial
                          obtain ⟨h0, h1, h2⟩ := zQ3.mp hP
                          have hP8 : va_P D vwCl ([((fun _ => zoF [a0, q1, q2]) 0 0, .inr (2, [.ref ((fun _ => zoF [a0, q1, q2]) 0 1), .ref ((fun _ => zoF [a0, q1, q2]) 0 2)])), ((fun _ => zoF [a0, q1, q2]) 0 1, .inl (cs 0, 11, .inl (zA zIlo))), ((fun _ => zoF [a0, q1, q2]) 0 2, .inl (cs 0, 11, .inl (zA (fun k => zIlo k + 40))))]) H := zQ3.mpr ⟨h0, zat_i h1 zX2a, zat_i h2 zX2b⟩
                          have hD8 : va_D A0 ([((fun _ => zoF [a0, q1, q2]) 0 0, .inr (2, [.ref ((fun _ => zoF [a0, q1, q2]) 0 1), .ref ((fun _ => zoF [a0, q1, q2]) 0 2)])), ((fun _ => zoF [a0, q1, q2]) 0 1, .inl (cs 0, 11, .inl (zA zIlo))), ((fun _ => zoF [a0, q1, q2]) 0 2, .inl (cs 0, 11, .inl (zA (fun k => zIlo k + 40))))]) := zD_addr hD rfl
                          subst hAe
                          exact W.vret hx hb hr (fun t ht hW => ⟨⟨(), rfl, trivial, (fun _ => zoF [a0, q1, q2]), rfl, by rw [ht]; exact hP8, hD8⟩, hS.F ht⟩) hS.2.2 dX2_init_59
                        · exact absurd c14 (by decide)
theorem zI1_f : (zI1 38 = 0 ∧ zI1 37 = 0 ∧ zI1 34 = 0 ∧ zI1 35 = 0 ∧ zI1 36 = 0 ∧ zI1 39 = 0) ∧ (zI1 41 = 0 ∧ zI1 40 = 0 ∧ zI1 42 = 0 ∧ zI1 43 = 0 ∧ zI1 44 = 0 ∧ zI1 50 = 0) ∧ zI1 51 = 0 ∧ zlv zI1 = 0 ∧ zI1 47 = 0 ∧ zI1 52 = 0 := by decide +kernel
theorem zX1a (k : Int) (a : 0 ≤ k) (b : k < (12 : Nat)) : zIni k = zI1 k := zAll (n := 12) (by decide +kernel) k a b
theorem zX1b (k : Int) (a : 0 ≤ k) (b : k < (11 : Nat)) : zIlo k = zO zI1 12 k := zAll (n := 11) (by decide +kernel) k a b
theorem zX1c (k : Int) (a : 0 ≤ k) (b : k < (11 : Nat)) : (fun k => zIlo k + 40) k = zO zI1 23 k := zAll (n := 11) (f := fun k => zIlo k + 40) (by decide +kernel) k a b
theorem zX1d (k : Int) (a : 0 ≤ k) (b : k < (160 : Nat)) : (fun _ => 0) k = zO zI1 53 k := zAll (n := 160) (f := fun _ => 0) (by decide +kernel) k a b
set_option maxHeartbeats 4000000 in
set_option maxRecDepth 100000 in
theorem met_X1_init (l : Launch) (D : va_G) (cs : Nat → ClassId) (a0 : Nat) (sz : Nat) : Met l yX1_init wsX1_init ({ frames := 2, cells := 6, slots := 198, locals := 42 }) (va_Pc [.ref a0] (zPreN D (zTy cs) ([(a0, .inr (1, [.null, .null, .null, .long (zL 0), .long (zL 0), .long (zL 0), .long (zL 0), .long (zL 0), .long (zL 0), .long (zL 0), .long (zL 0), .int (zI 0), .int (zI 0), .int (zI 0), .int (zI 0), .int (zI 0), .int (zI 0), .int (zI 0)]))]) sz)) (zQn D ([(a0, .inr (1, [.null, .null, .null, .long (zL 0), .long (zL 0), .long (zL 0), .long (zL 0), .long (zL 0), .long (zL 0), .long (zL 0), .long (zL 0), .int (zI 0), .int (zI 0), .int (zI 0), .int (zI 0), .int (zI 0), .int (zI 0), .int (zI 0)]))]) sz a0 (fun o => zbat cs (o 0) (zNew zI0 7200000))) 6 198 (va_A ([(a0, .inr (1, [.null, .null, .null, .long (zL 0), .long (zL 0), .long (zL 0), .long (zL 0), .long (zL 0), .long (zL 0), .long (zL 0), .long (zL 0), .int (zI 0), .int (zI 0), .int (zI 0), .int (zI 0), .int (zI 0), .int (zI 0), .int (zI 0)]))]) sz) := by
  refine Met.ofW (cc := cX1_init) (maxL := 1) (ret := none) (by decide) rfl ?_
  intro p e s m args below meth c s₁ B hml hv
  obtain ⟨rfl, ⟨hsz, hP, hK, hD0, hN⟩, hX, hO⟩ := hv
  have hx := B.exec
  have hb := B.bytes
  have hr := B.returns
  have hts := atoms_spec (ws := wsX1_init) B.pre
  have hown : s.vm.findClass RX1 = some m.cls := findClass_of_methodNamed B.named
  have hlocks := B.notSynchronized
  have hin : meth.name = "<init>" := (name_of_methodNamed B.named B.method).1
  subst hsz
  obtain ⟨A0, hAe⟩ : ∃ A0, A0 = va_A ([(a0, .inr (1, [.null, .null, .null, .long (zL 0), .long (zL 0), .long (zL 0), .long (zL 0), .long (zL 0), .long (zL 0), .long (zL 0), .long (zL 0), .int (zI 0), .int (zI 0), .int (zI 0), .int (zI 0), .int (zI 0), .int (zI 0), .int (zI 0)]))]) s.heap.size := ⟨_, rfl⟩
  have hD := hD0.self (sz := s.heap.size)
  rw [← hAe] at hD hX
  have hA : ∀ q : Nat, s.heap.size ≤ q → A0 q := fun q h => by rw [hAe]; exact Or.inr h
  have hS : va_S A0 s.heap s.heap [] := va_S.rf
  have hP : va_P D vwCl ([(a0, .inr (1, [.null, .null, .null, .long (zL 0), .long (zL 0), .long (zL 0), .long (zL 0), .long (zL 0), .long (zL 0), .long (zL 0), .long (zL 0), .int (zI 0), .int (zI 0), .int (zI 0), .int (zI 0), .int (zI 0), .int (zI 0), .int (zI 0)]))]) s.heap := hP
  have hl := lv_entry ([.ref a0]) (n := 1) (Nat.le_of_ble_eq_true rfl)
  rw [lg_entry_eq]
  generalize (lg_sl ([.ref a0]) ++ List.replicate (1 - (lg_sl ([.ref a0])).length) Slot.unset).toArray = ls at hl ⊢
  have hl : lv_has ls 1 [(0, .ref a0)] := hl
  have hiX0 : ∀ w ∈ wsX00, w ∈ wsX1_init := by decide +kernel
  have hiX1 : ∀ w ∈ wsX10, w ∈ wsX1_init := by decide +kernel
  have hiX2 : ∀ w ∈ wsX20, w ∈ wsX1_init := by decide +kernel
  refine lv_aload_n hx hb dX1_init_0 rfl (lv_at hl 0 rfl) ?_
  refine W.objInit hx hb hown (hts (.methodLink RX1 3 objectInit) (List.mem_of_getElem? (i := 1) rfl)) (hts (.instanceMethod objectInit) (List.mem_of_getElem? (i := 2) rfl)) (hts (.code objectInit ⟨#[0xb1]⟩ 1 none) (List.mem_of_getElem? (i := 3) rfl)) rfl (by rw [hml]; exact hl.1) rfl dX1_init_1 (Nat.le_of_ble_eq_true rfl) (Nat.le_of_ble_eq_true rfl) ?_
  refine W.eq (g2 := F0 m 4 ls []) rfl ?_
  refine lv_aload_n hx hb dX1_init_4 rfl (lv_at hl 0 rfl) ?_
  refine zr_bipush hx hb dX1_init_5 (by decide) ?_
  refine zr_newi (N := 12) hx hb (hts (.arrayClass .int) (List.mem_of_getElem? (i := 4) rfl)) hK hP hD hS hA (by decide) rfl (Nat.le_of_ble_eq_true rfl) (Nat.le_of_ble_eq_true rfl) (Nat.le_of_ble_eq_true rfl) dX1_init_7 (fun q1 H hP hD hS => ?_)
  refine W.widen (k := 1) (n := 12) (Nat.le_of_ble_eq_true rfl) (Nat.le_of_ble_eq_true rfl) ?_
  have hP : va_P D vwCl ([(a0, .inr (1, [.null, .null, .null, .long (zL 0), .long (zL 0), .long (zL 0), .long (zL 0), .long (zL 0), .long (zL 0), .long (zL 0), .long (zL 0), .int (zI 0), .int (zI 0), .int (zI 0), .int (zI 0), .int (zI 0), .int (zI 0), .int (zI 0)])), (q1, .inl (cs 0, 12, .inl (zA (fun _ => 0))))]) H := hP
  have hD : va_D A0 ([(a0, .inr (1, [.null, .null, .null, .long (zL 0), .long (zL 0), .long (zL 0), .long (zL 0), .long (zL 0), .long (zL 0), .long (zL 0), .long (zL 0), .int (zI 0), .int (zI 0), .int (zI 0), .int (zI 0), .int (zI 0), .int (zI 0), .int (zI 0)])), (q1, .inl (cs 0, 12, .inl (zA (fun _ => 0))))]) := hD
  refine va_putF (D := D) (ci := 1) (v := .ref q1) (ty := tyX1 0) (C := RX1) (T := TX1) (N := 18) hx hb hts hiX1 tyX1 tyX1_ok nmX1 hown hK hP hD hS 0 rfl rfl 0 (by decide) (hts (.fieldLink RX1 9 "ChargeEstimator$Battery" "settings" "[I") (List.mem_of_getElem? (i := 5) rfl)) (fun _ h9 => h9) rfl hin rfl (tyX1_ok 0 (by decide)) rfl rfl (Nat.le_of_ble_eq_true rfl) dX1_init_9 (fun H locs hP hD hS => ?_)
  have hP : va_P D vwCl ([(a0, .inr (1, [.ref q1, .null, .null, .long (zL 0), .long (zL 0), .long (zL 0), .long (zL 0), .long (zL 0), .long (zL 0), .long (zL 0), .long (zL 0), .int (zI 0), .int (zI 0), .int (zI 0), .int (zI 0), .int (zI 0), .int (zI 0), .int (zI 0)])), (q1, .inl (cs 0, 12, .inl (zA (fun _ => 0))))]) H := hP
  have hD : va_D A0 ([(a0, .inr (1, [.ref q1, .null, .null, .long (zL 0), .long (zL 0), .long (zL 0), .long (zL 0), .long (zL 0), .long (zL 0), .long (zL 0), .long (zL 0), .int (zI 0), .int (zI 0), .int (zI 0), .int (zI 0), .int (zI 0), .int (zI 0), .int (zI 0)])), (q1, .inl (cs 0, 12, .inl (zA (fun _ => 0))))]) := hD
  refine lv_aload_n hx hb dX1_init_12 rfl (lv_at hl 0 rfl) ?_
  refine va_new (D := D) (ci := 2) (fs := [.null, .null]) (C := RX2) (T := TX2) (N := 2) hx hb hts hiX2 tyX2 tyX2_ok hown (hts (.classLink RX1 15 RX2) (List.mem_of_getElem? (i := 6) rfl)) (hts (.instantiable RX2 2) (List.mem_of_getElem? (i := 7) rfl)) (hts (.initialized RX2) (List.mem_of_getElem? (i := 8) rfl)) hK hP hD hS hA rfl (fun j hj => by rcases (show j = 0 ∨ j = 1 by omega) with rfl | rfl <;> rfl) (Nat.le_of_ble_eq_true rfl) (Nat.le_of_ble_eq_true rfl) dX1_init_13 (fun q2 H hP hD hS => ?_)
  refine W.widen (k := 2) (n := 14) (Nat.le_of_ble_eq_true rfl) (Nat.le_of_ble_eq_true rfl) ?_
  have hP : va_P D vwCl ([(a0, .inr (1, [.ref q1, .null, .null, .long (zL 0), .long (zL 0), .long (zL 0), .long (zL 0), .long (zL 0), .long (zL 0), .long (zL 0), .long (zL 0), .int (zI 0), .int (zI 0), .int (zI 0), .int (zI 0), .int (zI 0), .int (zI 0), .int (zI 0)])), (q1, .inl (cs 0, 12, .inl (zA (fun _ => 0)))), (q2, .inr (2, [.null, .null]))]) H := hP
  have hD : va_D A0 ([(a0, .inr (1, [.ref q1, .null, .null, .long (zL 0), .long (zL 0), .long (zL 0), .long (zL 0), .long (zL 0), .long (zL 0), .long (zL 0), .long (zL 0), .int (zI 0), .int (zI 0), .int (zI 0), .int (zI 0), .int (zI 0), .int (zI 0), .int (zI 0)])), (q1, .inl (cs 0, 12, .inl (zA (fun _ => 0)))), (q2, .inr (2, [.null, .null]))]) := hD
  refine lv_dup hx hb dX1_init_16 rfl ?_
  refine zc_n (w := [(q2, .inr (2, [.null, .null]))]) (wr := [(a0, .inr (1, [.ref q1, .null, .null, .long (zL 0), .long (zL 0), .long (zL 0), .long (zL 0), .long (zL 0), .long (zL 0), .long (zL 0), .long (zL 0), .int (zI 0), .int (zI 0), .int (zI 0), .int (zI 0), .int (zI 0), .int (zI 0), .int (zI 0)])), (q1, .inl (cs 0, 12, .inl (zA (fun _ => 0))))]) (w2 := fun o3 => [(o3 0 0, .inr (2, [.ref (o3 0 1), .ref (o3 0 2)])), (o3 0 1, .inl (cs 0, 11, .inl (zA zIlo))), (o3 0 2, .inl (cs 0, 11, .inl (zA (fun k => zIlo k + 40))))]) (va_runI (As := []) (rest := [.ref q2, .ref a0]) ⟨hx, hb, hml, hown, hts⟩ (met_X2_init l D cs q2 H.size) (cwI 0 hts gX1_init_X2_init rfl rfl rfl (hts (.initialized RX2) (List.mem_of_getElem? (i := 8) rfl)) (hts (.methodLink RX1 17 yX2_init) (List.mem_of_getElem? (i := 19) rfl)) (hts (.instanceMethod yX2_init) (List.mem_of_getElem? (i := 20) rfl)) rfl (by decide +kernel) ⟨(Nat.le_of_ble_eq_true rfl), (Nat.le_of_ble_eq_true rfl)⟩) ⟨zPreN.blind, fun U hU hW => zp_N (hP.sub (ws' := [(q2, .inr (2, [.null, .null]))]) [2] rfl) hK (hD.sub (ws' := [(q2, .inr (2, [.null, .null]))]) [2] (by decide) rfl) hN hX hO hS (va_free (wc := [(q2, .inr (2, [.null, .null]))]) hD hS hA [2] rfl) hU hW⟩ rfl rfl hl.1 rfl (lv_room (Nat.le_of_ble_eq_true rfl)) dX1_init_17 ⟨(Nat.le_of_ble_eq_true rfl), (Nat.le_of_ble_eq_true rfl)⟩) hS hP hD hA [2] [0, 1] rfl rfl (by decide) (by decide) (fun o3 H locs ho9 hP7 hD7 hS7 => ?_)
  refine W.widen (k := 4) (n := 36) (Nat.le_of_ble_eq_true rfl) (Nat.le_of_ble_eq_true rfl) ?_
  subst ho9
  have hP := hP7
  have hD := hD7
  have hS := hS7
  have hP : va_P D vwCl ([(a0, .inr (1, [.ref q1, .null, .null, .long (zL 0), .long (zL 0), .long (zL 0), .long (zL 0), .long (zL 0), .long (zL 0), .long (zL 0), .long (zL 0), .int (zI 0), .int (zI 0), .int (zI 0), .int (zI 0), .int (zI 0), .int (zI 0), .int (zI 0)])), (q1, .inl (cs 0, 12, .inl (zA (fun _ => 0)))), (o3 0 0, .inr (2, [.ref (o3 0 1), .ref (o3 0 2)])), (o3 0 1, .inl (cs 0, 11, .inl (zA zIlo))), (o3 0 2, .inl (cs 0, 11, .inl (zA (fun k => zIlo k + 40))))]) H := hP.sub (ws' := [(a0, .inr (1, [.ref q1, .null, .null, .long (zL 0), .long (zL 0), .long (zL 0), .long (zL 0), .long (zL 0), .long (zL 0), .long (zL 0), .long (zL 0), .int (zI 0), .int (zI 0), .int (zI 0), .int (zI 0), .int (zI 0), .int (zI 0), .int (zI 0)])), (q1, .inl (cs 0, 12, .inl (zA (fun _ => 0)))), (o3 0 0, .inr (2, [.ref (o3 0 1), .ref (o3 0 2)])), (o3 0 1, .inl (cs 0, 11, .inl (zA zIlo))), (o3 0 2, .inl (cs 0, 11, .inl (zA (fun k => zIlo k + 40))))]) [0, 1, 2, 3, 4] rfl
  have hD : va_D A0 ([(a0, .inr (1, [.ref q1, .null, .null, .long (zL 0), .long (zL 0), .long (zL 0), .long (zL 0), .long (zL 0), .long (zL 0), .long (zL 0), .long (zL 0), .int (zI 0), .int (zI 0), .int (zI 0), .int (zI 0), .int (zI 0), .int (zI 0), .int (zI 0)])), (q1, .inl (cs 0, 12, .inl (zA (fun _ => 0)))), (o3 0 0, .inr (2, [.ref (o3 0 1), .ref (o3 0 2)])), (o3 0 1, .inl (cs 0, 11, .inl (zA zIlo))), (o3 0 2, .inl (cs 0, 11, .inl (zA (fun k => zIlo k + 40))))]) := hD.sub (ws' := [(a0, .inr (1, [.ref q1, .null, .null, .long (zL 0), .long (zL 0), .long (zL 0), .long (zL 0), .long (zL 0), .long (zL 0), .long (zL 0), .long (zL 0), .int (zI 0), .int (zI 0), .int (zI 0), .int (zI 0), .int (zI 0), .int (zI 0), .int (zI 0)])), (q1, .inl (cs 0, 12, .inl (zA (fun _ => 0)))), (o3 0 0, .inr (2, [.ref (o3 0 1), .ref (o3 0 2)])), (o3 0 1, .inl (cs 0, 11, .inl (zA zIlo))), (o3 0 2, .inl (cs 0, 11, .inl (zA (fun k => zIlo k + 40))))]) [0, 1, 2, 3, 4] (by decide) rfl
  refine va_putF (D := D) (ci := 1) (v := .ref (o3 0 0)) (ty := tyX1 1) (C := RX1) (T := TX1) (N := 18) hx hb hts hiX1 tyX1 tyX1_ok nmX1 hown hK hP hD hS 0 rfl rfl 1 (by decide) (hts (.fieldLink RX1 18 "ChargeEstimator$Battery" "curves" "LChargeEstimator$Curves;") (List.mem_of_getElem? (i := 9) rfl)) (fun _ h9 => h9) rfl hin rfl (tyX1_ok 1 (by decide)) rfl rfl (Nat.le_of_ble_eq_true rfl) dX1_init_20 (fun H locs hP hD hS => ?_)
  have hP : va_P D vwCl ([(a0, .inr (1, [.ref q1, .ref (o3 0 0), .null, .long (zL 0), .long (zL 0), .long (zL 0), .long (zL 0), .long (zL 0), .long (zL 0), .long (zL 0), .long (zL 0), .int (zI 0), .int (zI 0), .int (zI 0), .int (zI 0), .int (zI 0), .int (zI 0), .int (zI 0)])), (q1, .inl (cs 0, 12, .inl (zA (fun _ => 0)))), (o3 0 0, .inr (2, [.ref (o3 0 1), .ref (o3 0 2)])), (o3 0 1, .inl (cs 0, 11, .inl (zA zIlo))), (o3 0 2, .inl (cs 0, 11, .inl (zA (fun k => zIlo k + 40))))]) H := hP
  have hD : va_D A0 ([(a0, .inr (1, [.ref q1, .ref (o3 0 0), .null, .long (zL 0), .long (zL 0), .long (zL 0), .long (zL 0), .long (zL 0), .long (zL 0), .long (zL 0), .long (zL 0), .int (zI 0), .int (zI 0), .int (zI 0), .int (zI 0), .int (zI 0), .int (zI 0), .int (zI 0)])), (q1, .inl (cs 0, 12, .inl (zA (fun _ => 0)))), (o3 0 0, .inr (2, [.ref (o3 0 1), .ref (o3 0 2)])), (o3 0 1, .inl (cs 0, 11, .inl (zA zIlo))), (o3 0 2, .inl (cs 0, 11, .inl (zA (fun k => zIlo k + 40))))]) := hD
  refine lv_aload_n hx hb dX1_init_23 rfl (lv_at hl 0 rfl) ?_
  refine va_new (D := D) (ci := 0) (fs := [.null, .int (zI 0)]) (C := RX0) (T := TX0) (N := 2) hx hb hts hiX0 tyX0 tyX0_ok hown (hts (.classLink RX1 22 RX0) (List.mem_of_getElem? (i := 10) rfl)) (hts (.instantiable RX0 2) (List.mem_of_getElem? (i := 11) rfl)) (hts (.initialized RX0) (List.mem_of_getElem? (i := 12) rfl)) hK hP hD hS hA rfl (fun j hj => by rcases (show j = 0 ∨ j = 1 by omega) with rfl | rfl <;> rfl) (Nat.le_of_ble_eq_true rfl) (Nat.le_of_ble_eq_true rfl) dX1_init_24 (fun q4 H hP hD hS => ?_)
  refine W.widen (k := 5) (n := 38) (Nat.le_of_ble_eq_true rfl) (Nat.le_of_ble_eq_true rfl) ?_
  have hP : va_P D vwCl ([(a0, .inr (1, [.ref q1, .ref (o3 0 0), .null, .long (zL 0), .long (zL 0), .long (zL 0), .long (zL 0), .long (zL 0), .long (zL 0), .long (zL 0), .long (zL 0), .int (zI 0), .int (zI 0), .int (zI 0), .int (zI 0), .int (zI 0), .int (zI 0), .int (zI 0)])), (q1, .inl (cs 0, 12, .inl (zA (fun _ => 0)))), (o3 0 0, .inr (2, [.ref (o3 0 1), .ref (o3 0 2)])), (o3 0 1, .inl (cs 0, 11, .inl (zA zIlo))), (o3 0 2, .inl (cs 0, 11, .inl (zA (fun k => zIlo k + 40)))), (q4, .inr (0, [.null, .int (zI 0)]))]) H := hP
  have hD : va_D A0 ([(a0, .inr (1, [.ref q1, .ref (o3 0 0), .null, .long (zL 0), .long (zL 0), .long (zL 0), .long (zL 0), .long (zL 0), .long (zL 0), .long (zL 0), .long (zL 0), .int (zI 0), .int (zI 0), .int (zI 0), .int (zI 0), .int (zI 0), .int (zI 0), .int (zI 0)])), (q1, .inl (cs 0, 12, .inl (zA (fun _ => 0)))), (o3 0 0, .inr (2, [.ref (o3 0 1), .ref (o3 0 2)])), (o3 0 1, .inl (cs 0, 11, .inl (zA zIlo))), (o3 0 2, .inl (cs 0, 11, .inl (zA (fun k => zIlo k + 40)))), (q4, .inr (0, [.null, .int (zI 0)]))]) := hD
  refine lv_dup hx hb dX1_init_27 rfl ?_
  refine zc_n (w := [(q4, .inr (0, [.null, .int (zI 0)]))]) (wr := [(a0, .inr (1, [.ref q1, .ref (o3 0 0), .null, .long (zL 0), .long (zL 0), .long (zL 0), .long (zL 0), .long (zL 0), .long (zL 0), .long (zL 0), .long (zL 0), .int (zI 0), .int (zI 0), .int (zI 0), .int (zI 0), .int (zI 0), .int (zI 0), .int (zI 0)])), (q1, .inl (cs 0, 12, .inl (zA (fun _ => 0)))), (o3 0 0, .inr (2, [.ref (o3 0 1), .ref (o3 0 2)])), (o3 0 1, .inl (cs 0, 11, .inl (zA zIlo))), (o3 0 2, .inl (cs 0, 11, .inl (zA (fun k => zIlo k + 40))))]) (w2 := fun o5 => [(o5 0 0, .inr (0, [.ref (o5 0 1), .int (zI 0)])), (o5 0 1, .inl (cs 0, 160, .inl (zA (fun _ => 0))))]) (va_runIN (As := []) (rest := [.ref q4, .ref a0]) ⟨hx, hb, hml, hown, hts⟩ (met_X0_init l D cs q4 H.size) ⟨va_cnB 0 hts gX1_init_X0_init_n24 rfl rfl rfl (zn_RX1_24 hN) (hts (.initialized RX0) (List.mem_of_getElem? (i := 12) rfl)) (by decide +kernel) ⟨(Nat.le_of_ble_eq_true rfl), (Nat.le_of_ble_eq_true rfl)⟩, rfl, (hts (.instanceMethod yX0_init) (List.mem_of_getElem? (i := 26) rfl))⟩ ⟨zPreN.blind, fun U hU hW => zp_N (hP.sub (ws' := [(q4, .inr (0, [.null, .int (zI 0)]))]) [5] rfl) hK (hD.sub (ws' := [(q4, .inr (0, [.null, .int (zI 0)]))]) [5] (by decide) rfl) hN hX hO hS (va_free (wc := [(q4, .inr (0, [.null, .int (zI 0)]))]) hD hS hA [5] rfl) hU hW⟩ rfl rfl hl.1 rfl (lv_room (Nat.le_of_ble_eq_true rfl)) dX1_init_28 ⟨(Nat.le_of_ble_eq_true rfl), (Nat.le_of_ble_eq_true rfl)⟩) hS hP hD hA [5] [0, 1, 2, 3, 4] rfl rfl (by decide) (by decide) (fun o5 H locs ho9 hP7 hD7 hS7 => ?_)
  refine W.widen (k := 6) (n := 198) (Nat.le_of_ble_eq_true rfl) (Nat.le_of_ble_eq_true rfl) ?_
  subst ho9
  have hP := hP7
  have hD := hD7
  have hS := hS7
  have hP : va_P D vwCl ([(a0, .inr (1, [.ref q1, .ref (o3 0 0), .null, .long (zL 0), .long (zL 0), .long (zL 0), .long (zL 0), .long (zL 0), .long (zL 0), .long (zL 0), .long (zL 0), .int (zI 0), .int (zI 0), .int (zI 0), .int (zI 0), .int (zI 0), .int (zI 0), .int (zI 0)])), (q1, .inl (cs 0, 12, .inl (zA (fun _ => 0)))), (o3 0 0, .inr (2, [.ref (o3 0 1), .ref (o3 0 2)])), (o3 0 1, .inl (cs 0, 11, .inl (zA zIlo))), (o3 0 2, .inl (cs 0, 11, .inl (zA (fun k => zIlo k + 40)))), (o5 0 0, .inr (0, [.ref (o5 0 1), .int (zI 0)])), (o5 0 1, .inl (cs 0, 160, .inl (zA (fun _ => 0))))]) H := hP.sub (ws' := [(a0, .inr (1, [.ref q1, .ref (o3 0 0), .null, .long (zL 0), .long (zL 0), .long (zL 0), .long (zL 0), .long (zL 0), .long (zL 0), .long (zL 0), .long (zL 0), .int (zI 0), .int (zI 0), .int (zI 0), .int (zI 0), .int (zI 0), .int (zI 0), .int (zI 0)])), (q1, .inl (cs 0, 12, .inl (zA (fun _ => 0)))), (o3 0 0, .inr (2, [.ref (o3 0 1), .ref (o3 0 2)])), (o3 0 1, .inl (cs 0, 11, .inl (zA zIlo))), (o3 0 2, .inl (cs 0, 11, .inl (zA (fun k => zIlo k + 40)))), (o5 0 0, .inr (0, [.ref (o5 0 1), .int (zI 0)])), (o5 0 1, .inl (cs 0, 160, .inl (zA (fun _ => 0))))]) [0, 1, 2, 3, 4, 5, 6] rfl
  have hD : va_D A0 ([(a0, .inr (1, [.ref q1, .ref (o3 0 0), .null, .long (zL 0), .long (zL 0), .long (zL 0), .long (zL 0), .long (zL 0), .long (zL 0), .long (zL 0), .long (zL 0), .int (zI 0), .int (zI 0), .int (zI 0), .int (zI 0), .int (zI 0), .int (zI 0), .int (zI 0)])), (q1, .inl (cs 0, 12, .inl (zA (fun _ => 0)))), (o3 0 0, .inr (2, [.ref (o3 0 1), .ref (o3 0 2)])), (o3 0 1, .inl (cs 0, 11, .inl (zA zIlo))), (o3 0 2, .inl (cs 0, 11, .inl (zA (fun k => zIlo k + 40)))), (o5 0 0, .inr (0, [.ref (o5 0 1), .int (zI 0)])), (o5 0 1, .inl (cs 0, 160, .inl (zA (fun _ => 0))))]) := hD.sub (ws' := [(a0, .inr (1, [.ref q1, .ref (o3 0 0), .null, .long (zL 0), .long (zL 0), .long (zL 0), .long (zL 0), .long (zL 0), .long (zL 0), .long (zL 0), .long (zL 0), .int (zI 0), .int (zI 0), .int (zI 0), .int (zI 0), .int (zI 0), .int (zI 0), .int (zI 0)])), (q1, .inl (cs 0, 12, .inl (zA (fun _ => 0)))), (o3 0 0, .inr (2, [.ref (o3 0 1), .ref (o3 0 2)])), (o3 0 1, .inl (cs 0, 11, .inl (zA zIlo))), (o3 0 2, .inl (cs 0, 11, .inl (zA (fun k => zIlo k + 40)))), (o5 0 0, .inr (0, [.ref (o5 0 1), .int (zI 0)])), (o5 0 1, .inl (cs 0, 160, .inl (zA (fun _ => 0))))]) [0, 1, 2, 3, 4, 5, 6] (by decide) rfl
  refine va_putF (D := D) (ci := 1) (v := .ref (o5 0 0)) (ty := tyX1 2) (C := RX1) (T := TX1) (N := 18) hx hb hts hiX1 tyX1 tyX1_ok nmX1 hown hK hP hD hS 0 rfl rfl 2 (by decide) (hts (.fieldLink RX1 25 "ChargeEstimator$Battery" "log" "LChargeEstimator$AnchorLog;") (List.mem_of_getElem? (i := 13) rfl)) (fun _ h9 => h9) rfl hin rfl (tyX1_ok 2 (by decide)) rfl rfl (Nat.le_of_ble_eq_true rfl) dX1_init_31 (fun H locs hP hD hS => ?_)
  have hP : va_P D vwCl ([(a0, .inr (1, [.ref q1, .ref (o3 0 0), .ref (o5 0 0), .long (zL 0), .long (zL 0), .long (zL 0), .long (zL 0), .long (zL 0), .long (zL 0), .long (zL 0), .long (zL 0), .int (zI 0), .int (zI 0), .int (zI 0), .int (zI 0), .int (zI 0), .int (zI 0), .int (zI 0)])), (q1, .inl (cs 0, 12, .inl (zA (fun _ => 0)))), (o3 0 0, .inr (2, [.ref (o3 0 1), .ref (o3 0 2)])), (o3 0 1, .inl (cs 0, 11, .inl (zA zIlo))), (o3 0 2, .inl (cs 0, 11, .inl (zA (fun k => zIlo k + 40)))), (o5 0 0, .inr (0, [.ref (o5 0 1), .int (zI 0)])), (o5 0 1, .inl (cs 0, 160, .inl (zA (fun _ => 0))))]) H := hP
  have hD : va_D A0 ([(a0, .inr (1, [.ref q1, .ref (o3 0 0), .ref (o5 0 0), .long (zL 0), .long (zL 0), .long (zL 0), .long (zL 0), .long (zL 0), .long (zL 0), .long (zL 0), .long (zL 0), .int (zI 0), .int (zI 0), .int (zI 0), .int (zI 0), .int (zI 0), .int (zI 0), .int (zI 0)])), (q1, .inl (cs 0, 12, .inl (zA (fun _ => 0)))), (o3 0 0, .inr (2, [.ref (o3 0 1), .ref (o3 0 2)])), (o3 0 1, .inl (cs 0, 11, .inl (zA zIlo))), (o3 0 2, .inl (cs 0, 11, .inl (zA (fun k => zIlo k + 40)))), (o5 0 0, .inr (0, [.ref (o5 0 1), .int (zI 0)])), (o5 0 1, .inl (cs 0, 160, .inl (zA (fun _ => 0))))]) := hD
  obtain ⟨tI, tI1, tI2⟩ := hX.1.1
  refine va_getsN hx hb tI1 hS hown (va_Nw.use rfl (zn_RX1_29 hN)) (fun _ h => h) dX1_init_34 ?_
  refine zr_iconst hx hb dX1_init_37 ?_
  refine lv_aload_n hx hb dX1_init_38 rfl (lv_at hl 0 rfl) ?_
  refine va_get (D := D) (ci := 1) (v := .ref q1) (C := RX1) (T := TX1) (N := 18) hx hb hts hiX1 hown hK hP 0 rfl rfl 0 (by decide) (hts (.fieldLink RX1 9 "ChargeEstimator$Battery" "settings" "[I") (List.mem_of_getElem? (i := 5) rfl)) (fun _ h9 => h9) rfl dX1_init_39 ?_
  refine zr_iconst hx hb dX1_init_42 ?_
  refine zr_bipush hx hb dX1_init_43 (by decide) ?_
  refine zr_scopy (f := zIni) hx hb (hml.trans hl.1.symm) hown (hts (.methodLink RX1 32 arraycopyName) (List.mem_of_getElem? (i := 14) rfl)) (hts (.native arraycopyName) (List.mem_of_getElem? (i := 15) rfl)) (hts (.static arraycopyName) (List.mem_of_getElem? (i := 16) rfl)) (hts (.initialized "java/lang/System") (List.mem_of_getElem? (i := 17) rfl)) hK hP hD hS tI2 1 rfl (Nat.le_of_ble_eq_true rfl) (Nat.le_of_ble_eq_true rfl) dX1_init_45 (fun H locs hP hD hS => ?_)
  have hP : va_P D vwCl ([(a0, .inr (1, [.ref q1, .ref (o3 0 0), .ref (o5 0 0), .long (zL 0), .long (zL 0), .long (zL 0), .long (zL 0), .long (zL 0), .long (zL 0), .long (zL 0), .long (zL 0), .int (zI 0), .int (zI 0), .int (zI 0), .int (zI 0), .int (zI 0), .int (zI 0), .int (zI 0)])), (q1, .inl (cs 0, 12, .inl (zA zIni))), (o3 0 0, .inr (2, [.ref (o3 0 1), .ref (o3 0 2)])), (o3 0 1, .inl (cs 0, 11, .inl (zA zIlo))), (o3 0 2, .inl (cs 0, 11, .inl (zA (fun k => zIlo k + 40)))), (o5 0 0, .inr (0, [.ref (o5 0 1), .int (zI 0)])), (o5 0 1, .inl (cs 0, 160, .inl (zA (fun _ => 0))))]) H := hP
  have hD : va_D A0 ([(a0, .inr (1, [.ref q1, .ref (o3 0 0), .ref (o5 0 0), .long (zL 0), .long (zL 0), .long (zL 0), .long (zL 0), .long (zL 0), .long (zL 0), .long (zL 0), .long (zL 0), .int (zI 0), .int (zI 0), .int (zI 0), .int (zI 0), .int (zI 0), .int (zI 0), .int (zI 0)])), (q1, .inl (cs 0, 12, .inl (zA zIni))), (o3 0 0, .inr (2, [.ref (o3 0 1), .ref (o3 0 2)])), (o3 0 1, .inl (cs 0, 11, .inl (zA zIlo))), (o3 0 2, .inl (cs 0, 11, .inl (zA (fun k => zIlo k + 40)))), (o5 0 0, .inr (0, [.ref (o5 0 1), .int (zI 0)])), (o5 0 1, .inl (cs 0, 160, .inl (zA (fun _ => 0))))]) := hD
  have hP : va_P D vwCl (zbat cs (zoF [a0, q1, o3 0 0, o3 0 1, o3 0 2, o5 0 0, o5 0 1]) zI1) H := by
    obtain ⟨h0, h1, h2, h3, h4, h5, h6⟩ := zP7.mp hP
    have h0 : va_at D vwCl ((zoF [a0, q1, o3 0 0, o3 0 1, o3 0 2, o5 0 0, o5 0 1]) 0, .inr (1, [.ref ((zoF [a0, q1, o3 0 0, o3 0 1, o3 0 2, o5 0 0, o5 0 1]) 1), .ref ((zoF [a0, q1, o3 0 0, o3 0 1, o3 0 2, o5 0 0, o5 0 1]) 2), .ref ((zoF [a0, q1, o3 0 0, o3 0 1, o3 0 2, o5 0 0, o5 0 1]) 5), .long (zL (zI1 38)), .long (zL (zI1 37)), .long (zL (zI1 34)), .long (zL (zI1 35)), .long (zL (zI1 36)), .long (zL (zI1 39)), .long (zL (zI1 41)), .long (zL (zI1 40)), .int (zI (zI1 42)), .int (zI (zI1 43)), .int (zI (zI1 44)), .int (zI (zI1 50)), .int (zI (zI1 51)), .int (zI (zlv zI1)), .int (zI (zI1 47))])) H := by rw [zI1_f.1.1, zI1_f.1.2.1, zI1_f.1.2.2.1, zI1_f.1.2.2.2.1, zI1_f.1.2.2.2.2.1, zI1_f.1.2.2.2.2.2, zI1_f.2.1.1, zI1_f.2.1.2.1, zI1_f.2.1.2.2.1, zI1_f.2.1.2.2.2.1, zI1_f.2.1.2.2.2.2.1, zI1_f.2.1.2.2.2.2.2, zI1_f.2.2.1, zI1_f.2.2.2.1, zI1_f.2.2.2.2.1]; exact h0
    have h5 : va_at D vwCl ((zoF [a0, q1, o3 0 0, o3 0 1, o3 0 2, o5 0 0, o5 0 1]) 5, .inr (0, [.ref ((zoF [a0, q1, o3 0 0, o3 0 1, o3 0 2, o5 0 0, o5 0 1]) 6), .int (zI (zI1 52))])) H := by rw [zI1_f.2.2.2.2.2]; exact h5
    exact zP7.mpr ⟨h0, zat_i h1 zX1a, h2, zat_i h3 zX1b, zat_i h4 zX1c, h5, zat_i h6 zX1d⟩
  have hD : va_D A0 (zbat cs (zoF [a0, q1, o3 0 0, o3 0 1, o3 0 2, o5 0 0, o5 0 1]) zI1) := zD_addr hD rfl
  refine lv_aload_n hx hb dX1_init_48 rfl (lv_at hl 0 rfl) ?_
  refine zr_ldc2 (n := 7200000) hx hb hown (hts (.constantLong RX1 38 (7200000)) (List.mem_of_getElem? (i := 18) rfl)) rfl dX1_init_49 ?_
  refine zc_v (va_runV (As := [.long (zL 7200000)]) (rest := []) ⟨hx, hb, hml, hown, hts⟩ (met_X1_startAnew l D cs (zoF [a0, q1, o3 0 0, o3 0 1, o3 0 2, o5 0 0, o5 0 1]) H.size zI1 7200000 (by first | assumption | omega)) (cwV 1 hts gX1_init_X1_startAnew rfl rfl rfl (by decide +kernel) ⟨Nat.le_of_ble_eq_true rfl, Nat.le_of_ble_eq_true rfl⟩) ⟨zPreZ.blind, va_recv hK hP (ci := 1) (q0 := 0) rfl rfl, fun U hU hW => zp_Z hP hK hD hN hU hW⟩ rfl rfl hl.1 rfl (lv_room (Nat.le_of_ble_eq_true rfl)) dX1_init_52 ⟨Nat.le_of_ble_eq_true rfl, Nat.le_of_ble_eq_true rfl⟩) hS hD hA (fun H locs hP hD hS => ?_)
  have hP8 : va_P D vwCl (zbat cs ((fun _ => (zoF [a0, q1, o3 0 0, o3 0 1, o3 0 2, o5 0 0, o5 0 1])) 0) (zNew zI0 7200000)) H := by rw [← zNew_I]; exact hP
  have hD8 : va_D A0 (zbat cs ((fun _ => (zoF [a0, q1, o3 0 0, o3 0 1, o3 0 2, o5 0 0, o5 0 1])) 0) (zNew zI0 7200000)) := zD_addr hD rfl
  subst hAe
  exact W.vret hx hb hr (fun t ht hW => ⟨⟨(), rfl, trivial, (fun _ => (zoF [a0, q1, o3 0 0, o3 0 1, o3 0 2, o5 0 0, o5 0 1])), rfl, by rw [ht]; exact hP8, hD8⟩, hS.F ht⟩) hS.2.2 dX1_init_55
theorem zQ2 {D : va_G} {cl : List vw_C} {a b : Nat × va_E} {H : Heap} : va_P D cl [a, b] H ↔ va_at D cl a H ∧ va_at D cl b H := by
  rw [zP_cons, zP_cons]
  exact ⟨fun ⟨a, b, _⟩ => ⟨a, b⟩, fun ⟨a, b⟩ => ⟨a, b, zP_nil⟩⟩
set_option maxHeartbeats 4000000 in
set_option maxRecDepth 100000 in
theorem met_X3_init (l : Launch) (D : va_G) (cs : Nat → ClassId) (a0 : Nat) (sz : Nat) : Met l yX3_init wsX3_init ({ frames := 3, cells := 29, slots := 868, locals := 62 }) (va_Pc [.ref a0] (zPreN D (zTy cs) ([(a0, .inr (3, [.null, .int (zI 0)]))]) sz)) (zQn D ([(a0, .inr (3, [.null, .int (zI 0)]))]) sz a0 (fun o => zhis cs (o 0) (o 1) (o 2) (o 3) (o 4) (zNew zI0 7200000) (zNew zI0 7200000) (zNew zI0 7200000) (zNew zI0 7200000) 0)) 29 868 (va_A ([(a0, .inr (3, [.null, .int (zI 0)]))]) sz) := by
  refine Met.ofW (cc := cX3_init) (maxL := 2) (ret := none) (by decide) rfl ?_
  intro p e s m args below meth c s₁ B hml hv
  obtain ⟨rfl, ⟨hsz, hP, hK, hD0, hN⟩, hX, hO⟩ := hv
  have hx := B.exec
  have hb := B.bytes
  have hr := B.returns
  have hts := atoms_spec (ws := wsX3_init) B.pre
  have hown : s.vm.findClass RX3 = some m.cls := findClass_of_methodNamed B.named
  have hlocks := B.notSynchronized
  have hin : meth.name = "<init>" := (name_of_methodNamed B.named B.method).1
  subst hsz
  obtain ⟨A0, hAe⟩ : ∃ A0, A0 = va_A ([(a0, .inr (3, [.null, .int (zI 0)]))]) s.heap.size := ⟨_, rfl⟩
  have hD := hD0.self (sz := s.heap.size)
  rw [← hAe] at hD hX
  have hA : ∀ q : Nat, s.heap.size ≤ q → A0 q := fun q h => by rw [hAe]; exact Or.inr h
  have hS : va_S A0 s.heap s.heap [] := va_S.rf
  have hP : va_P D vwCl ([(a0, .inr (3, [.null, .int (zI 0)]))]) s.heap := hP
  have hl := lv_entry ([.ref a0]) (n := 2) (Nat.le_of_ble_eq_true rfl)
  rw [lg_entry_eq]
  generalize (lg_sl ([.ref a0]) ++ List.replicate (2 - (lg_sl ([.ref a0])).length) Slot.unset).toArray = ls at hl ⊢
  have hl : lv_has ls 2 [(0, .ref a0)] := hl
  have hiX1 : ∀ w ∈ wsX10, w ∈ wsX3_init := by decide +kernel
  have hiX3 : ∀ w ∈ wsX30, w ∈ wsX3_init := by decide +kernel
  refine lv_aload_n hx hb dX3_init_0 rfl (lv_at hl 0 rfl) ?_
  refine W.objInit hx hb hown (hts (.methodLink RX3 1 objectInit) (List.mem_of_getElem? (i := 1) rfl)) (hts (.instanceMethod objectInit) (List.mem_of_getElem? (i := 2) rfl)) (hts (.code objectInit ⟨#[0xb1]⟩ 1 none) (List.mem_of_getElem? (i := 3) rfl)) rfl (by rw [hml]; exact hl.1) rfl dX3_init_1 (Nat.le_of_ble_eq_true rfl) (Nat.le_of_ble_eq_true rfl) ?_
  refine W.eq (g2 := F0 m 4 ls []) rfl ?_
  refine lv_aload_n hx hb dX3_init_4 rfl (lv_at hl 0 rfl) ?_
  refine zr_iconst hx hb dX3_init_5 ?_
  refine zr_newq (N := 4) hx hb hown (hts (.classLink RX3 9 RX1) (List.mem_of_getElem? (i := 4) rfl)) hO hK hP hD hS hA (by decide) rfl (Nat.le_of_ble_eq_true rfl) (Nat.le_of_ble_eq_true rfl) (Nat.le_of_ble_eq_true rfl) dX3_init_6 (fun q1 H hP hD hS => ?_)
  refine W.widen (k := 1) (n := 4) (Nat.le_of_ble_eq_true rfl) (Nat.le_of_ble_eq_true rfl) ?_
  have hP : va_P D vwCl ([(a0, .inr (3, [.null, .int (zI 0)])), (q1, .inl (cs 3, 4, .inr (.inr (.inr (.inr (fun _ => none))))))]) H := hP
  have hD : va_D A0 ([(a0, .inr (3, [.null, .int (zI 0)])), (q1, .inl (cs 3, 4, .inr (.inr (.inr (.inr (fun _ => none))))))]) := hD
  refine va_putF (D := D) (ci := 3) (v := .ref q1) (ty := tyX3 0) (C := RX3) (T := TX3) (N := 2) hx hb hts hiX3 tyX3 tyX3_ok nmX3 hown hK hP hD hS 0 rfl rfl 0 (by decide) (hts (.fieldLink RX3 11 "ChargeEstimator$History" "states" "[LChargeEstimator$Battery;") (List.mem_of_getElem? (i := 5) rfl)) (fun _ h9 => h9) rfl hin rfl (tyX3_ok 0 (by decide)) rfl rfl (Nat.le_of_ble_eq_true rfl) dX3_init_9 (fun H locs hP hD hS => ?_)
  have hP : va_P D vwCl ([(a0, .inr (3, [.ref q1, .int (zI 0)])), (q1, .inl (cs 3, 4, .inr (.inr (.inr (.inr (fun _ => none))))))]) H := hP
  have hD : va_D A0 ([(a0, .inr (3, [.ref q1, .int (zI 0)])), (q1, .inl (cs 3, 4, .inr (.inr (.inr (.inr (fun _ => none))))))]) := hD
  refine zr_iconst hx hb dX3_init_12 ?_
  refine lv_istore_n (lv' := [(1, .int (zI 0)), (0, .ref a0)]) hx hb dX3_init_13 rfl hl (by decide) rfl (fun ls hl => ?_)
  refine lv_iload_n hx hb dX3_init_14 rfl (lv_at hl 0 rfl) ?_
  refine zr_iconst hx hb dX3_init_15 ?_
  refine zr_icmp_ge (tgt := 38) hx hb dX3_init_16 (by decide) (by decide) (by decide) (fun c2 => ?_) (fun c2 => ?_)
  · exact absurd c2 (by decide)
  · refine lv_aload_n hx hb dX3_init_19 rfl (lv_at hl 1 rfl) ?_
    refine va_get (D := D) (ci := 3) (v := .ref q1) (C := RX3) (T := TX3) (N := 2) hx hb hts hiX3 hown hK hP 0 rfl rfl 0 (by decide) (hts (.fieldLink RX3 11 "ChargeEstimator$History" "states" "[LChargeEstimator$Battery;") (List.mem_of_getElem? (i := 5) rfl)) (fun _ h9 => h9) rfl dX3_init_20 ?_
    refine lv_iload_n hx hb dX3_init_23 rfl (lv_at hl 0 rfl) ?_
    refine va_new (D := D) (ci := 1) (fs := [.null, .null, .null, .long (zL 0), .long (zL 0), .long (zL 0), .long (zL 0), .long (zL 0), .long (zL 0), .long (zL 0), .long (zL 0), .int (zI 0), .int (zI 0), .int (zI 0), .int (zI 0), .int (zI 0), .int (zI 0), .int (zI 0)]) (C := RX1) (T := TX1) (N := 18) hx hb hts hiX1 tyX1 tyX1_ok hown (hts (.classLink RX3 9 RX1) (List.mem_of_getElem? (i := 4) rfl)) (hts (.instantiable RX1 18) (List.mem_of_getElem? (i := 6) rfl)) (hts (.initialized RX1) (List.mem_of_getElem? (i := 7) rfl)) hK hP hD hS hA rfl (fun j hj => by rcases (show j = 0 ∨ j = 1 ∨ j = 2 ∨ j = 3 ∨ j = 4 ∨ j = 5 ∨ j = 6 ∨ j = 7 ∨ j = 8 ∨ j = 9 ∨ j = 10 ∨ j = 11 ∨ j = 12 ∨ j = 13 ∨ j = 14 ∨ j = 15 ∨ j = 16 ∨ j = 17 by omega) with rfl | rfl | rfl | rfl | rfl | rfl | rfl | rfl | rfl | rfl | rfl | rfl | rfl | rfl | rfl | rfl | rfl | rfl <;> rfl) (Nat.le_of_ble_eq_true rfl) (Nat.le_of_ble_eq_true rfl) dX3_init_24 (fun q3 H hP hD hS => ?_)
    refine W.widen (k := 2) (n := 22) (Nat.le_of_ble_eq_true rfl) (Nat.le_of_ble_eq_true rfl) ?_
    have hP : va_P D vwCl ([(a0, .inr (3, [.ref q1, .int (zI 0)])), (q1, .inl (cs 3, 4, .inr (.inr (.inr (.inr (fun _ => none)))))), (q3, .inr (1, [.null, .null, .null, .long (zL 0), .long (zL 0), .long (zL 0), .long (zL 0), .long (zL 0), .long (zL 0), .long (zL 0), .long (zL 0), .int (zI 0), .int (zI 0), .int (zI 0), .int (zI 0), .int (zI 0), .int (zI 0), .int (zI 0)]))]) H := hP
    have hD : va_D A0 ([(a0, .inr (3, [.ref q1, .int (zI 0)])), (q1, .inl (cs 3, 4, .inr (.inr (.inr (.inr (fun _ => none)))))), (q3, .inr (1, [.null, .null, .null, .long (zL 0), .long (zL 0), .long (zL 0), .long (zL 0), .long (zL 0), .long (zL 0), .long (zL 0), .long (zL 0), .int (zI 0), .int (zI 0), .int (zI 0), .int (zI 0), .int (zI 0), .int (zI 0), .int (zI 0)]))]) := hD
    refine lv_dup hx hb dX3_init_27 rfl ?_
    refine zc_n (w := [(q3, .inr (1, [.null, .null, .null, .long (zL 0), .long (zL 0), .long (zL 0), .long (zL 0), .long (zL 0), .long (zL 0), .long (zL 0), .long (zL 0), .int (zI 0), .int (zI 0), .int (zI 0), .int (zI 0), .int (zI 0), .int (zI 0), .int (zI 0)]))]) (wr := [(a0, .inr (3, [.ref q1, .int (zI 0)])), (q1, .inl (cs 3, 4, .inr (.inr (.inr (.inr (fun _ => none))))))]) (w2 := fun o4 => zbat cs (o4 0) (zNew zI0 7200000)) (va_runI (As := []) (rest := [.ref q3, .int (zI 0), .ref q1]) ⟨hx, hb, hml, hown, hts⟩ (met_X1_init l D cs q3 H.size) (cwI 0 hts gX3_init_X1_init rfl rfl rfl (hts (.initialized RX1) (List.mem_of_getElem? (i := 7) rfl)) (hts (.methodLink RX3 15 yX1_init) (List.mem_of_getElem? (i := 8) rfl)) (hts (.instanceMethod yX1_init) (List.mem_of_getElem? (i := 9) rfl)) rfl (by decide +kernel) ⟨(Nat.le_of_ble_eq_true rfl), (Nat.le_of_ble_eq_true rfl)⟩) ⟨zPreN.blind, fun U hU hW => zp_N (hP.sub (ws' := [(q3, .inr (1, [.null, .null, .null, .long (zL 0), .long (zL 0), .long (zL 0), .long (zL 0), .long (zL 0), .long (zL 0), .long (zL 0), .long (zL 0), .int (zI 0), .int (zI 0), .int (zI 0), .int (zI 0), .int (zI 0), .int (zI 0), .int (zI 0)]))]) [2] rfl) hK (hD.sub (ws' := [(q3, .inr (1, [.null, .null, .null, .long (zL 0), .long (zL 0), .long (zL 0), .long (zL 0), .long (zL 0), .long (zL 0), .long (zL 0), .long (zL 0), .int (zI 0), .int (zI 0), .int (zI 0), .int (zI 0), .int (zI 0), .int (zI 0), .int (zI 0)]))]) [2] (by decide) rfl) hN hX hO hS (va_free (wc := [(q3, .inr (1, [.null, .null, .null, .long (zL 0), .long (zL 0), .long (zL 0), .long (zL 0), .long (zL 0), .long (zL 0), .long (zL 0), .long (zL 0), .int (zI 0), .int (zI 0), .int (zI 0), .int (zI 0), .int (zI 0), .int (zI 0), .int (zI 0)]))]) hD hS hA [2] rfl) hU hW⟩ rfl rfl hl.1 rfl (lv_room (Nat.le_of_ble_eq_true rfl)) dX3_init_28 ⟨(Nat.le_of_ble_eq_true rfl), (Nat.le_of_ble_eq_true rfl)⟩) hS hP hD hA [2] [0, 1] rfl rfl (by decide) (by decide) (fun o4 H locs ho9 hP7 hD7 hS7 => ?_)
    refine W.widen (k := 8) (n := 220) (Nat.le_of_ble_eq_true rfl) (Nat.le_of_ble_eq_true rfl) ?_
    subst ho9
    have hP := hP7
    have hD := hD7
    have hS := hS7
    have hP : va_P D vwCl ([(a0, .inr (3, [.ref q1, .int (zI 0)])), (q1, .inl (cs 3, 4, .inr (.inr (.inr (.inr (fun _ => none))))))] ++ zbat cs (o4 0) (zNew zI0 7200000)) H := hP.sub (ws' := [(a0, .inr (3, [.ref q1, .int (zI 0)])), (q1, .inl (cs 3, 4, .inr (.inr (.inr (.inr (fun _ => none))))))] ++ zbat cs (o4 0) (zNew zI0 7200000)) [0, 1, 2, 3, 4, 5, 6, 7, 8] rfl
    have hD : va_D A0 ([(a0, .inr (3, [.ref q1, .int (zI 0)])), (q1, .inl (cs 3, 4, .inr (.inr (.inr (.inr (fun _ => none))))))] ++ zbat cs (o4 0) (zNew zI0 7200000)) := hD.sub (ws' := [(a0, .inr (3, [.ref q1, .int (zI 0)])), (q1, .inl (cs 3, 4, .inr (.inr (.inr (.inr (fun _ => none))))))] ++ zbat cs (o4 0) (zNew zI0 7200000)) [0, 1, 2, 3, 4, 5, 6, 7, 8] (by decide) rfl
    refine zr_aast (D := D) (ci := 1) (g := (va_up (fun _ => none) (0 : Int).toNat (some ((o4 0) 0)))) hx hb hK hP hD hS 1 3 2 rfl rfl rfl (r := (RX1, TX1, 18)) rfl (by decide) (by decide) rfl dX3_init_31 (fun H locs hP hD hS => ?_)
    have hP : va_P D vwCl ([(a0, .inr (3, [.ref q1, .int (zI 0)])), (q1, .inl (cs 3, 4, .inr (.inr (.inr (.inr (va_up (fun _ => none) (0 : Int).toNat (some ((o4 0) 0))))))))] ++ zbat cs (o4 0) (zNew zI0 7200000)) H := hP
    have hD : va_D A0 ([(a0, .inr (3, [.ref q1, .int (zI 0)])), (q1, .inl (cs 3, 4, .inr (.inr (.inr (.inr (va_up (fun _ => none) (0 : Int).toNat (some ((o4 0) 0))))))))] ++ zbat cs (o4 0) (zNew zI0 7200000)) := hD
    refine zr_iinc (kk := 0) (lv' := [(1, .int (zI 1)), (0, .ref a0)]) hx hb dX3_init_32 hl rfl (by decide) rfl (fun ls hl => ?_)
    refine lv_goto (tgt := 14) hx hb dX3_init_35 (by decide) ?_
    refine lv_iload_n hx hb dX3_init_14 rfl (lv_at hl 0 rfl) ?_
    refine zr_iconst hx hb dX3_init_15 ?_
    refine zr_icmp_ge (tgt := 38) hx hb dX3_init_16 (by decide) (by decide) (by decide) (fun c5 => ?_) (fun c5 => ?_)
    · exact absurd c5 (by decide)
    · refine lv_aload_n hx hb dX3_init_19 rfl (lv_at hl 1 rfl) ?_
      refine va_get (D := D) (ci := 3) (v := .ref q1) (C := RX3) (T := TX3) (N := 2) hx hb hts hiX3 hown hK hP 0 rfl rfl 0 (by decide) (hts (.fieldLink RX3 11 "ChargeEstimator$History" "states" "[LChargeEstimator$Battery;") (List.mem_of_getElem? (i := 5) rfl)) (fun _ h9 => h9) rfl dX3_init_20 ?_
      refine lv_iload_n hx hb dX3_init_23 rfl (lv_at hl 0 rfl) ?_
      refine va_new (D := D) (ci := 1) (fs := [.null, .null, .null, .long (zL 0), .long (zL 0), .long (zL 0), .long (zL 0), .long (zL 0), .long (zL 0), .long (zL 0), .long (zL 0), .int (zI 0), .int (zI 0), .int (zI 0), .int (zI 0), .int (zI 0), .int (zI 0), .int (zI 0)]) (C := RX1) (T := TX1) (N := 18) hx hb hts hiX1 tyX1 tyX1_ok hown (hts (.classLink RX3 9 RX1) (List.mem_of_getElem? (i := 4) rfl)) (hts (.instantiable RX1 18) (List.mem_of_getElem? (i := 6) rfl)) (hts (.initialized RX1) (List.mem_of_getElem? (i := 7) rfl)) hK hP hD hS hA rfl (fun j hj => by rcases (show j = 0 ∨ j = 1 ∨ j = 2 ∨ j = 3 ∨ j = 4 ∨ j = 5 ∨ j = 6 ∨ j = 7 ∨ j = 8 ∨ j = 9 ∨ j = 10 ∨ j = 11 ∨ j = 12 ∨ j = 13 ∨ j = 14 ∨ j = 15 ∨ j = 16 ∨ j = 17 by omega) with rfl | rfl | rfl | rfl | rfl | rfl | rfl | rfl | rfl | rfl | rfl | rfl | rfl | rfl | rfl | rfl | rfl | rfl <;> rfl) (Nat.le_of_ble_eq_true rfl) (Nat.le_of_ble_eq_true rfl) dX3_init_24 (fun q6 H hP hD hS => ?_)
      refine W.widen (k := 9) (n := 238) (Nat.le_of_ble_eq_true rfl) (Nat.le_of_ble_eq_true rfl) ?_
      have hP : va_P D vwCl ([(a0, .inr (3, [.ref q1, .int (zI 0)])), (q1, .inl (cs 3, 4, .inr (.inr (.inr (.inr (va_up (fun _ => none) (0 : Int).toNat (some ((o4 0) 0))))))))] ++ (zbat cs (o4 0) (zNew zI0 7200000) ++ [(q6, .inr (1, [.null, .null, .null, .long (zL 0), .long (zL 0), .long (zL 0), .long (zL 0), .long (zL 0), .long (zL 0), .long (zL 0), .long (zL 0), .int (zI 0), .int (zI 0), .int (zI 0), .int (zI 0), .int (zI 0), .int (zI 0), .int (zI 0)]))])) H := hP
      have hD : va_D A0 ([(a0, .inr (3, [.ref q1, .int (zI 0)])), (q1, .inl (cs 3, 4, .inr (.inr (.inr (.inr (va_up (fun _ => none) (0 : Int).toNat (some ((o4 0) 0))))))))] ++ (zbat cs (o4 0) (zNew zI0 7200000) ++ [(q6, .inr (1, [.null, .null, .null, .long (zL 0), .long (zL 0), .long (zL 0), .long (zL 0), .long (zL 0), .long (zL 0), .long (zL 0), .long (zL 0), .int (zI 0), .int (zI 0), .int (zI 0), .int (zI 0), .int (zI 0), .int (zI 0), .int (zI 0)]))])) := hD
      refine lv_dup hx hb dX3_init_27 rfl ?_
      refine zc_n (w := [(q6, .inr (1, [.null, .null, .null, .long (zL 0), .long (zL 0), .long (zL 0), .long (zL 0), .long (zL 0), .long (zL 0), .long (zL 0), .long (zL 0), .int (zI 0), .int (zI 0), .int (zI 0), .int (zI 0), .int (zI 0), .int (zI 0), .int (zI 0)]))]) (wr := [(a0, .inr (3, [.ref q1, .int (zI 0)])), (q1, .inl (cs 3, 4, .inr (.inr (.inr (.inr (va_up (fun _ => none) (0 : Int).toNat (some ((o4 0) 0))))))))] ++ zbat cs (o4 0) (zNew zI0 7200000)) (w2 := fun o7 => zbat cs (o7 0) (zNew zI0 7200000)) (va_runI (As := []) (rest := [.ref q6, .int (zI 1), .ref q1]) ⟨hx, hb, hml, hown, hts⟩ (met_X1_init l D cs q6 H.size) (cwI 0 hts gX3_init_X1_init rfl rfl rfl (hts (.initialized RX1) (List.mem_of_getElem? (i := 7) rfl)) (hts (.methodLink RX3 15 yX1_init) (List.mem_of_getElem? (i := 8) rfl)) (hts (.instanceMethod yX1_init) (List.mem_of_getElem? (i := 9) rfl)) rfl (by decide +kernel) ⟨(Nat.le_of_ble_eq_true rfl), (Nat.le_of_ble_eq_true rfl)⟩) ⟨zPreN.blind, fun U hU hW => zp_N (hP.sub (ws' := [(q6, .inr (1, [.null, .null, .null, .long (zL 0), .long (zL 0), .long (zL 0), .long (zL 0), .long (zL 0), .long (zL 0), .long (zL 0), .long (zL 0), .int (zI 0), .int (zI 0), .int (zI 0), .int (zI 0), .int (zI 0), .int (zI 0), .int (zI 0)]))]) [9] rfl) hK (hD.sub (ws' := [(q6, .inr (1, [.null, .null, .null, .long (zL 0), .long (zL 0), .long (zL 0), .long (zL 0), .long (zL 0), .long (zL 0), .long (zL 0), .long (zL 0), .int (zI 0), .int (zI 0), .int (zI 0), .int (zI 0), .int (zI 0), .int (zI 0), .int (zI 0)]))]) [9] (by decide) rfl) hN hX hO hS (va_free (wc := [(q6, .inr (1, [.null, .null, .null, .long (zL 0), .long (zL 0), .long (zL 0), .long (zL 0), .long (zL 0), .long (zL 0), .long (zL 0), .long (zL 0), .int (zI 0), .int (zI 0), .int (zI 0), .int (zI 0), .int (zI 0), .int (zI 0), .int (zI 0)]))]) hD hS hA [9] rfl) hU hW⟩ rfl rfl hl.1 rfl (lv_room (Nat.le_of_ble_eq_true rfl)) dX3_init_28 ⟨(Nat.le_of_ble_eq_true rfl), (Nat.le_of_ble_eq_true rfl)⟩) hS hP hD hA [9] [0, 1, 2, 3, 4, 5, 6, 7, 8] rfl rfl (by decide) (by decide) (fun o7 H locs ho9 hP7 hD7 hS7 => ?_)
      refine W.widen (k := 15) (n := 436) (Nat.le_of_ble_eq_true rfl) (Nat.le_of_ble_eq_true rfl) ?_
      subst ho9
      have hP := hP7
      have hD := hD7
      have hS := hS7
      have hP : va_P D vwCl ([(a0, .inr (3, [.ref q1, .int (zI 0)])), (q1, .inl (cs 3, 4, .inr (.inr (.inr (.inr (va_up (fun _ => none) (0 : Int).toNat (some ((o4 0) 0))))))))] ++ (zbat cs (o4 0) (zNew zI0 7200000) ++ zbat cs (o7 0) (zNew zI0 7200000))) H := hP.sub (ws' := [(a0, .inr (3, [.ref q1, .int (zI 0)])), (q1, .inl (cs 3, 4, .inr (.inr (.inr (.inr (va_up (fun _ => none) (0 : Int).toNat (some ((o4 0) 0))))))))] ++ (zbat cs (o4 0) (zNew zI0 7200000) ++ zbat cs (o7 0) (zNew zI0 7200000))) [0, 1, 2, 3, 4, 5, 6, 7, 8, 9, 10, 11, 12, 13, 14, 15] rfl
      have hD : va_D A0 ([(a0, .inr (3, [.ref q1, .int (zI 0)])), (q1, .inl (cs 3, 4, .inr (.inr (.inr (.inr (va_up (fun _ => none) (0 : Int).toNat (some ((o4 0) 0))))))))] ++ (zbat cs (o4 0) (zNew zI0 7200000) ++ zbat cs (o7 0) (zNew zI0 7200000))) := hD.sub (ws' := [(a0, .inr (3, [.ref q1, .int (zI 0)])), (q1, .inl (cs 3, 4, .inr (.inr (.inr (.inr (va_up (fun _ => none) (0 : Int).toNat (some ((o4 0) 0))))))))] ++ (zbat cs (o4 0) (zNew zI0 7200000) ++ zbat cs (o7 0) (zNew zI0 7200000))) [0, 1, 2, 3, 4, 5, 6, 7, 8, 9, 10, 11, 12, 13, 14, 15] (by decide) rfl
      refine zr_aast (D := D) (ci := 1) (g := (va_up (va_up (fun _ => none) (0 : Int).toNat (some ((o4 0) 0))) (1 : Int).toNat (some ((o7 0) 0)))) hx hb hK hP hD hS 1 3 9 rfl rfl rfl (r := (RX1, TX1, 18)) rfl (by decide) (by decide) rfl dX3_init_31 (fun H locs hP hD hS => ?_)
      have hP : va_P D vwCl ([(a0, .inr (3, [.ref q1, .int (zI 0)])), (q1, .inl (cs 3, 4, .inr (.inr (.inr (.inr (va_up (va_up (fun _ => none) (0 : Int).toNat (some ((o4 0) 0))) (1 : Int).toNat (some ((o7 0) 0))))))))] ++ (zbat cs (o4 0) (zNew zI0 7200000) ++ zbat cs (o7 0) (zNew zI0 7200000))) H := hP
      have hD : va_D A0 ([(a0, .inr (3, [.ref q1, .int (zI 0)])), (q1, .inl (cs 3, 4, .inr (.inr (.inr (.inr (va_up (va_up (fun _ => none) (0 : Int).toNat (some ((o4 0) 0))) (1 : Int).toNat (some ((o7 0) 0))))))))] ++ (zbat cs (o4 0) (zNew zI0 7200000) ++ zbat cs (o7 0) (zNew zI0 7200000))) := hD
      refine zr_iinc (kk := 0) (lv' := [(1, .int (zI 2)), (0, .ref a0)]) hx hb dX3_init_32 hl rfl (by decide) rfl (fun ls hl => ?_)
      refine lv_goto (tgt := 14) hx hb dX3_init_35 (by decide) ?_
      refine lv_iload_n hx hb dX3_init_14 rfl (lv_at hl 0 rfl) ?_
      refine zr_iconst hx hb dX3_init_15 ?_
      refine zr_icmp_ge (tgt := 38) hx hb dX3_init_16 (by decide) (by decide) (by decide) (fun c8 => ?_) (fun c8 => ?_)
      · exact absurd c8 (by decide)
      · refine lv_aload_n hx hb dX3_init_19 rfl (lv_at hl 1 rfl) ?_
        refine va_get (D := D) (ci := 3) (v := .ref q1) (C := RX3) (T := TX3) (N := 2) hx hb hts hiX3 hown hK hP 0 rfl rfl 0 (by decide) (hts (.fieldLink RX3 11 "ChargeEstimator$History" "states" "[LChargeEstimator$Battery;") (List.mem_of_getElem? (i := 5) rfl)) (fun _ h9 => h9) rfl dX3_init_20 ?_
        refine lv_iload_n hx hb dX3_init_23 rfl (lv_at hl 0 rfl) ?_
        refine va_new (D := D) (ci := 1) (fs := [.null, .null, .null, .long (zL 0), .long (zL 0), .long (zL 0), .long (zL 0), .long (zL 0), .long (zL 0), .long (zL 0), .long (zL 0), .int (zI 0), .int (zI 0), .int (zI 0), .int (zI 0), .int (zI 0), .int (zI 0), .int (zI 0)]) (C := RX1) (T := TX1) (N := 18) hx hb hts hiX1 tyX1 tyX1_ok hown (hts (.classLink RX3 9 RX1) (List.mem_of_getElem? (i := 4) rfl)) (hts (.instantiable RX1 18) (List.mem_of_getElem? (i := 6) rfl)) (hts (.initialized RX1) (List.mem_of_getElem? (i := 7) rfl)) hK hP hD hS hA rfl (fun j hj => by rcases (show j = 0 ∨ j = 1 ∨ j = 2 ∨ j = 3 ∨ j = 4 ∨ j = 5 ∨ j = 6 ∨ j = 7 ∨ j = 8 ∨ j = 9 ∨ j = 10 ∨ j = 11 ∨ j = 12 ∨ j = 13 ∨ j = 14 ∨ j = 15 ∨ j = 16 ∨ j = 17 by omega) with rfl | rfl | rfl | rfl | rfl | rfl | rfl | rfl | rfl | rfl | rfl | rfl | rfl | rfl | rfl | rfl | rfl | rfl <;> rfl) (Nat.le_of_ble_eq_true rfl) (Nat.le_of_ble_eq_true rfl) dX3_init_24 (fun q9 H hP hD hS => ?_)
        refine W.widen (k := 16) (n := 454) (Nat.le_of_ble_eq_true rfl) (Nat.le_of_ble_eq_true rfl) ?_
        have hP : va_P D vwCl ([(a0, .inr (3, [.ref q1, .int (zI 0)])), (q1, .inl (cs 3, 4, .inr (.inr (.inr (.inr (va_up (va_up (fun _ => none) (0 : Int).toNat (some ((o4 0) 0))) (1 : Int).toNat (some ((o7 0) 0))))))))] ++ (zbat cs (o4 0) (zNew zI0 7200000) ++ (zbat cs (o7 0) (zNew zI0 7200000) ++ [(q9, .inr (1, [.null, .null, .null, .long (zL 0), .long (zL 0), .long (zL 0), .long (zL 0), .long (zL 0), .long (zL 0), .long (zL 0), .long (zL 0), .int (zI 0), .int (zI 0), .int (zI 0), .int (zI 0), .int (zI 0), .int (zI 0), .int (zI 0)]))]))) H := hP
        have hD : va_D A0 ([(a0, .inr (3, [.ref q1, .int (zI 0)])), (q1, .inl (cs 3, 4, .inr (.inr (.inr (.inr (va_up (va_up (fun _ => none) (0 : Int).toNat (some ((o4 0) 0))) (1 : Int).toNat (some ((o7 0) 0))))))))] ++ (zbat cs (o4 0) (zNew zI0 7200000) ++ (zbat cs (o7 0) (zNew zI0 7200000) ++ [(q9, .inr (1, [.null, .null, .null, .long (zL 0), .long (zL 0), .long (zL 0), .long (zL 0), .long (zL 0), .long (zL 0), .long (zL 0), .long (zL 0), .int (zI 0), .int (zI 0), .int (zI 0), .int (zI 0), .int (zI 0), .int (zI 0), .int (zI 0)]))]))) := hD
        refine lv_dup hx hb dX3_init_27 rfl ?_
        refine zc_n (w := [(q9, .inr (1, [.null, .null, .null, .long (zL 0), .long (zL 0), .long (zL 0), .long (zL 0), .long (zL 0), .long (zL 0), .long (zL 0), .long (zL 0), .int (zI 0), .int (zI 0), .int (zI 0), .int (zI 0), .int (zI 0), .int (zI 0), .int (zI 0)]))]) (wr := [(a0, .inr (3, [.ref q1, .int (zI 0)])), (q1, .inl (cs 3, 4, .inr (.inr (.inr (.inr (va_up (va_up (fun _ => none) (0 : Int).toNat (some ((o4 0) 0))) (1 : Int).toNat (some ((o7 0) 0))))))))] ++ (zbat cs (o4 0) (zNew zI0 7200000) ++ zbat cs (o7 0) (zNew zI0 7200000))) (w2 := fun o10 => zbat cs (o10 0) (zNew zI0 7200000)) (va_runI (As := []) (rest := [.ref q9, .int (zI 2), .ref q1]) ⟨hx, hb, hml, hown, hts⟩ (met_X1_init l D cs q9 H.size) (cwI 0 hts gX3_init_X1_init rfl rfl rfl (hts (.initialized RX1) (List.mem_of_getElem? (i := 7) rfl)) (hts (.methodLink RX3 15 yX1_init) (List.mem_of_getElem? (i := 8) rfl)) (hts (.instanceMethod yX1_init) (List.mem_of_getElem? (i := 9) rfl)) rfl (by decide +kernel) ⟨(Nat.le_of_ble_eq_true rfl), (Nat.le_of_ble_eq_true rfl)⟩) ⟨zPreN.blind, fun U hU hW => zp_N (hP.sub (ws' := [(q9, .inr (1, [.null, .null, .null, .long (zL 0), .long (zL 0), .long (zL 0), .long (zL 0), .long (zL 0), .long (zL 0), .long (zL 0), .long (zL 0), .int (zI 0), .int (zI 0), .int (zI 0), .int (zI 0), .int (zI 0), .int (zI 0), .int (zI 0)]))]) [16] rfl) hK (hD.sub (ws' := [(q9, .inr (1, [.null, .null, .null, .long (zL 0), .long (zL 0), .long (zL 0), .long (zL 0), .long (zL 0), .long (zL 0), .long (zL 0), .long (zL 0), .int (zI 0), .int (zI 0), .int (zI 0), .int (zI 0), .int (zI 0), .int (zI 0), .int (zI 0)]))]) [16] (by decide) rfl) hN hX hO hS (va_free (wc := [(q9, .inr (1, [.null, .null, .null, .long (zL 0), .long (zL 0), .long (zL 0), .long (zL 0), .long (zL 0), .long (zL 0), .long (zL 0), .long (zL 0), .int (zI 0), .int (zI 0), .int (zI 0), .int (zI 0), .int (zI 0), .int (zI 0), .int (zI 0)]))]) hD hS hA [16] rfl) hU hW⟩ rfl rfl hl.1 rfl (lv_room (Nat.le_of_ble_eq_true rfl)) dX3_init_28 ⟨(Nat.le_of_ble_eq_true rfl), (Nat.le_of_ble_eq_true rfl)⟩) hS hP hD hA [16] [0, 1, 2, 3, 4, 5, 6, 7, 8, 9, 10, 11, 12, 13, 14, 15] rfl rfl (by decide) (by decide) (fun o10 H locs ho9 hP7 hD7 hS7 => ?_)
        refine W.widen (k := 22) (n := 652) (Nat.le_of_ble_eq_true rfl) (Nat.le_of_ble_eq_true rfl) ?_
        subst ho9
        have hP := hP7
        have hD := hD7
        have hS := hS7
        have hP : va_P D vwCl ([(a0, .inr (3, [.ref q1, .int (zI 0)])), (q1, .inl (cs 3, 4, .inr (.inr (.inr (.inr (va_up (va_up (fun _ => none) (0 : Int).toNat (some ((o4 0) 0))) (1 : Int).toNat (some ((o7 0) 0))))))))] ++ (zbat cs (o4 0) (zNew zI0 7200000) ++ (zbat cs (o7 0) (zNew zI0 7200000) ++ zbat cs (o10 0) (zNew zI0 7200000)))) H := hP.sub (ws' := [(a0, .inr (3, [.ref q1, .int (zI 0)])), (q1, .inl (cs 3, 4, .inr (.inr (.inr (.inr (va_up (va_up (fun _ => none) (0 : Int).toNat (some ((o4 0) 0))) (1 : Int).toNat (some ((o7 0) 0))))))))] ++ (zbat cs (o4 0) (zNew zI0 7200000) ++ (zbat cs (o7 0) (zNew zI0 7200000) ++ zbat cs (o10 0) (zNew zI0 7200000)))) [0, 1, 2, 3, 4, 5, 6, 7, 8, 9, 10, 11, 12, 13, 14, 15, 16, 17, 18, 19, 20, 21, 22] rfl
        have hD : va_D A0 ([(a0, .inr (3, [.ref q1, .int (zI 0)])), (q1, .inl (cs 3, 4, .inr (.inr (.inr (.inr (va_up (va_up (fun _ => none) (0 : Int).toNat (some ((o4 0) 0))) (1 : Int).toNat (some ((o7 0) 0))))))))] ++ (zbat cs (o4 0) (zNew zI0 7200000) ++ (zbat cs (o7 0) (zNew zI0 7200000) ++ zbat cs (o10 0) (zNew zI0 7200000)))) := hD.sub (ws' := [(a0, .inr (3, [.ref q1, .int (zI 0)])), (q1, .inl (cs 3, 4, .inr (.inr (.inr (.inr (va_up (va_up (fun _ => none) (0 : Int).toNat (some ((o4 0) 0))) (1 : Int).toNat (some ((o7 0) 0))))))))] ++ (zbat cs (o4 0) (zNew zI0 7200000) ++ (zbat cs (o7 0) (zNew zI0 7200000) ++ zbat cs (o10 0) (zNew zI0 7200000)))) [0, 1, 2, 3, 4, 5, 6, 7, 8, 9, 10, 11, 12, 13, 14, 15, 16, 17, 18, 19, 20, 21, 22] (by decide) rfl
        refine zr_aast (D := D) (ci := 1) (g := (va_up (va_up (va_up (fun _ => none) (0 : Int).toNat (some ((o4 0) 0))) (1 : Int).toNat (some ((o7 0) 0))) (2 : Int).toNat (some ((o10 0) 0)))) hx hb hK hP hD hS 1 3 16 rfl rfl rfl (r := (RX1, TX1, 18)) rfl (by decide) (by decide) rfl dX3_init_31 (fun H locs hP hD hS => ?_)
        have hP : va_P D vwCl ([(a0, .inr (3, [.ref q1, .int (zI 0)])), (q1, .inl (cs 3, 4, .inr (.inr (.inr (.inr (va_up (va_up (va_up (fun _ => none) (0 : Int).toNat (some ((o4 0) 0))) (1 : Int).toNat (some ((o7 0) 0))) (2 : Int).toNat (some ((o10 0) 0))))))))] ++ (zbat cs (o4 0) (zNew zI0 7200000) ++ (zbat cs (o7 0) (zNew zI0 7200000) ++ zbat cs (o10 0) (zNew zI0 7200000)))) H := hP
        have hD : va_D A0 ([(a0, .inr (3, [.ref q1, .int (zI 0)])), (q1, .inl (cs 3, 4, .inr (.inr (.inr (.inr (va_up (va_up (va_up (fun _ => none) (0 : Int).toNat (some ((o4 0) 0))) (1 : Int).toNat (some ((o7 0) 0))) (2 : Int).toNat (some ((o10 0) 0))))))))] ++ (zbat cs (o4 0) (zNew zI0 7200000) ++ (zbat cs (o7 0) (zNew zI0 7200000) ++ zbat cs (o10 0) (zNew zI0 7200000)))) := hD
        refine zr_iinc (kk := 0) (lv' := [(1, .int (zI 3)), (0, .ref a0)]) hx hb dX3_init_32 hl rfl (by decide) rfl (fun ls hl => ?_)
        refine lv_goto (tgt := 14) hx hb dX3_init_35 (by decide) ?_
        refine lv_iload_n hx hb dX3_init_14 rfl (lv_at hl 0 rfl) ?_
        refine zr_iconst hx hb dX3_init_15 ?_
        refine zr_icmp_ge (tgt := 38) hx hb dX3_init_16 (by decide) (by decide) (by decide) (fun c11 => ?_) (fun c11 => ?_)
        · exact absurd c11 (by decide)
        · refine lv_aload_n hx hb dX3_init_19 rfl (lv_at hl 1 rfl) ?_
          refine va_get (D := D) (ci := 3) (v := .ref q1) (C := RX3) (T := TX3) (N := 2) hx hb hts hiX3 hown hK hP 0 rfl rfl 0 (by decide) (hts (.fieldLink RX3 11 "ChargeEstimator$History" "states" "[LChargeEstimator$Battery;") (List.mem_of_getElem? (i := 5) rfl)) (fun _ h9 => h9) rfl dX3_init_20 ?_
          refine lv_iload_n hx hb dX3_init_23 rfl (lv_at hl 0 rfl) ?_
          refine va_new (D := D) (ci := 1) (fs := [.null, .null, .null, .long (zL 0), .long (zL 0), .long (zL 0), .long (zL 0), .long (zL 0), .long (zL 0), .long (zL 0), .long (zL 0), .int (zI 0), .int (zI 0), .int (zI 0), .int (zI 0), .int (zI 0), .int (zI 0), .int (zI 0)]) (C := RX1) (T := TX1) (N := 18) hx hb hts hiX1 tyX1 tyX1_ok hown (hts (.classLink RX3 9 RX1) (List.mem_of_getElem? (i := 4) rfl)) (hts (.instantiable RX1 18) (List.mem_of_getElem? (i := 6) rfl)) (hts (.initialized RX1) (List.mem_of_getElem? (i := 7) rfl)) hK hP hD hS hA rfl (fun j hj => by rcases (show j = 0 ∨ j = 1 ∨ j = 2 ∨ j = 3 ∨ j = 4 ∨ j = 5 ∨ j = 6 ∨ j = 7 ∨ j = 8 ∨ j = 9 ∨ j = 10 ∨ j = 11 ∨ j = 12 ∨ j = 13 ∨ j = 14 ∨ j = 15 ∨ j = 16 ∨ j = 17 by omega) with rfl | rfl | rfl | rfl | rfl | rfl | rfl | rfl | rfl | rfl | rfl | rfl | rfl | rfl | rfl | rfl | rfl | rfl <;> rfl) (Nat.le_of_ble_eq_true rfl) (Nat.le_of_ble_eq_true rfl) dX3_init_24 (fun q12 H hP hD hS => ?_)
          refine W.widen (k := 23) (n := 670) (Nat.le_of_ble_eq_true rfl) (Nat.le_of_ble_eq_true rfl) ?_
          have hP : va_P D vwCl ([(a0, .inr (3, [.ref q1, .int (zI 0)])), (q1, .inl (cs 3, 4, .inr (.inr (.inr (.inr (va_up (va_up (va_up (fun _ => none) (0 : Int).toNat (some ((o4 0) 0))) (1 : Int).toNat (some ((o7 0) 0))) (2 : Int).toNat (some ((o10 0) 0))))))))] ++ (zbat cs (o4 0) (zNew zI0 7200000) ++ (zbat cs (o7 0) (zNew zI0 7200000) ++ (zbat cs (o10 0) (zNew zI0 7200000) ++ [(q12, .inr (1, [.null, .null, .null, .long (zL 0), .long (zL 0), .long (zL 0), .long (zL 0), .long (zL 0), .long (zL 0), .long (zL 0), .long (zL 0), .int (zI 0), .int (zI 0), .int (zI 0), .int (zI 0), .int (zI 0), .int (zI 0), .int (zI 0)]))])))) H := hP
          have hD : va_D A0 ([(a0, .inr (3, [.ref q1, .int (zI 0)])), (q1, .inl (cs 3, 4, .inr (.inr (.inr (.inr (va_up (va_up (va_up (fun _ => none) (0 : Int).toNat (some ((o4 0) 0))) (1 : Int).toNat (some ((o7 0) 0))) (2 : Int).toNat (some ((o10 0) 0))))))))] ++ (zbat cs (o4 0) (zNew zI0 7200000) ++ (zbat cs (o7 0) (zNew zI0 7200000) ++ (zbat cs (o10 0) (zNew zI0 7200000) ++ [(q12, .inr (1, [.null, .null, .null, .long (zL 0), .long (zL 0), .long (zL 0), .long (zL 0), .long (zL 0), .long (zL 0), .long (zL 0), .long (zL 0), .int (zI 0), .int (zI 0), .int (zI 0), .int (zI 0), .int (zI 0), .int (zI 0), .int (zI 0)]))])))) := hD
          refine lv_dup hx hb dX3_init_27 rfl ?_
          refine zc_n (w := [(q12, .inr (1, [.null, .null, .null, .long (zL 0), .long (zL 0), .long (zL 0), .long (zL 0), .long (zL 0), .long (zL 0), .long (zL 0), .long (zL 0), .int (zI 0), .int (zI 0), .int (zI 0), .int (zI 0), .int (zI 0), .int (zI 0), .int (zI 0)]))]) (wr := [(a0, .inr (3, [.ref q1, .int (zI 0)])), (q1, .inl (cs 3, 4, .inr (.inr (.inr (.inr (va_up (va_up (va_up (fun _ => none) (0 : Int).toNat (some ((o4 0) 0))) (1 : Int).toNat (some ((o7 0) 0))) (2 : Int).toNat (some ((o10 0) 0))))))))] ++ (zbat cs (o4 0) (zNew zI0 7200000) ++ (zbat cs (o7 0) (zNew zI0 7200000) ++ zbat cs (o10 0) (zNew zI0 7200000)))) (w2 := fun o13 => zbat cs (o13 0) (zNew zI0 7200000)) (va_runI (As := []) (rest := [.ref q12, .int (zI 3), .ref q1]) ⟨hx, hb, hml, hown, hts⟩ (met_X1_init l D cs q12 H.size) (cwI 0 hts gX3_init_X1_init rfl rfl rfl (hts (.initialized RX1) (List.mem_of_getElem? (i := 7) rfl)) (hts (.methodLink RX3 15 yX1_init) (List.mem_of_getElem? (i := 8) rfl)) (hts (.instanceMethod yX1_init) (List.mem_of_getElem? (i := 9) rfl)) rfl (by decide +kernel) ⟨(Nat.le_of_ble_eq_true rfl), (Nat.le_of_ble_eq_true rfl)⟩) ⟨zPreN.blind, fun U hU hW => zp_N (hP.sub (ws' := [(q12, .inr (1, [.null, .null, .null, .long (zL 0), .long (zL 0), .long (zL 0), .long (zL 0), .long (zL 0), .long (zL 0), .long (zL 0), .long (zL 0), .int (zI 0), .int (zI 0), .int (zI 0), .int (zI 0), .int (zI 0), .int (zI 0), .int (zI 0)]))]) [23] rfl) hK (hD.sub (ws' := [(q12, .inr (1, [.null, .null, .null, .long (zL 0), .long (zL 0), .long (zL 0), .long (zL 0), .long (zL 0), .long (zL 0), .long (zL 0), .long (zL 0), .int (zI 0), .int (zI 0), .int (zI 0), .int (zI 0), .int (zI 0), .int (zI 0), .int (zI 0)]))]) [23] (by decide) rfl) hN hX hO hS (va_free (wc := [(q12, .inr (1, [.null, .null, .null, .long (zL 0), .long (zL 0), .long (zL 0), .long (zL 0), .long (zL 0), .long (zL 0), .long (zL 0), .long (zL 0), .int (zI 0), .int (zI 0), .int (zI 0), .int (zI 0), .int (zI 0), .int (zI 0), .int (zI 0)]))]) hD hS hA [23] rfl) hU hW⟩ rfl rfl hl.1 rfl (lv_room (Nat.le_of_ble_eq_true rfl)) dX3_init_28 ⟨(Nat.le_of_ble_eq_true rfl), (Nat.le_of_ble_eq_true rfl)⟩) hS hP hD hA [23] [0, 1, 2, 3, 4, 5, 6, 7, 8, 9, 10, 11, 12, 13, 14, 15, 16, 17, 18, 19, 20, 21, 22] rfl rfl (by decide) (by decide) (fun o13 H locs ho9 hP7 hD7 hS7 => ?_)
          refine W.widen (k := 29) (n := 868) (Nat.le_of_ble_eq_true rfl) (Nat.le_of_ble_eq_true rfl) ?_
          subst ho9
          have hP := hP7
          have hD := hD7
          have hS := hS7
          have hP : va_P D vwCl ([(a0, .inr (3, [.ref q1, .int (zI 0)])), (q1, .inl (cs 3, 4, .inr (.inr (.inr (.inr (va_up (va_up (va_up (fun _ => none) (0 : Int).toNat (some ((o4 0) 0))) (1 : Int).toNat (some ((o7 0) 0))) (2 : Int).toNat (some ((o10 0) 0))))))))] ++ (zbat cs (o4 0) (zNew zI0 7200000) ++ (zbat cs (o7 0) (zNew zI0 7200000) ++ (zbat cs (o10 0) (zNew zI0 7200000) ++ zbat cs (o13 0) (zNew zI0 7200000))))) H := hP.sub (ws' := [(a0, .inr (3, [.ref q1, .int (zI 0)])), (q1, .inl (cs 3, 4, .inr (.inr (.inr (.inr (va_up (va_up (va_up (fun _ => none) (0 : Int).toNat (some ((o4 0) 0))) (1 : Int).toNat (some ((o7 0) 0))) (2 : Int).toNat (some ((o10 0) 0))))))))] ++ (zbat cs (o4 0) (zNew zI0 7200000) ++ (zbat cs (o7 0) (zNew zI0 7200000) ++ (zbat cs (o10 0) (zNew zI0 7200000) ++ zbat cs (o13 0) (zNew zI0 7200000))))) [0, 1, 2, 3, 4, 5, 6, 7, 8, 9, 10, 11, 12, 13, 14, 15, 16, 17, 18, 19, 20, 21, 22, 23, 24, 25, 26, 27, 28, 29] rfl
          have hD : va_D A0 ([(a0, .inr (3, [.ref q1, .int (zI 0)])), (q1, .inl (cs 3, 4, .inr (.inr (.inr (.inr (va_up (va_up (va_up (fun _ => none) (0 : Int).toNat (some ((o4 0) 0))) (1 : Int).toNat (some ((o7 0) 0))) (2 : Int).toNat (some ((o10 0) 0))))))))] ++ (zbat cs (o4 0) (zNew zI0 7200000) ++ (zbat cs (o7 0) (zNew zI0 7200000) ++ (zbat cs (o10 0) (zNew zI0 7200000) ++ zbat cs (o13 0) (zNew zI0 7200000))))) := hD.sub (ws' := [(a0, .inr (3, [.ref q1, .int (zI 0)])), (q1, .inl (cs 3, 4, .inr (.inr (.inr (.inr (va_up (va_up (va_up (fun _ => none) (0 : Int).toNat (some ((o4 0) 0))) (1 : Int).toNat (some ((o7 0) 0))) (2 : Int).toNat (some ((o10 0) 0))))))))] ++ (zbat cs (o4 0) (zNew zI0 7200000) ++ (zbat cs (o7 0) (zNew zI0 7200000) ++ (zbat cs (o10 0) (zNew zI0 7200000) ++ zbat cs (o13 0) (zNew zI0 7200000))))) [0, 1, 2, 3, 4, 5, 6, 7, 8, 9, 10, 11, 12, 13, 14, 15, 16, 17, 18, 19, 20, 21, 22, 23, 24, 25, 26, 27, 28, 29] (by decide) rfl
          refine zr_aast (D := D) (ci := 1) (g := (va_up (va_up (va_up (va_up (fun _ => none) (0 : Int).toNat (some ((o4 0) 0))) (1 : Int).toNat (some ((o7 0) 0))) (2 : Int).toNat (some ((o10 0) 0))) (3 : Int).toNat (some ((o13 0) 0)))) hx hb hK hP hD hS 1 3 23 rfl rfl rfl (r := (RX1, TX1, 18)) rfl (by decide) (by decide) rfl dX3_init_31 (fun H locs hP hD hS => ?_)
          have hP : va_P D vwCl ([(a0, .inr (3, [.ref q1, .int (zI 0)])), (q1, .inl (cs 3, 4, .inr (.inr (.inr (.inr (va_up (va_up (va_up (va_up (fun _ => none) (0 : Int).toNat (some ((o4 0) 0))) (1 : Int).toNat (some ((o7 0) 0))) (2 : Int).toNat (some ((o10 0) 0))) (3 : Int).toNat (some ((o13 0) 0))))))))] ++ (zbat cs (o4 0) (zNew zI0 7200000) ++ (zbat cs (o7 0) (zNew zI0 7200000) ++ (zbat cs (o10 0) (zNew zI0 7200000) ++ zbat cs (o13 0) (zNew zI0 7200000))))) H := hP
          have hD : va_D A0 ([(a0, .inr (3, [.ref q1, .int (zI 0)])), (q1, .inl (cs 3, 4, .inr (.inr (.inr (.inr (va_up (va_up (va_up (va_up (fun _ => none) (0 : Int).toNat (some ((o4 0) 0))) (1 : Int).toNat (some ((o7 0) 0))) (2 : Int).toNat (some ((o10 0) 0))) (3 : Int).toNat (some ((o13 0) 0))))))))] ++ (zbat cs (o4 0) (zNew zI0 7200000) ++ (zbat cs (o7 0) (zNew zI0 7200000) ++ (zbat cs (o10 0) (zNew zI0 7200000) ++ zbat cs (o13 0) (zNew zI0 7200000))))) := hD
          refine zr_iinc (kk := 0) (lv' := [(1, .int (zI 4)), (0, .ref a0)]) hx hb dX3_init_32 hl rfl (by decide) rfl (fun ls hl => ?_)
          refine lv_goto (tgt := 14) hx hb dX3_init_35 (by decide) ?_
          refine lv_iload_n hx hb dX3_init_14 rfl (lv_at hl 0 rfl) ?_
          refine zr_iconst hx hb dX3_init_15 ?_
          refine zr_icmp_ge (tgt := 38) hx hb dX3_init_16 (by decide) (by decide) (by decide) (fun c14 => ?_) (fun c14 => ?_)
          · have hP8 : va_P D vwCl (zhis cs ((fun k => match k with | 0 => zoF [a0, q1] | 1 => o4 0 | 2 => o7 0 | 3 => o10 0 | _ => o13 0) 0) ((fun k => match k with | 0 => zoF [a0, q1] | 1 => o4 0 | 2 => o7 0 | 3 => o10 0 | _ => o13 0) 1) ((fun k => match k with | 0 => zoF [a0, q1] | 1 => o4 0 | 2 => o7 0 | 3 => o10 0 | _ => o13 0) 2) ((fun k => match k with | 0 => zoF [a0, q1] | 1 => o4 0 | 2 => o7 0 | 3 => o10 0 | _ => o13 0) 3) ((fun k => match k with | 0 => zoF [a0, q1] | 1 => o4 0 | 2 => o7 0 | 3 => o10 0 | _ => o13 0) 4) (zNew zI0 7200000) (zNew zI0 7200000) (zNew zI0 7200000) (zNew zI0 7200000) 0) H := by
              obtain ⟨h9, hb9⟩ := zP_app.mp hP
              obtain ⟨h0, h1⟩ := zQ2.mp h9
              exact zP_app.mpr ⟨zQ2.mpr ⟨h0, zat_q h1 (fun k hk => by rcases (show k = 0 ∨ k = 1 ∨ k = 2 ∨ k = 3 by omega) with rfl | rfl | rfl | rfl <;> rfl)⟩, hb9⟩
            have hD8 : va_D A0 (zhis cs ((fun k => match k with | 0 => zoF [a0, q1] | 1 => o4 0 | 2 => o7 0 | 3 => o10 0 | _ => o13 0) 0) ((fun k => match k with | 0 => zoF [a0, q1] | 1 => o4 0 | 2 => o7 0 | 3 => o10 0 | _ => o13 0) 1) ((fun k => match k with | 0 => zoF [a0, q1] | 1 => o4 0 | 2 => o7 0 | 3 => o10 0 | _ => o13 0) 2) ((fun k => match k with | 0 => zoF [a0, q1] | 1 => o4 0 | 2 => o7 0 | 3 => o10 0 | _ => o13 0) 3) ((fun k => match k with | 0 => zoF [a0, q1] | 1 => o4 0 | 2 => o7 0 | 3 => o10 0 | _ => o13 0) 4) (zNew zI0 7200000) (zNew zI0 7200000) (zNew zI0 7200000) (zNew zI0 7200000) 0) := zD_addr hD rfl
            subst hAe
            exact W.vret hx hb hr (fun t ht hW => ⟨⟨(), rfl, trivial, (fun k => match k with | 0 => zoF [a0, q1] | 1 => o4 0 | 2 => o7 0 | 3 => o10 0 | _ => o13 0), rfl, by rw [ht]; exact hP8, hD8⟩, hS.F ht⟩) hS.2.2 dX3_init_38
          · exact absurd c14 (by decide)
abbrev zest (cs : Nat → ClassId) (o : Nat → Nat → Nat) (A T S0 S1 S2 S3 : Int → Int) (xm : Int) (f : Int → Int) (xl : Int) (g : Int → Int) (xk xn xd xe : Int) : va_W := [(o 0 0, .inr (5, [.ref (o 1 0), .ref (o 2 0), .ref (o 3 0), .ref (o 8 0)]))] ++ (zbat cs (o 1) A ++ (zbat cs (o 2) T ++ (zhis cs (o 3) (o 4) (o 5) (o 6) (o 7) S0 S1 S2 S3 xm ++ ztxt cs (o 8) f xl g xk xn xd xe)))
set_option maxHeartbeats 4000000 in
set_option maxRecDepth 100000 in
theorem met_X5_init (l : Launch) (D : va_G) (cs : Nat → ClassId) (a0 : Nat) (sz : Nat) : Met l yX5_init wsX5_init ({ frames := 4, cells := 47, slots := 1489, locals := 83 }) (va_Pc [.ref a0] (zPreN D (zTy cs) ([(a0, .inr (5, [.null, .null, .null, .null]))]) sz)) (zQn D ([(a0, .inr (5, [.null, .null, .null, .null]))]) sz a0 (fun o => zest cs o (zNew zI0 7200000) (zNew zI0 7200000) (zNew zI0 7200000) (zNew zI0 7200000) (zNew zI0 7200000) (zNew zI0 7200000) 0 (fun _ => 0) 0 (fun _ => 0) 0 0 0 0)) 47 1489 (va_A ([(a0, .inr (5, [.null, .null, .null, .null]))]) sz) := by
  refine Met.ofW (cc := cX5_init) (maxL := 1) (ret := none) (by decide) rfl ?_
  intro p e s m args below meth c s₁ B hml hv
  obtain ⟨rfl, ⟨hsz, hP, hK, hD0, hN⟩, hX, hO⟩ := hv
  have hx := B.exec
  have hb := B.bytes
  have hr := B.returns
  have hts := atoms_spec (ws := wsX5_init) B.pre
  have hown : s.vm.findClass RX5 = some m.cls := findClass_of_methodNamed B.named
  have hlocks := B.notSynchronized
  have hin : meth.name = "<init>" := (name_of_methodNamed B.named B.method).1
  subst hsz
  obtain ⟨A0, hAe⟩ : ∃ A0, A0 = va_A ([(a0, .inr (5, [.null, .null, .null, .null]))]) s.heap.size := ⟨_, rfl⟩
  have hD := hD0.self (sz := s.heap.size)
  rw [← hAe] at hD hX
  have hA : ∀ q : Nat, s.heap.size ≤ q → A0 q := fun q h => by rw [hAe]; exact Or.inr h
  have hS : va_S A0 s.heap s.heap [] := va_S.rf
  have hP : va_P D vwCl ([(a0, .inr (5, [.null, .null, .null, .null]))]) s.heap := hP
  have hl := lv_entry ([.ref a0]) (n := 1) (Nat.le_of_ble_eq_true rfl)
  rw [lg_entry_eq]
  generalize (lg_sl ([.ref a0]) ++ List.replicate (1 - (lg_sl ([.ref a0])).length) Slot.unset).toArray = ls at hl ⊢
  have hl : lv_has ls 1 [(0, .ref a0)] := hl
  have hiX1 : ∀ w ∈ wsX10, w ∈ wsX5_init := by decide +kernel
  have hiX3 : ∀ w ∈ wsX30, w ∈ wsX5_init := by decide +kernel
  have hiX4 : ∀ w ∈ wsX40, w ∈ wsX5_init := by decide +kernel
  have hiX5 : ∀ w ∈ wsX50, w ∈ wsX5_init := by decide +kernel
  refine lv_aload_n hx hb dX5_init_0 rfl (lv_at hl 0 rfl) ?_
  refine W.objInit hx hb hown (hts (.methodLink RX5 1 objectInit) (List.mem_of_getElem? (i := 1) rfl)) (hts (.instanceMethod objectInit) (List.mem_of_getElem? (i := 2) rfl)) (hts (.code objectInit ⟨#[0xb1]⟩ 1 none) (List.mem_of_getElem? (i := 3) rfl)) rfl (by rw [hml]; exact hl.1) rfl dX5_init_1 (Nat.le_of_ble_eq_true rfl) (Nat.le_of_ble_eq_true rfl) ?_
  refine W.eq (g2 := F0 m 4 ls []) rfl ?_
  refine lv_aload_n hx hb dX5_init_4 rfl (lv_at hl 0 rfl) ?_
  refine va_new (D := D) (ci := 1) (fs := [.null, .null, .null, .long (zL 0), .long (zL 0), .long (zL 0), .long (zL 0), .long (zL 0), .long (zL 0), .long (zL 0), .long (zL 0), .int (zI 0), .int (zI 0), .int (zI 0), .int (zI 0), .int (zI 0), .int (zI 0), .int (zI 0)]) (C := RX1) (T := TX1) (N := 18) hx hb hts hiX1 tyX1 tyX1_ok hown (hts (.classLink RX5 7 RX1) (List.mem_of_getElem? (i := 4) rfl)) (hts (.instantiable RX1 18) (List.mem_of_getElem? (i := 5) rfl)) (hts (.initialized RX1) (List.mem_of_getElem? (i := 6) rfl)) hK hP hD hS hA rfl (fun j hj => by rcases (show j = 0 ∨ j = 1 ∨ j = 2 ∨ j = 3 ∨ j = 4 ∨ j = 5 ∨ j = 6 ∨ j = 7 ∨ j = 8 ∨ j = 9 ∨ j = 10 ∨ j = 11 ∨ j = 12 ∨ j = 13 ∨ j = 14 ∨ j = 15 ∨ j = 16 ∨ j = 17 by omega) with rfl | rfl | rfl | rfl | rfl | rfl | rfl | rfl | rfl | rfl | rfl | rfl | rfl | rfl | rfl | rfl | rfl | rfl <;> rfl) (Nat.le_of_ble_eq_true rfl) (Nat.le_of_ble_eq_true rfl) dX5_init_5 (fun q1 H hP hD hS => ?_)
  refine W.widen (k := 1) (n := 18) (Nat.le_of_ble_eq_true rfl) (Nat.le_of_ble_eq_true rfl) ?_
  have hP : va_P D vwCl ([(a0, .inr (5, [.null, .null, .null, .null])), (q1, .inr (1, [.null, .null, .null, .long (zL 0), .long (zL 0), .long (zL 0), .long (zL 0), .long (zL 0), .long (zL 0), .long (zL 0), .long (zL 0), .int (zI 0), .int (zI 0), .int (zI 0), .int (zI 0), .int (zI 0), .int (zI 0), .int (zI 0)]))]) H := hP
  have hD : va_D A0 ([(a0, .inr (5, [.null, .null, .null, .null])), (q1, .inr (1, [.null, .null, .null, .long (zL 0), .long (zL 0), .long (zL 0), .long (zL 0), .long (zL 0), .long (zL 0), .long (zL 0), .long (zL 0), .int (zI 0), .int (zI 0), .int (zI 0), .int (zI 0), .int (zI 0), .int (zI 0), .int (zI 0)]))]) := hD
  refine lv_dup hx hb dX5_init_8 rfl ?_
  refine zc_n (w := [(q1, .inr (1, [.null, .null, .null, .long (zL 0), .long (zL 0), .long (zL 0), .long (zL 0), .long (zL 0), .long (zL 0), .long (zL 0), .long (zL 0), .int (zI 0), .int (zI 0), .int (zI 0), .int (zI 0), .int (zI 0), .int (zI 0), .int (zI 0)]))]) (wr := [(a0, .inr (5, [.null, .null, .null, .null]))]) (w2 := fun o2 => zbat cs (o2 0) (zNew zI0 7200000)) (va_runI (As := []) (rest := [.ref q1, .ref a0]) ⟨hx, hb, hml, hown, hts⟩ (met_X1_init l D cs q1 H.size) (cwI 0 hts gX5_init_X1_init rfl rfl rfl (hts (.initialized RX1) (List.mem_of_getElem? (i := 6) rfl)) (hts (.methodLink RX5 9 yX1_init) (List.mem_of_getElem? (i := 17) rfl)) (hts (.instanceMethod yX1_init) (List.mem_of_getElem? (i := 18) rfl)) rfl (by decide +kernel) ⟨(Nat.le_of_ble_eq_true rfl), (Nat.le_of_ble_eq_true rfl)⟩) ⟨zPreN.blind, fun U hU hW => zp_N (hP.sub (ws' := [(q1, .inr (1, [.null, .null, .null, .long (zL 0), .long (zL 0), .long (zL 0), .long (zL 0), .long (zL 0), .long (zL 0), .long (zL 0), .long (zL 0), .int (zI 0), .int (zI 0), .int (zI 0), .int (zI 0), .int (zI 0), .int (zI 0), .int (zI 0)]))]) [1] rfl) hK (hD.sub (ws' := [(q1, .inr (1, [.null, .null, .null, .long (zL 0), .long (zL 0), .long (zL 0), .long (zL 0), .long (zL 0), .long (zL 0), .long (zL 0), .long (zL 0), .int (zI 0), .int (zI 0), .int (zI 0), .int (zI 0), .int (zI 0), .int (zI 0), .int (zI 0)]))]) [1] (by decide) rfl) hN hX hO hS (va_free (wc := [(q1, .inr (1, [.null, .null, .null, .long (zL 0), .long (zL 0), .long (zL 0), .long (zL 0), .long (zL 0), .long (zL 0), .long (zL 0), .long (zL 0), .int (zI 0), .int (zI 0), .int (zI 0), .int (zI 0), .int (zI 0), .int (zI 0), .int (zI 0)]))]) hD hS hA [1] rfl) hU hW⟩ rfl rfl hl.1 rfl (lv_room (Nat.le_of_ble_eq_true rfl)) dX5_init_9 ⟨(Nat.le_of_ble_eq_true rfl), (Nat.le_of_ble_eq_true rfl)⟩) hS hP hD hA [1] [0] rfl rfl (by decide) (by decide) (fun o2 H locs ho9 hP7 hD7 hS7 => ?_)
  refine W.widen (k := 7) (n := 216) (Nat.le_of_ble_eq_true rfl) (Nat.le_of_ble_eq_true rfl) ?_
  subst ho9
  have hP := hP7
  have hD := hD7
  have hS := hS7
  have hP : va_P D vwCl ([(a0, .inr (5, [.null, .null, .null, .null]))] ++ zbat cs (o2 0) (zNew zI0 7200000)) H := hP.sub (ws' := [(a0, .inr (5, [.null, .null, .null, .null]))] ++ zbat cs (o2 0) (zNew zI0 7200000)) [0, 1, 2, 3, 4, 5, 6, 7] rfl
  have hD : va_D A0 ([(a0, .inr (5, [.null, .null, .null, .null]))] ++ zbat cs (o2 0) (zNew zI0 7200000)) := hD.sub (ws' := [(a0, .inr (5, [.null, .null, .null, .null]))] ++ zbat cs (o2 0) (zNew zI0 7200000)) [0, 1, 2, 3, 4, 5, 6, 7] (by decide) rfl
  refine va_putF (D := D) (ci := 5) (v := .ref ((o2 0) 0)) (ty := tyX5 0) (C := RX5) (T := TX5) (N := 4) hx hb hts hiX5 tyX5 tyX5_ok nmX5 hown hK hP hD hS 0 rfl rfl 0 (by decide) (hts (.fieldLink RX5 10 "ChargeEstimator" "battery" "LChargeEstimator$Battery;") (List.mem_of_getElem? (i := 7) rfl)) (fun _ h9 => h9) rfl hin rfl (tyX5_ok 0 (by decide)) rfl rfl (Nat.le_of_ble_eq_true rfl) dX5_init_12 (fun H locs hP hD hS => ?_)
  have hP : va_P D vwCl ([(a0, .inr (5, [.ref ((o2 0) 0), .null, .null, .null]))] ++ zbat cs (o2 0) (zNew zI0 7200000)) H := hP
  have hD : va_D A0 ([(a0, .inr (5, [.ref ((o2 0) 0), .null, .null, .null]))] ++ zbat cs (o2 0) (zNew zI0 7200000)) := hD
  refine lv_aload_n hx hb dX5_init_15 rfl (lv_at hl 0 rfl) ?_
  refine va_new (D := D) (ci := 1) (fs := [.null, .null, .null, .long (zL 0), .long (zL 0), .long (zL 0), .long (zL 0), .long (zL 0), .long (zL 0), .long (zL 0), .long (zL 0), .int (zI 0), .int (zI 0), .int (zI 0), .int (zI 0), .int (zI 0), .int (zI 0), .int (zI 0)]) (C := RX1) (T := TX1) (N := 18) hx hb hts hiX1 tyX1 tyX1_ok hown (hts (.classLink RX5 7 RX1) (List.mem_of_getElem? (i := 4) rfl)) (hts (.instantiable RX1 18) (List.mem_of_getElem? (i := 5) rfl)) (hts (.initialized RX1) (List.mem_of_getElem? (i := 6) rfl)) hK hP hD hS hA rfl (fun j hj => by rcases (show j = 0 ∨ j = 1 ∨ j = 2 ∨ j = 3 ∨ j = 4 ∨ j = 5 ∨ j = 6 ∨ j = 7 ∨ j = 8 ∨ j = 9 ∨ j = 10 ∨ j = 11 ∨ j = 12 ∨ j = 13 ∨ j = 14 ∨ j = 15 ∨ j = 16 ∨ j = 17 by omega) with rfl | rfl | rfl | rfl | rfl | rfl | rfl | rfl | rfl | rfl | rfl | rfl | rfl | rfl | rfl | rfl | rfl | rfl <;> rfl) (Nat.le_of_ble_eq_true rfl) (Nat.le_of_ble_eq_true rfl) dX5_init_16 (fun q3 H hP hD hS => ?_)
  refine W.widen (k := 8) (n := 234) (Nat.le_of_ble_eq_true rfl) (Nat.le_of_ble_eq_true rfl) ?_
  have hP : va_P D vwCl ([(a0, .inr (5, [.ref ((o2 0) 0), .null, .null, .null]))] ++ (zbat cs (o2 0) (zNew zI0 7200000) ++ [(q3, .inr (1, [.null, .null, .null, .long (zL 0), .long (zL 0), .long (zL 0), .long (zL 0), .long (zL 0), .long (zL 0), .long (zL 0), .long (zL 0), .int (zI 0), .int (zI 0), .int (zI 0), .int (zI 0), .int (zI 0), .int (zI 0), .int (zI 0)]))])) H := hP
  have hD : va_D A0 ([(a0, .inr (5, [.ref ((o2 0) 0), .null, .null, .null]))] ++ (zbat cs (o2 0) (zNew zI0 7200000) ++ [(q3, .inr (1, [.null, .null, .null, .long (zL 0), .long (zL 0), .long (zL 0), .long (zL 0), .long (zL 0), .long (zL 0), .long (zL 0), .long (zL 0), .int (zI 0), .int (zI 0), .int (zI 0), .int (zI 0), .int (zI 0), .int (zI 0), .int (zI 0)]))])) := hD
  refine lv_dup hx hb dX5_init_19 rfl ?_
  refine zc_n (w := [(q3, .inr (1, [.null, .null, .null, .long (zL 0), .long (zL 0), .long (zL 0), .long (zL 0), .long (zL 0), .long (zL 0), .long (zL 0), .long (zL 0), .int (zI 0), .int (zI 0), .int (zI 0), .int (zI 0), .int (zI 0), .int (zI 0), .int (zI 0)]))]) (wr := [(a0, .inr (5, [.ref ((o2 0) 0), .null, .null, .null]))] ++ zbat cs (o2 0) (zNew zI0 7200000)) (w2 := fun o4 => zbat cs (o4 0) (zNew zI0 7200000)) (va_runI (As := []) (rest := [.ref q3, .ref a0]) ⟨hx, hb, hml, hown, hts⟩ (met_X1_init l D cs q3 H.size) (cwI 0 hts gX5_init_X1_init rfl rfl rfl (hts (.initialized RX1) (List.mem_of_getElem? (i := 6) rfl)) (hts (.methodLink RX5 9 yX1_init) (List.mem_of_getElem? (i := 17) rfl)) (hts (.instanceMethod yX1_init) (List.mem_of_getElem? (i := 18) rfl)) rfl (by decide +kernel) ⟨(Nat.le_of_ble_eq_true rfl), (Nat.le_of_ble_eq_true rfl)⟩) ⟨zPreN.blind, fun U hU hW => zp_N (hP.sub (ws' := [(q3, .inr (1, [.null, .null, .null, .long (zL 0), .long (zL 0), .long (zL 0), .long (zL 0), .long (zL 0), .long (zL 0), .long (zL 0), .long (zL 0), .int (zI 0), .int (zI 0), .int (zI 0), .int (zI 0), .int (zI 0), .int (zI 0), .int (zI 0)]))]) [8] rfl) hK (hD.sub (ws' := [(q3, .inr (1, [.null, .null, .null, .long (zL 0), .long (zL 0), .long (zL 0), .long (zL 0), .long (zL 0), .long (zL 0), .long (zL 0), .long (zL 0), .int (zI 0), .int (zI 0), .int (zI 0), .int (zI 0), .int (zI 0), .int (zI 0), .int (zI 0)]))]) [8] (by decide) rfl) hN hX hO hS (va_free (wc := [(q3, .inr (1, [.null, .null, .null, .long (zL 0), .long (zL 0), .long (zL 0), .long (zL 0), .long (zL 0), .long (zL 0), .long (zL 0), .long (zL 0), .int (zI 0), .int (zI 0), .int (zI 0), .int (zI 0), .int (zI 0), .int (zI 0), .int (zI 0)]))]) hD hS hA [8] rfl) hU hW⟩ rfl rfl hl.1 rfl (lv_room (Nat.le_of_ble_eq_true rfl)) dX5_init_20 ⟨(Nat.le_of_ble_eq_true rfl), (Nat.le_of_ble_eq_true rfl)⟩) hS hP hD hA [8] [0, 1, 2, 3, 4, 5, 6, 7] rfl rfl (by decide) (by decide) (fun o4 H locs ho9 hP7 hD7 hS7 => ?_)
  refine W.widen (k := 14) (n := 432) (Nat.le_of_ble_eq_true rfl) (Nat.le_of_ble_eq_true rfl) ?_
  subst ho9
  have hP := hP7
  have hD := hD7
  have hS := hS7
  have hP : va_P D vwCl ([(a0, .inr (5, [.ref ((o2 0) 0), .null, .null, .null]))] ++ (zbat cs (o2 0) (zNew zI0 7200000) ++ zbat cs (o4 0) (zNew zI0 7200000))) H := hP.sub (ws' := [(a0, .inr (5, [.ref ((o2 0) 0), .null, .null, .null]))] ++ (zbat cs (o2 0) (zNew zI0 7200000) ++ zbat cs (o4 0) (zNew zI0 7200000))) [0, 1, 2, 3, 4, 5, 6, 7, 8, 9, 10, 11, 12, 13, 14] rfl
  have hD : va_D A0 ([(a0, .inr (5, [.ref ((o2 0) 0), .null, .null, .null]))] ++ (zbat cs (o2 0) (zNew zI0 7200000) ++ zbat cs (o4 0) (zNew zI0 7200000))) := hD.sub (ws' := [(a0, .inr (5, [.ref ((o2 0) 0), .null, .null, .null]))] ++ (zbat cs (o2 0) (zNew zI0 7200000) ++ zbat cs (o4 0) (zNew zI0 7200000))) [0, 1, 2, 3, 4, 5, 6, 7, 8, 9, 10, 11, 12, 13, 14] (by decide) rfl
  refine va_putF (D := D) (ci := 5) (v := .ref ((o4 0) 0)) (ty := tyX5 1) (C := RX5) (T := TX5) (N := 4) hx hb hts hiX5 tyX5 tyX5_ok nmX5 hown hK hP hD hS 0 rfl rfl 1 (by decide) (hts (.fieldLink RX5 16 "ChargeEstimator" "trial" "LChargeEstimator$Battery;") (List.mem_of_getElem? (i := 8) rfl)) (fun _ h9 => h9) rfl hin rfl (tyX5_ok 1 (by decide)) rfl rfl (Nat.le_of_ble_eq_true rfl) dX5_init_23 (fun H locs hP hD hS => ?_)
  have hP : va_P D vwCl ([(a0, .inr (5, [.ref ((o2 0) 0), .ref ((o4 0) 0), .null, .null]))] ++ (zbat cs (o2 0) (zNew zI0 7200000) ++ zbat cs (o4 0) (zNew zI0 7200000))) H := hP
  have hD : va_D A0 ([(a0, .inr (5, [.ref ((o2 0) 0), .ref ((o4 0) 0), .null, .null]))] ++ (zbat cs (o2 0) (zNew zI0 7200000) ++ zbat cs (o4 0) (zNew zI0 7200000))) := hD
  refine lv_aload_n hx hb dX5_init_26 rfl (lv_at hl 0 rfl) ?_
  refine va_new (D := D) (ci := 3) (fs := [.null, .int (zI 0)]) (C := RX3) (T := TX3) (N := 2) hx hb hts hiX3 tyX3 tyX3_ok hown (hts (.classLink RX5 19 RX3) (List.mem_of_getElem? (i := 9) rfl)) (hts (.instantiable RX3 2) (List.mem_of_getElem? (i := 10) rfl)) (hts (.initialized RX3) (List.mem_of_getElem? (i := 11) rfl)) hK hP hD hS hA rfl (fun j hj => by rcases (show j = 0 ∨ j = 1 by omega) with rfl | rfl <;> rfl) (Nat.le_of_ble_eq_true rfl) (Nat.le_of_ble_eq_true rfl) dX5_init_27 (fun q5 H hP hD hS => ?_)
  refine W.widen (k := 15) (n := 434) (Nat.le_of_ble_eq_true rfl) (Nat.le_of_ble_eq_true rfl) ?_
  have hP : va_P D vwCl ([(a0, .inr (5, [.ref ((o2 0) 0), .ref ((o4 0) 0), .null, .null]))] ++ (zbat cs (o2 0) (zNew zI0 7200000) ++ (zbat cs (o4 0) (zNew zI0 7200000) ++ [(q5, .inr (3, [.null, .int (zI 0)]))]))) H := hP
  have hD : va_D A0 ([(a0, .inr (5, [.ref ((o2 0) 0), .ref ((o4 0) 0), .null, .null]))] ++ (zbat cs (o2 0) (zNew zI0 7200000) ++ (zbat cs (o4 0) (zNew zI0 7200000) ++ [(q5, .inr (3, [.null, .int (zI 0)]))]))) := hD
  refine lv_dup hx hb dX5_init_30 rfl ?_
  refine zc_n (w := [(q5, .inr (3, [.null, .int (zI 0)]))]) (wr := [(a0, .inr (5, [.ref ((o2 0) 0), .ref ((o4 0) 0), .null, .null]))] ++ (zbat cs (o2 0) (zNew zI0 7200000) ++ zbat cs (o4 0) (zNew zI0 7200000))) (w2 := fun o6 => [(o6 0 0, .inr (3, [.ref (o6 0 1), .int (zI 0)])), (o6 0 1, .inl (cs 3, 4, .inr (.inr (.inr (.inr (zR (o6 1 0) (o6 2 0) (o6 3 0) (o6 4 0)))))))] ++ (zbat cs (o6 1) (zNew zI0 7200000) ++ (zbat cs (o6 2) (zNew zI0 7200000) ++ (zbat cs (o6 3) (zNew zI0 7200000) ++ zbat cs (o6 4) (zNew zI0 7200000))))) (va_runI (As := []) (rest := [.ref q5, .ref a0]) ⟨hx, hb, hml, hown, hts⟩ (met_X3_init l D cs q5 H.size) (cwI 0 hts gX5_init_X3_init rfl rfl rfl (hts (.initialized RX3) (List.mem_of_getElem? (i := 11) rfl)) (hts (.methodLink RX5 21 yX3_init) (List.mem_of_getElem? (i := 72) rfl)) (hts (.instanceMethod yX3_init) (List.mem_of_getElem? (i := 73) rfl)) rfl (by decide +kernel) ⟨(Nat.le_of_ble_eq_true rfl), (Nat.le_of_ble_eq_true rfl)⟩) ⟨zPreN.blind, fun U hU hW => zp_N (hP.sub (ws' := [(q5, .inr (3, [.null, .int (zI 0)]))]) [15] rfl) hK (hD.sub (ws' := [(q5, .inr (3, [.null, .int (zI 0)]))]) [15] (by decide) rfl) hN hX hO hS (va_free (wc := [(q5, .inr (3, [.null, .int (zI 0)]))]) hD hS hA [15] rfl) hU hW⟩ rfl rfl hl.1 rfl (lv_room (Nat.le_of_ble_eq_true rfl)) dX5_init_31 ⟨(Nat.le_of_ble_eq_true rfl), (Nat.le_of_ble_eq_true rfl)⟩) hS hP hD hA [15] [0, 1, 2, 3, 4, 5, 6, 7, 8, 9, 10, 11, 12, 13, 14] rfl rfl (by decide) (by decide) (fun o6 H locs ho9 hP7 hD7 hS7 => ?_)
  refine W.widen (k := 44) (n := 1302) (Nat.le_of_ble_eq_true rfl) (Nat.le_of_ble_eq_true rfl) ?_
  subst ho9
  have hP := hP7
  have hD := hD7
  have hS := hS7
  have hP : va_P D vwCl ([(a0, .inr (5, [.ref ((o2 0) 0), .ref ((o4 0) 0), .null, .null]))] ++ (zbat cs (o2 0) (zNew zI0 7200000) ++ (zbat cs (o4 0) (zNew zI0 7200000) ++ ([(o6 0 0, .inr (3, [.ref (o6 0 1), .int (zI 0)])), (o6 0 1, .inl (cs 3, 4, .inr (.inr (.inr (.inr (zR (o6 1 0) (o6 2 0) (o6 3 0) (o6 4 0)))))))] ++ (zbat cs (o6 1) (zNew zI0 7200000) ++ (zbat cs (o6 2) (zNew zI0 7200000) ++ (zbat cs (o6 3) (zNew zI0 7200000) ++ zbat cs (o6 4) (zNew zI0 7200000)))))))) H := hP.sub (ws' := [(a0, .inr (5, [.ref ((o2 0) 0), .ref ((o4 0) 0), .null, .null]))] ++ (zbat cs (o2 0) (zNew zI0 7200000) ++ (zbat cs (o4 0) (zNew zI0 7200000) ++ ([(o6 0 0, .inr (3, [.ref (o6 0 1), .int (zI 0)])), (o6 0 1, .inl (cs 3, 4, .inr (.inr (.inr (.inr (zR (o6 1 0) (o6 2 0) (o6 3 0) (o6 4 0)))))))] ++ (zbat cs (o6 1) (zNew zI0 7200000) ++ (zbat cs (o6 2) (zNew zI0 7200000) ++ (zbat cs (o6 3) (zNew zI0 7200000) ++ zbat cs (o6 4) (zNew zI0 7200000)))))))) [0, 1, 2, 3, 4, 5, 6, 7, 8, 9, 10, 11, 12, 13, 14, 15, 16, 17, 18, 19, 20, 21, 22, 23, 24, 25, 26, 27, 28, 29, 30, 31, 32, 33, 34, 35, 36, 37, 38, 39, 40, 41, 42, 43, 44] rfl
  have hD : va_D A0 ([(a0, .inr (5, [.ref ((o2 0) 0), .ref ((o4 0) 0), .null, .null]))] ++ (zbat cs (o2 0) (zNew zI0 7200000) ++ (zbat cs (o4 0) (zNew zI0 7200000) ++ ([(o6 0 0, .inr (3, [.ref (o6 0 1), .int (zI 0)])), (o6 0 1, .inl (cs 3, 4, .inr (.inr (.inr (.inr (zR (o6 1 0) (o6 2 0) (o6 3 0) (o6 4 0)))))))] ++ (zbat cs (o6 1) (zNew zI0 7200000) ++ (zbat cs (o6 2) (zNew zI0 7200000) ++ (zbat cs (o6 3) (zNew zI0 7200000) ++ zbat cs (o6 4) (zNew zI0 7200000)))))))) := hD.sub (ws' := [(a0, .inr (5, [.ref ((o2 0) 0), .ref ((o4 0) 0), .null, .null]))] ++ (zbat cs (o2 0) (zNew zI0 7200000) ++ (zbat cs (o4 0) (zNew zI0 7200000) ++ ([(o6 0 0, .inr (3, [.ref (o6 0 1), .int (zI 0)])), (o6 0 1, .inl (cs 3, 4, .inr (.inr (.inr (.inr (zR (o6 1 0) (o6 2 0) (o6 3 0) (o6 4 0)))))))] ++ (zbat cs (o6 1) (zNew zI0 7200000) ++ (zbat cs (o6 2) (zNew zI0 7200000) ++ (zbat cs (o6 3) (zNew zI0 7200000) ++ zbat cs (o6 4) (zNew zI0 7200000)))))))) [0, 1, 2, 3, 4, 5, 6, 7, 8, 9, 10, 11, 12, 13, 14, 15, 16, 17, 18, 19, 20, 21, 22, 23, 24, 25, 26, 27, 28, 29, 30, 31, 32, 33, 34, 35, 36, 37, 38, 39, 40, 41, 42, 43, 44] (by decide) rfl
  refine va_putF (D := D) (ci := 5) (v := .ref (o6 0 0)) (ty := tyX5 2) (C := RX5) (T := TX5) (N := 4) hx hb hts hiX5 tyX5 tyX5_ok nmX5 hown hK hP hD hS 0 rfl rfl 2 (by decide) (hts (.fieldLink RX5 22 "ChargeEstimator" "history" "LChargeEstimator$History;") (List.mem_of_getElem? (i := 12) rfl)) (fun _ h9 => h9) rfl hin rfl (tyX5_ok 2 (by decide)) rfl rfl (Nat.le_of_ble_eq_true rfl) dX5_init_34 (fun H locs hP hD hS => ?_)
  have hP : va_P D vwCl ([(a0, .inr (5, [.ref ((o2 0) 0), .ref ((o4 0) 0), .ref (o6 0 0), .null]))] ++ (zbat cs (o2 0) (zNew zI0 7200000) ++ (zbat cs (o4 0) (zNew zI0 7200000) ++ ([(o6 0 0, .inr (3, [.ref (o6 0 1), .int (zI 0)])), (o6 0 1, .inl (cs 3, 4, .inr (.inr (.inr (.inr (zR (o6 1 0) (o6 2 0) (o6 3 0) (o6 4 0)))))))] ++ (zbat cs (o6 1) (zNew zI0 7200000) ++ (zbat cs (o6 2) (zNew zI0 7200000) ++ (zbat cs (o6 3) (zNew zI0 7200000) ++ zbat cs (o6 4) (zNew zI0 7200000)))))))) H := hP
  have hD : va_D A0 ([(a0, .inr (5, [.ref ((o2 0) 0), .ref ((o4 0) 0), .ref (o6 0 0), .null]))] ++ (zbat cs (o2 0) (zNew zI0 7200000) ++ (zbat cs (o4 0) (zNew zI0 7200000) ++ ([(o6 0 0, .inr (3, [.ref (o6 0 1), .int (zI 0)])), (o6 0 1, .inl (cs 3, 4, .inr (.inr (.inr (.inr (zR (o6 1 0) (o6 2 0) (o6 3 0) (o6 4 0)))))))] ++ (zbat cs (o6 1) (zNew zI0 7200000) ++ (zbat cs (o6 2) (zNew zI0 7200000) ++ (zbat cs (o6 3) (zNew zI0 7200000) ++ zbat cs (o6 4) (zNew zI0 7200000)))))))) := hD
  refine lv_aload_n hx hb dX5_init_37 rfl (lv_at hl 0 rfl) ?_
  refine va_new (D := D) (ci := 4) (fs := [.null, .int (zI 0), .null, .int (zI 0), .int (zI 0), .int (zI 0), .int (zI 0)]) (C := RX4) (T := TX4) (N := 7) hx hb hts hiX4 tyX4 tyX4_ok hown (hts (.classLink RX5 26 RX4) (List.mem_of_getElem? (i := 13) rfl)) (hts (.instantiable RX4 7) (List.mem_of_getElem? (i := 14) rfl)) (hts (.initialized RX4) (List.mem_of_getElem? (i := 15) rfl)) hK hP hD hS hA rfl (fun j hj => by rcases (show j = 0 ∨ j = 1 ∨ j = 2 ∨ j = 3 ∨ j = 4 ∨ j = 5 ∨ j = 6 by omega) with rfl | rfl | rfl | rfl | rfl | rfl | rfl <;> rfl) (Nat.le_of_ble_eq_true rfl) (Nat.le_of_ble_eq_true rfl) dX5_init_38 (fun q7 H hP hD hS => ?_)
  refine W.widen (k := 45) (n := 1309) (Nat.le_of_ble_eq_true rfl) (Nat.le_of_ble_eq_true rfl) ?_
  have hP : va_P D vwCl ([(a0, .inr (5, [.ref ((o2 0) 0), .ref ((o4 0) 0), .ref (o6 0 0), .null]))] ++ (zbat cs (o2 0) (zNew zI0 7200000) ++ (zbat cs (o4 0) (zNew zI0 7200000) ++ ([(o6 0 0, .inr (3, [.ref (o6 0 1), .int (zI 0)])), (o6 0 1, .inl (cs 3, 4, .inr (.inr (.inr (.inr (zR (o6 1 0) (o6 2 0) (o6 3 0) (o6 4 0)))))))] ++ (zbat cs (o6 1) (zNew zI0 7200000) ++ (zbat cs (o6 2) (zNew zI0 7200000) ++ (zbat cs (o6 3) (zNew zI0 7200000) ++ (zbat cs (o6 4) (zNew zI0 7200000) ++ [(q7, .inr (4, [.null, .int (zI 0), .null, .int (zI 0), .int (zI 0), .int (zI 0), .int (zI 0)]))])))))))) H := hP
  have hD : va_D A0 ([(a0, .inr (5, [.ref ((o2 0) 0), .ref ((o4 0) 0), .ref (o6 0 0), .null]))] ++ (zbat cs (o2 0) (zNew zI0 7200000) ++ (zbat cs (o4 0) (zNew zI0 7200000) ++ ([(o6 0 0, .inr (3, [.ref (o6 0 1), .int (zI 0)])), (o6 0 1, .inl (cs 3, 4, .inr (.inr (.inr (.inr (zR (o6 1 0) (o6 2 0) (o6 3 0) (o6 4 0)))))))] ++ (zbat cs (o6 1) (zNew zI0 7200000) ++ (zbat cs (o6 2) (zNew zI0 7200000) ++ (zbat cs (o6 3) (zNew zI0 7200000) ++ (zbat cs (o6 4) (zNew zI0 7200000) ++ [(q7, .inr (4, [.null, .int (zI 0), .null, .int (zI 0), .int (zI 0), .int (zI 0), .int (zI 0)]))])))))))) := hD
  refine lv_dup hx hb dX5_init_41 rfl ?_
  refine zc_n (w := [(q7, .inr (4, [.null, .int (zI 0), .null, .int (zI 0), .int (zI 0), .int (zI 0), .int (zI 0)]))]) (wr := [(a0, .inr (5, [.ref ((o2 0) 0), .ref ((o4 0) 0), .ref (o6 0 0), .null]))] ++ (zbat cs (o2 0) (zNew zI0 7200000) ++ (zbat cs (o4 0) (zNew zI0 7200000) ++ ([(o6 0 0, .inr (3, [.ref (o6 0 1), .int (zI 0)])), (o6 0 1, .inl (cs 3, 4, .inr (.inr (.inr (.inr (zR (o6 1 0) (o6 2 0) (o6 3 0) (o6 4 0)))))))] ++ (zbat cs (o6 1) (zNew zI0 7200000) ++ (zbat cs (o6 2) (zNew zI0 7200000) ++ (zbat cs (o6 3) (zNew zI0 7200000) ++ zbat cs (o6 4) (zNew zI0 7200000)))))))) (w2 := fun o8 => [(o8 0 0, .inr (4, [.ref (o8 0 1), .int (zI 0), .ref (o8 0 2), .int (zI 0), .int (zI 0), .int (zI 0), .int (zI 0)])), (o8 0 1, .inl (cs 1, 120, .inl (zA (fun _ => 0)))), (o8 0 2, .inl (cs 0, 60, .inl (zA (fun _ => 0))))]) (va_runIN (As := []) (rest := [.ref q7, .ref a0]) ⟨hx, hb, hml, hown, hts⟩ (met_X4_init l D cs q7 H.size) ⟨va_cnB 0 hts gX5_init_X4_init_n28 rfl rfl rfl (zn_RX5_28 hN) (hts (.initialized RX4) (List.mem_of_getElem? (i := 15) rfl)) (by decide +kernel) ⟨(Nat.le_of_ble_eq_true rfl), (Nat.le_of_ble_eq_true rfl)⟩, rfl, (hts (.instanceMethod yX4_init) (List.mem_of_getElem? (i := 79) rfl))⟩ ⟨zPreN.blind, fun U hU hW => zp_N (hP.sub (ws' := [(q7, .inr (4, [.null, .int (zI 0), .null, .int (zI 0), .int (zI 0), .int (zI 0), .int (zI 0)]))]) [45] rfl) hK (hD.sub (ws' := [(q7, .inr (4, [.null, .int (zI 0), .null, .int (zI 0), .int (zI 0), .int (zI 0), .int (zI 0)]))]) [45] (by decide) rfl) hN hX hO hS (va_free (wc := [(q7, .inr (4, [.null, .int (zI 0), .null, .int (zI 0), .int (zI 0), .int (zI 0), .int (zI 0)]))]) hD hS hA [45] rfl) hU hW⟩ rfl rfl hl.1 rfl (lv_room (Nat.le_of_ble_eq_true rfl)) dX5_init_42 ⟨(Nat.le_of_ble_eq_true rfl), (Nat.le_of_ble_eq_true rfl)⟩) hS hP hD hA [45] [0, 1, 2, 3, 4, 5, 6, 7, 8, 9, 10, 11, 12, 13, 14, 15, 16, 17, 18, 19, 20, 21, 22, 23, 24, 25, 26, 27, 28, 29, 30, 31, 32, 33, 34, 35, 36, 37, 38, 39, 40, 41, 42, 43, 44] rfl rfl (by decide) (by decide) (fun o8 H locs ho9 hP7 hD7 hS7 => ?_)
  refine W.widen (k := 47) (n := 1489) (Nat.le_of_ble_eq_true rfl) (Nat.le_of_ble_eq_true rfl) ?_
  subst ho9
  have hP := hP7
  have hD := hD7
  have hS := hS7
  have hP : va_P D vwCl ([(a0, .inr (5, [.ref ((o2 0) 0), .ref ((o4 0) 0), .ref (o6 0 0), .null]))] ++ (zbat cs (o2 0) (zNew zI0 7200000) ++ (zbat cs (o4 0) (zNew zI0 7200000) ++ ([(o6 0 0, .inr (3, [.ref (o6 0 1), .int (zI 0)])), (o6 0 1, .inl (cs 3, 4, .inr (.inr (.inr (.inr (zR (o6 1 0) (o6 2 0) (o6 3 0) (o6 4 0)))))))] ++ (zbat cs (o6 1) (zNew zI0 7200000) ++ (zbat cs (o6 2) (zNew zI0 7200000) ++ (zbat cs (o6 3) (zNew zI0 7200000) ++ (zbat cs (o6 4) (zNew zI0 7200000) ++ [(o8 0 0, .inr (4, [.ref (o8 0 1), .int (zI 0), .ref (o8 0 2), .int (zI 0), .int (zI 0), .int (zI 0), .int (zI 0)])), (o8 0 1, .inl (cs 1, 120, .inl (zA (fun _ => 0)))), (o8 0 2, .inl (cs 0, 60, .inl (zA (fun _ => 0))))])))))))) H := hP.sub (ws' := [(a0, .inr (5, [.ref ((o2 0) 0), .ref ((o4 0) 0), .ref (o6 0 0), .null]))] ++ (zbat cs (o2 0) (zNew zI0 7200000) ++ (zbat cs (o4 0) (zNew zI0 7200000) ++ ([(o6 0 0, .inr (3, [.ref (o6 0 1), .int (zI 0)])), (o6 0 1, .inl (cs 3, 4, .inr (.inr (.inr (.inr (zR (o6 1 0) (o6 2 0) (o6 3 0) (o6 4 0)))))))] ++ (zbat cs (o6 1) (zNew zI0 7200000) ++ (zbat cs (o6 2) (zNew zI0 7200000) ++ (zbat cs (o6 3) (zNew zI0 7200000) ++ (zbat cs (o6 4) (zNew zI0 7200000) ++ [(o8 0 0, .inr (4, [.ref (o8 0 1), .int (zI 0), .ref (o8 0 2), .int (zI 0), .int (zI 0), .int (zI 0), .int (zI 0)])), (o8 0 1, .inl (cs 1, 120, .inl (zA (fun _ => 0)))), (o8 0 2, .inl (cs 0, 60, .inl (zA (fun _ => 0))))])))))))) [0, 1, 2, 3, 4, 5, 6, 7, 8, 9, 10, 11, 12, 13, 14, 15, 16, 17, 18, 19, 20, 21, 22, 23, 24, 25, 26, 27, 28, 29, 30, 31, 32, 33, 34, 35, 36, 37, 38, 39, 40, 41, 42, 43, 44, 45, 46, 47] rfl
  have hD : va_D A0 ([(a0, .inr (5, [.ref ((o2 0) 0), .ref ((o4 0) 0), .ref (o6 0 0), .null]))] ++ (zbat cs (o2 0) (zNew zI0 7200000) ++ (zbat cs (o4 0) (zNew zI0 7200000) ++ ([(o6 0 0, .inr (3, [.ref (o6 0 1), .int (zI 0)])), (o6 0 1, .inl (cs 3, 4, .inr (.inr (.inr (.inr (zR (o6 1 0) (o6 2 0) (o6 3 0) (o6 4 0)))))))] ++ (zbat cs (o6 1) (zNew zI0 7200000) ++ (zbat cs (o6 2) (zNew zI0 7200000) ++ (zbat cs (o6 3) (zNew zI0 7200000) ++ (zbat cs (o6 4) (zNew zI0 7200000) ++ [(o8 0 0, .inr (4, [.ref (o8 0 1), .int (zI 0), .ref (o8 0 2), .int (zI 0), .int (zI 0), .int (zI 0), .int (zI 0)])), (o8 0 1, .inl (cs 1, 120, .inl (zA (fun _ => 0)))), (o8 0 2, .inl (cs 0, 60, .inl (zA (fun _ => 0))))])))))))) := hD.sub (ws' := [(a0, .inr (5, [.ref ((o2 0) 0), .ref ((o4 0) 0), .ref (o6 0 0), .null]))] ++ (zbat cs (o2 0) (zNew zI0 7200000) ++ (zbat cs (o4 0) (zNew zI0 7200000) ++ ([(o6 0 0, .inr (3, [.ref (o6 0 1), .int (zI 0)])), (o6 0 1, .inl (cs 3, 4, .inr (.inr (.inr (.inr (zR (o6 1 0) (o6 2 0) (o6 3 0) (o6 4 0)))))))] ++ (zbat cs (o6 1) (zNew zI0 7200000) ++ (zbat cs (o6 2) (zNew zI0 7200000) ++ (zbat cs (o6 3) (zNew zI0 7200000) ++ (zbat cs (o6 4) (zNew zI0 7200000) ++ [(o8 0 0, .inr (4, [.ref (o8 0 1), .int (zI 0), .ref (o8 0 2), .int (zI 0), .int (zI 0), .int (zI 0), .int (zI 0)])), (o8 0 1, .inl (cs 1, 120, .inl (zA (fun _ => 0)))), (o8 0 2, .inl (cs 0, 60, .inl (zA (fun _ => 0))))])))))))) [0, 1, 2, 3, 4, 5, 6, 7, 8, 9, 10, 11, 12, 13, 14, 15, 16, 17, 18, 19, 20, 21, 22, 23, 24, 25, 26, 27, 28, 29, 30, 31, 32, 33, 34, 35, 36, 37, 38, 39, 40, 41, 42, 43, 44, 45, 46, 47] (by decide) rfl
  refine va_putF (D := D) (ci := 5) (v := .ref (o8 0 0)) (ty := tyX5 3) (C := RX5) (T := TX5) (N := 4) hx hb hts hiX5 tyX5 tyX5_ok nmX5 hown hK hP hD hS 0 rfl rfl 3 (by decide) (hts (.fieldLink RX5 29 "ChargeEstimator" "text" "LChargeEstimator$MeasurementText;") (List.mem_of_getElem? (i := 16) rfl)) (fun _ h9 => h9) rfl hin rfl (tyX5_ok 3 (by decide)) rfl rfl (Nat.le_of_ble_eq_true rfl) dX5_init_45 (fun H locs hP hD hS => ?_)
  have hP : va_P D vwCl ([(a0, .inr (5, [.ref ((o2 0) 0), .ref ((o4 0) 0), .ref (o6 0 0), .ref (o8 0 0)]))] ++ (zbat cs (o2 0) (zNew zI0 7200000) ++ (zbat cs (o4 0) (zNew zI0 7200000) ++ ([(o6 0 0, .inr (3, [.ref (o6 0 1), .int (zI 0)])), (o6 0 1, .inl (cs 3, 4, .inr (.inr (.inr (.inr (zR (o6 1 0) (o6 2 0) (o6 3 0) (o6 4 0)))))))] ++ (zbat cs (o6 1) (zNew zI0 7200000) ++ (zbat cs (o6 2) (zNew zI0 7200000) ++ (zbat cs (o6 3) (zNew zI0 7200000) ++ (zbat cs (o6 4) (zNew zI0 7200000) ++ [(o8 0 0, .inr (4, [.ref (o8 0 1), .int (zI 0), .ref (o8 0 2), .int (zI 0), .int (zI 0), .int (zI 0), .int (zI 0)])), (o8 0 1, .inl (cs 1, 120, .inl (zA (fun _ => 0)))), (o8 0 2, .inl (cs 0, 60, .inl (zA (fun _ => 0))))])))))))) H := hP
  have hD : va_D A0 ([(a0, .inr (5, [.ref ((o2 0) 0), .ref ((o4 0) 0), .ref (o6 0 0), .ref (o8 0 0)]))] ++ (zbat cs (o2 0) (zNew zI0 7200000) ++ (zbat cs (o4 0) (zNew zI0 7200000) ++ ([(o6 0 0, .inr (3, [.ref (o6 0 1), .int (zI 0)])), (o6 0 1, .inl (cs 3, 4, .inr (.inr (.inr (.inr (zR (o6 1 0) (o6 2 0) (o6 3 0) (o6 4 0)))))))] ++ (zbat cs (o6 1) (zNew zI0 7200000) ++ (zbat cs (o6 2) (zNew zI0 7200000) ++ (zbat cs (o6 3) (zNew zI0 7200000) ++ (zbat cs (o6 4) (zNew zI0 7200000) ++ [(o8 0 0, .inr (4, [.ref (o8 0 1), .int (zI 0), .ref (o8 0 2), .int (zI 0), .int (zI 0), .int (zI 0), .int (zI 0)])), (o8 0 1, .inl (cs 1, 120, .inl (zA (fun _ => 0)))), (o8 0 2, .inl (cs 0, 60, .inl (zA (fun _ => 0))))])))))))) := hD
  have hP8 : va_P D vwCl (zest cs (fun k => match k with | 0 => zoF [a0] | 1 => o2 0 | 2 => o4 0 | 3 => o6 0 | 4 => o6 1 | 5 => o6 2 | 6 => o6 3 | 7 => o6 4 | _ => o8 0) (zNew zI0 7200000) (zNew zI0 7200000) (zNew zI0 7200000) (zNew zI0 7200000) (zNew zI0 7200000) (zNew zI0 7200000) 0 (fun _ => 0) 0 (fun _ => 0) 0 0 0 0) H := hP.sub (ws' := zest cs (fun k => match k with | 0 => zoF [a0] | 1 => o2 0 | 2 => o4 0 | 3 => o6 0 | 4 => o6 1 | 5 => o6 2 | 6 => o6 3 | 7 => o6 4 | _ => o8 0) (zNew zI0 7200000) (zNew zI0 7200000) (zNew zI0 7200000) (zNew zI0 7200000) (zNew zI0 7200000) (zNew zI0 7200000) 0 (fun _ => 0) 0 (fun _ => 0) 0 0 0 0) [0, 1, 2, 3, 4, 5, 6, 7, 8, 9, 10, 11, 12, 13, 14, 15, 16, 17, 18, 19, 20, 21, 22, 23, 24, 25, 26, 27, 28, 29, 30, 31, 32, 33, 34, 35, 36, 37, 38, 39, 40, 41, 42, 43, 44, 45, 46, 47] rfl
  have hD8 : va_D A0 (zest cs (fun k => match k with | 0 => zoF [a0] | 1 => o2 0 | 2 => o4 0 | 3 => o6 0 | 4 => o6 1 | 5 => o6 2 | 6 => o6 3 | 7 => o6 4 | _ => o8 0) (zNew zI0 7200000) (zNew zI0 7200000) (zNew zI0 7200000) (zNew zI0 7200000) (zNew zI0 7200000) (zNew zI0 7200000) 0 (fun _ => 0) 0 (fun _ => 0) 0 0 0 0) := hD.sub (ws' := zest cs (fun k => match k with | 0 => zoF [a0] | 1 => o2 0 | 2 => o4 0 | 3 => o6 0 | 4 => o6 1 | 5 => o6 2 | 6 => o6 3 | 7 => o6 4 | _ => o8 0) (zNew zI0 7200000) (zNew zI0 7200000) (zNew zI0 7200000) (zNew zI0 7200000) (zNew zI0 7200000) (zNew zI0 7200000) 0 (fun _ => 0) 0 (fun _ => 0) 0 0 0 0) [0, 1, 2, 3, 4, 5, 6, 7, 8, 9, 10, 11, 12, 13, 14, 15, 16, 17, 18, 19, 20, 21, 22, 23, 24, 25, 26, 27, 28, 29, 30, 31, 32, 33, 34, 35, 36, 37, 38, 39, 40, 41, 42, 43, 44, 45, 46, 47] (by decide) rfl
  subst hAe
  exact W.vret hx hb hr (fun t ht hW => ⟨⟨(), rfl, trivial, (fun k => match k with | 0 => zoF [a0] | 1 => o2 0 | 2 => o4 0 | 3 => o6 0 | 4 => o6 1 | 5 => o6 2 | 6 => o6 3 | 7 => o6 4 | _ => o8 0), rfl, by rw [ht]; exact hP8, hD8⟩, hS.F ht⟩) hS.2.2 dX5_init_48
set_option maxHeartbeats 4000000 in
set_option maxRecDepth 100000 in
theorem met_X6_firstVoltage (l : Launch) (xk : Int) (kxk : 0 ≤ xk ∧ xk ≤ 10) : Met l yX6_firstVoltage wsX6_firstVoltage ({ frames := 0, cells := 0, slots := 0, locals := 0 }) (va_Pc [.int (zI xk)] (fun _ => True)) (zRl (zL (zIlo xk))) 0 0 (fun _ => False) := by
  refine Met.ofW (cc := cX6_firstVoltage) (maxL := 1) (ret := (some .long)) (by decide) rfl ?_
  intro p e s m args below meth c s₁ B hml hv
  obtain ⟨rfl, -⟩ := hv
  have hx := B.exec
  have hb := B.bytes
  have hr := B.returns
  have hts := atoms_spec (ws := wsX6_firstVoltage) B.pre
  have hown : s.vm.findClass RX6 = some m.cls := findClass_of_methodNamed B.named
  have hlocks := B.notSynchronized
  have hl := lv_entry ([.int (zI xk)]) (n := 1) (Nat.le_of_ble_eq_true rfl)
  rw [lg_entry_eq]
  generalize (lg_sl ([.int (zI xk)]) ++ List.replicate (1 - (lg_sl ([.int (zI xk)])).length) Slot.unset).toArray = ls at hl ⊢
  have hl : lv_has ls 1 [(0, .int (zI xk))] := hl
  refine lv_iload_n hx hb dX6_firstVoltage_0 rfl (lv_at hl 0 rfl) ?_
  rcases (show xk = 0 ∨ xk = 1 ∨ xk = 2 ∨ xk = 3 ∨ xk = 4 ∨ xk = 5 ∨ xk = 6 ∨ xk = 7 ∨ xk = 8 ∨ xk = 9 ∨ (xk < 0 ∨ 9 < xk) by omega) with c1 | c1 | c1 | c1 | c1 | c1 | c1 | c1 | c1 | c1 | c1
  · refine zr_tsIn (tgt := 56) (off := 55) hx hb dX6_firstVoltage_1 c1 (by decide) (by decide) (by decide) rfl (by decide) ?_
    refine zr_ldc2 (n := 3000) hx hb hown (hts (.constantLong RX6 64 (3000)) (List.mem_of_getElem? (i := 1) rfl)) rfl dX6_firstVoltage_56 ?_
    exact W.lret hx hb hr (fun t ht hW => ⟨_, rfl, (congrArg zL (show 3000 = zIlo xk from by unfold zIlo; (repeat' split) <;> omega)), ht⟩) (fun q hq => absurd hq List.not_mem_nil) dX6_firstVoltage_59
  · refine zr_tsIn (tgt := 60) (off := 59) hx hb dX6_firstVoltage_1 c1 (by decide) (by decide) (by decide) rfl (by decide) ?_
    refine zr_ldc2 (n := 3300) hx hb hown (hts (.constantLong RX6 66 (3300)) (List.mem_of_getElem? (i := 2) rfl)) rfl dX6_firstVoltage_60 ?_
    exact W.lret hx hb hr (fun t ht hW => ⟨_, rfl, (congrArg zL (show 3300 = zIlo xk from by unfold zIlo; (repeat' split) <;> omega)), ht⟩) (fun q hq => absurd hq List.not_mem_nil) dX6_firstVoltage_63
  · refine zr_tsIn (tgt := 64) (off := 63) hx hb dX6_firstVoltage_1 c1 (by decide) (by decide) (by decide) rfl (by decide) ?_
    refine zr_ldc2 (n := 3450) hx hb hown (hts (.constantLong RX6 68 (3450)) (List.mem_of_getElem? (i := 3) rfl)) rfl dX6_firstVoltage_64 ?_
    exact W.lret hx hb hr (fun t ht hW => ⟨_, rfl, (congrArg zL (show 3450 = zIlo xk from by unfold zIlo; (repeat' split) <;> omega)), ht⟩) (fun q hq => absurd hq List.not_mem_nil) dX6_firstVoltage_67
  · refine zr_tsIn (tgt := 68) (off := 67) hx hb dX6_firstVoltage_1 c1 (by decide) (by decide) (by decide) rfl (by decide) ?_
    refine zr_ldc2 (n := 3520) hx hb hown (hts (.constantLong RX6 70 (3520)) (List.mem_of_getElem? (i := 4) rfl)) rfl dX6_firstVoltage_68 ?_
    exact W.lret hx hb hr (fun t ht hW => ⟨_, rfl, (congrArg zL (show 3520 = zIlo xk from by unfold zIlo; (repeat' split) <;> omega)), ht⟩) (fun q hq => absurd hq List.not_mem_nil) dX6_firstVoltage_71
  · refine zr_tsIn (tgt := 72) (off := 71) hx hb dX6_firstVoltage_1 c1 (by decide) (by decide) (by decide) rfl (by decide) ?_
    refine zr_ldc2 (n := 3560) hx hb hown (hts (.constantLong RX6 72 (3560)) (List.mem_of_getElem? (i := 5) rfl)) rfl dX6_firstVoltage_72 ?_
    exact W.lret hx hb hr (fun t ht hW => ⟨_, rfl, (congrArg zL (show 3560 = zIlo xk from by unfold zIlo; (repeat' split) <;> omega)), ht⟩) (fun q hq => absurd hq List.not_mem_nil) dX6_firstVoltage_75
  · refine zr_tsIn (tgt := 76) (off := 75) hx hb dX6_firstVoltage_1 c1 (by decide) (by decide) (by decide) rfl (by decide) ?_
    refine zr_ldc2 (n := 3600) hx hb hown (hts (.constantLong RX6 74 (3600)) (List.mem_of_getElem? (i := 6) rfl)) rfl dX6_firstVoltage_76 ?_
    exact W.lret hx hb hr (fun t ht hW => ⟨_, rfl, (congrArg zL (show 3600 = zIlo xk from by unfold zIlo; (repeat' split) <;> omega)), ht⟩) (fun q hq => absurd hq List.not_mem_nil) dX6_firstVoltage_79
  · refine zr_tsIn (tgt := 80) (off := 79) hx hb dX6_firstVoltage_1 c1 (by decide) (by decide) (by decide) rfl (by decide) ?_
    refine zr_ldc2 (n := 3650) hx hb hown (hts (.constantLong RX6 76 (3650)) (List.mem_of_getElem? (i := 7) rfl)) rfl dX6_firstVoltage_80 ?_
    exact W.lret hx hb hr (fun t ht hW => ⟨_, rfl, (congrArg zL (show 3650 = zIlo xk from by unfold zIlo; (repeat' split) <;> omega)), ht⟩) (fun q hq => absurd hq List.not_mem_nil) dX6_firstVoltage_83
  · refine zr_tsIn (tgt := 84) (off := 83) hx hb dX6_firstVoltage_1 c1 (by decide) (by decide) (by decide) rfl (by decide) ?_
    refine zr_ldc2 (n := 3730) hx hb hown (hts (.constantLong RX6 78 (3730)) (List.mem_of_getElem? (i := 8) rfl)) rfl dX6_firstVoltage_84 ?_
    exact W.lret hx hb hr (fun t ht hW => ⟨_, rfl, (congrArg zL (show 3730 = zIlo xk from by unfold zIlo; (repeat' split) <;> omega)), ht⟩) (fun q hq => absurd hq List.not_mem_nil) dX6_firstVoltage_87
  · refine zr_tsIn (tgt := 88) (off := 87) hx hb dX6_firstVoltage_1 c1 (by decide) (by decide) (by decide) rfl (by decide) ?_
    refine zr_ldc2 (n := 3830) hx hb hown (hts (.constantLong RX6 80 (3830)) (List.mem_of_getElem? (i := 9) rfl)) rfl dX6_firstVoltage_88 ?_
    exact W.lret hx hb hr (fun t ht hW => ⟨_, rfl, (congrArg zL (show 3830 = zIlo xk from by unfold zIlo; (repeat' split) <;> omega)), ht⟩) (fun q hq => absurd hq List.not_mem_nil) dX6_firstVoltage_91
  · refine zr_tsIn (tgt := 92) (off := 91) hx hb dX6_firstVoltage_1 c1 (by decide) (by decide) (by decide) rfl (by decide) ?_
    refine zr_ldc2 (n := 3950) hx hb hown (hts (.constantLong RX6 82 (3950)) (List.mem_of_getElem? (i := 10) rfl)) rfl dX6_firstVoltage_92 ?_
    exact W.lret hx hb hr (fun t ht hW => ⟨_, rfl, (congrArg zL (show 3950 = zIlo xk from by unfold zIlo; (repeat' split) <;> omega)), ht⟩) (fun q hq => absurd hq List.not_mem_nil) dX6_firstVoltage_95
  · refine zr_tsOut (tgt := 96) hx hb dX6_firstVoltage_1 (by omega) c1 (by decide) ?_
    refine zr_ldc2 (n := 4100) hx hb hown (hts (.constantLong RX6 84 (4100)) (List.mem_of_getElem? (i := 11) rfl)) rfl dX6_firstVoltage_96 ?_
    exact W.lret hx hb hr (fun t ht hW => ⟨_, rfl, (congrArg zL (show 4100 = zIlo xk from by unfold zIlo; (repeat' split) <;> omega)), ht⟩) (fun q hq => absurd hq List.not_mem_nil) dX6_firstVoltage_99
set_option maxHeartbeats 4000000 in
set_option maxRecDepth 100000 in
theorem met_X6_init (l : Launch) (D : va_G) (cs : Nat → ClassId) (a0 : Nat) (sz : Nat) : Met l yX6_init wsX6_init ({ frames := 2, cells := 5, slots := 1461, locals := 48 }) (va_Pc [.ref a0] (zPreN D (zTy cs) ([(a0, .inr (6, [.null, .null, .null, .int (zI 0), .int (zI 0), .int (zI 0), .null, .int (zI 0), .int (zI 0), .null]))]) sz)) (zQn D ([(a0, .inr (6, [.null, .null, .null, .int (zI 0), .int (zI 0), .int (zI 0), .null, .int (zI 0), .int (zI 0), .null]))]) sz a0 (fun o => zmod cs (o 0) (zNew zI0 7200000) (fun _ => 0) (fun _ => 0) 0 0 0 (fun _ => 0) 0 0 (fun _ => 0))) 5 1461 (va_A ([(a0, .inr (6, [.null, .null, .null, .int (zI 0), .int (zI 0), .int (zI 0), .null, .int (zI 0), .int (zI 0), .null]))]) sz) := by
  refine Met.ofW (cc := cX6_init) (maxL := 2) (ret := none) (by decide) rfl ?_
  intro p e s m args below meth c s₁ B hml hv
  obtain ⟨rfl, ⟨hsz, hP, hK, hD0, hN⟩, hX, hO⟩ := hv
  have hx := B.exec
  have hb := B.bytes
  have hr := B.returns
  have hts := atoms_spec (ws := wsX6_init) B.pre
  have hown : s.vm.findClass RX6 = some m.cls := findClass_of_methodNamed B.named
  have hlocks := B.notSynchronized
  have hin : meth.name = "<init>" := (name_of_methodNamed B.named B.method).1
  subst hsz
  obtain ⟨A0, hAe⟩ : ∃ A0, A0 = va_A ([(a0, .inr (6, [.null, .null, .null, .int (zI 0), .int (zI 0), .int (zI 0), .null, .int (zI 0), .int (zI 0), .null]))]) s.heap.size := ⟨_, rfl⟩
  have hD := hD0.self (sz := s.heap.size)
  rw [← hAe] at hD hX
  have hA : ∀ q : Nat, s.heap.size ≤ q → A0 q := fun q h => by rw [hAe]; exact Or.inr h
  have hS : va_S A0 s.heap s.heap [] := va_S.rf
  have hP : va_P D vwCl ([(a0, .inr (6, [.null, .null, .null, .int (zI 0), .int (zI 0), .int (zI 0), .null, .int (zI 0), .int (zI 0), .null]))]) s.heap := hP
  have hl := lv_entry ([.ref a0]) (n := 2) (Nat.le_of_ble_eq_true rfl)
  rw [lg_entry_eq]
  generalize (lg_sl ([.ref a0]) ++ List.replicate (2 - (lg_sl ([.ref a0])).length) Slot.unset).toArray = ls at hl ⊢
  have hl : lv_has ls 2 [(0, .ref a0)] := hl
  have hiX6 : ∀ w ∈ wsX60, w ∈ wsX6_init := by decide +kernel
  refine lv_aload_n hx hb dX6_init_0 rfl (lv_at hl 0 rfl) ?_
  refine W.objInit hx hb hown (hts (.methodLink RX6 1 objectInit) (List.mem_of_getElem? (i := 1) rfl)) (hts (.instanceMethod objectInit) (List.mem_of_getElem? (i := 2) rfl)) (hts (.code objectInit ⟨#[0xb1]⟩ 1 none) (List.mem_of_getElem? (i := 3) rfl)) rfl (by rw [hml]; exact hl.1) rfl dX6_init_1 (Nat.le_of_ble_eq_true rfl) (Nat.le_of_ble_eq_true rfl) ?_
  refine W.eq (g2 := F0 m 4 ls []) rfl ?_
  refine lv_aload_n hx hb dX6_init_4 rfl (lv_at hl 0 rfl) ?_
  refine zr_sipush hx hb dX6_init_5 (by decide) ?_
  refine zr_newl (N := 213) hx hb (hts (.arrayClass .long) (List.mem_of_getElem? (i := 4) rfl)) hK hP hD hS hA (by decide) rfl (Nat.le_of_ble_eq_true rfl) (Nat.le_of_ble_eq_true rfl) (Nat.le_of_ble_eq_true rfl) dX6_init_8 (fun q1 H hP hD hS => ?_)
  refine W.widen (k := 1) (n := 213) (Nat.le_of_ble_eq_true rfl) (Nat.le_of_ble_eq_true rfl) ?_
  have hP : va_P D vwCl ([(a0, .inr (6, [.null, .null, .null, .int (zI 0), .int (zI 0), .int (zI 0), .null, .int (zI 0), .int (zI 0), .null])), (q1, .inl (cs 2, 213, .inr (.inl (zAL (fun _ => 0)))))]) H := hP
  have hD : va_D A0 ([(a0, .inr (6, [.null, .null, .null, .int (zI 0), .int (zI 0), .int (zI 0), .null, .int (zI 0), .int (zI 0), .null])), (q1, .inl (cs 2, 213, .inr (.inl (zAL (fun _ => 0)))))]) := hD
  refine va_putF (D := D) (ci := 6) (v := .ref q1) (ty := tyX6 0) (C := RX6) (T := TX6) (N := 10) hx hb hts hiX6 tyX6 tyX6_ok nmX6 hown hK hP hD hS 0 rfl rfl 0 (by decide) (hts (.fieldLink RX6 7 "ChargeEstimatorModel" "all" "[J") (List.mem_of_getElem? (i := 5) rfl)) (fun _ h9 => h9) rfl hin rfl (tyX6_ok 0 (by decide)) rfl rfl (Nat.le_of_ble_eq_true rfl) dX6_init_10 (fun H locs hP hD hS => ?_)
  have hP : va_P D vwCl ([(a0, .inr (6, [.ref q1, .null, .null, .int (zI 0), .int (zI 0), .int (zI 0), .null, .int (zI 0), .int (zI 0), .null])), (q1, .inl (cs 2, 213, .inr (.inl (zAL (fun _ => 0)))))]) H := hP
  have hD : va_D A0 ([(a0, .inr (6, [.ref q1, .null, .null, .int (zI 0), .int (zI 0), .int (zI 0), .null, .int (zI 0), .int (zI 0), .null])), (q1, .inl (cs 2, 213, .inr (.inl (zAL (fun _ => 0)))))]) := hD
  refine lv_aload_n hx hb dX6_init_13 rfl (lv_at hl 0 rfl) ?_
  refine zr_sipush hx hb dX6_init_14 (by decide) ?_
  refine zr_newl (N := 852) hx hb (hts (.arrayClass .long) (List.mem_of_getElem? (i := 4) rfl)) hK hP hD hS hA (by decide) rfl (Nat.le_of_ble_eq_true rfl) (Nat.le_of_ble_eq_true rfl) (Nat.le_of_ble_eq_true rfl) dX6_init_17 (fun q2 H hP hD hS => ?_)
  refine W.widen (k := 2) (n := 1065) (Nat.le_of_ble_eq_true rfl) (Nat.le_of_ble_eq_true rfl) ?_
  have hP : va_P D vwCl ([(a0, .inr (6, [.ref q1, .null, .null, .int (zI 0), .int (zI 0), .int (zI 0), .null, .int (zI 0), .int (zI 0), .null])), (q1, .inl (cs 2, 213, .inr (.inl (zAL (fun _ => 0))))), (q2, .inl (cs 2, 852, .inr (.inl (zAL (fun _ => 0)))))]) H := hP
  have hD : va_D A0 ([(a0, .inr (6, [.ref q1, .null, .null, .int (zI 0), .int (zI 0), .int (zI 0), .null, .int (zI 0), .int (zI 0), .null])), (q1, .inl (cs 2, 213, .inr (.inl (zAL (fun _ => 0))))), (q2, .inl (cs 2, 852, .inr (.inl (zAL (fun _ => 0)))))]) := hD
  refine va_putF (D := D) (ci := 6) (v := .ref q2) (ty := tyX6 1) (C := RX6) (T := TX6) (N := 10) hx hb hts hiX6 tyX6 tyX6_ok nmX6 hown hK hP hD hS 0 rfl rfl 1 (by decide) (hts (.fieldLink RX6 13 "ChargeEstimatorModel" "saved" "[J") (List.mem_of_getElem? (i := 6) rfl)) (fun _ h9 => h9) rfl hin rfl (tyX6_ok 1 (by decide)) rfl rfl (Nat.le_of_ble_eq_true rfl) dX6_init_19 (fun H locs hP hD hS => ?_)
  have hP : va_P D vwCl ([(a0, .inr (6, [.ref q1, .ref q2, .null, .int (zI 0), .int (zI 0), .int (zI 0), .null, .int (zI 0), .int (zI 0), .null])), (q1, .inl (cs 2, 213, .inr (.inl (zAL (fun _ => 0))))), (q2, .inl (cs 2, 852, .inr (.inl (zAL (fun _ => 0)))))]) H := hP
  have hD : va_D A0 ([(a0, .inr (6, [.ref q1, .ref q2, .null, .int (zI 0), .int (zI 0), .int (zI 0), .null, .int (zI 0), .int (zI 0), .null])), (q1, .inl (cs 2, 213, .inr (.inl (zAL (fun _ => 0))))), (q2, .inl (cs 2, 852, .inr (.inl (zAL (fun _ => 0)))))]) := hD
  refine lv_aload_n hx hb dX6_init_22 rfl (lv_at hl 0 rfl) ?_
  refine zr_sipush hx hb dX6_init_23 (by decide) ?_
  refine zr_newl (N := 213) hx hb (hts (.arrayClass .long) (List.mem_of_getElem? (i := 4) rfl)) hK hP hD hS hA (by decide) rfl (Nat.le_of_ble_eq_true rfl) (Nat.le_of_ble_eq_true rfl) (Nat.le_of_ble_eq_true rfl) dX6_init_26 (fun q3 H hP hD hS => ?_)
  refine W.widen (k := 3) (n := 1278) (Nat.le_of_ble_eq_true rfl) (Nat.le_of_ble_eq_true rfl) ?_
  have hP : va_P D vwCl ([(a0, .inr (6, [.ref q1, .ref q2, .null, .int (zI 0), .int (zI 0), .int (zI 0), .null, .int (zI 0), .int (zI 0), .null])), (q1, .inl (cs 2, 213, .inr (.inl (zAL (fun _ => 0))))), (q2, .inl (cs 2, 852, .inr (.inl (zAL (fun _ => 0))))), (q3, .inl (cs 2, 213, .inr (.inl (zAL (fun _ => 0)))))]) H := hP
  have hD : va_D A0 ([(a0, .inr (6, [.ref q1, .ref q2, .null, .int (zI 0), .int (zI 0), .int (zI 0), .null, .int (zI 0), .int (zI 0), .null])), (q1, .inl (cs 2, 213, .inr (.inl (zAL (fun _ => 0))))), (q2, .inl (cs 2, 852, .inr (.inl (zAL (fun _ => 0))))), (q3, .inl (cs 2, 213, .inr (.inl (zAL (fun _ => 0)))))]) := hD
  refine va_putF (D := D) (ci := 6) (v := .ref q3) (ty := tyX6 2) (C := RX6) (T := TX6) (N := 10) hx hb hts hiX6 tyX6 tyX6_ok nmX6 hown hK hP hD hS 0 rfl rfl 2 (by decide) (hts (.fieldLink RX6 16 "ChargeEstimatorModel" "aside" "[J") (List.mem_of_getElem? (i := 7) rfl)) (fun _ h9 => h9) rfl hin rfl (tyX6_ok 2 (by decide)) rfl rfl (Nat.le_of_ble_eq_true rfl) dX6_init_28 (fun H locs hP hD hS => ?_)
  have hP : va_P D vwCl ([(a0, .inr (6, [.ref q1, .ref q2, .ref q3, .int (zI 0), .int (zI 0), .int (zI 0), .null, .int (zI 0), .int (zI 0), .null])), (q1, .inl (cs 2, 213, .inr (.inl (zAL (fun _ => 0))))), (q2, .inl (cs 2, 852, .inr (.inl (zAL (fun _ => 0))))), (q3, .inl (cs 2, 213, .inr (.inl (zAL (fun _ => 0)))))]) H := hP
  have hD : va_D A0 ([(a0, .inr (6, [.ref q1, .ref q2, .ref q3, .int (zI 0), .int (zI 0), .int (zI 0), .null, .int (zI 0), .int (zI 0), .null])), (q1, .inl (cs 2, 213, .inr (.inl (zAL (fun _ => 0))))), (q2, .inl (cs 2, 852, .inr (.inl (zAL (fun _ => 0))))), (q3, .inl (cs 2, 213, .inr (.inl (zAL (fun _ => 0)))))]) := hD
  refine lv_aload_n hx hb dX6_init_31 rfl (lv_at hl 0 rfl) ?_
  refine zr_bipush hx hb dX6_init_32 (by decide) ?_
  refine zr_newi (N := 120) hx hb (hts (.arrayClass .int) (List.mem_of_getElem? (i := 8) rfl)) hK hP hD hS hA (by decide) rfl (Nat.le_of_ble_eq_true rfl) (Nat.le_of_ble_eq_true rfl) (Nat.le_of_ble_eq_true rfl) dX6_init_34 (fun q4 H hP hD hS => ?_)
  refine W.widen (k := 4) (n := 1398) (Nat.le_of_ble_eq_true rfl) (Nat.le_of_ble_eq_true rfl) ?_
  have hP : va_P D vwCl ([(a0, .inr (6, [.ref q1, .ref q2, .ref q3, .int (zI 0), .int (zI 0), .int (zI 0), .null, .int (zI 0), .int (zI 0), .null])), (q1, .inl (cs 2, 213, .inr (.inl (zAL (fun _ => 0))))), (q2, .inl (cs 2, 852, .inr (.inl (zAL (fun _ => 0))))), (q3, .inl (cs 2, 213, .inr (.inl (zAL (fun _ => 0))))), (q4, .inl (cs 0, 120, .inl (zA (fun _ => 0))))]) H := hP
  have hD : va_D A0 ([(a0, .inr (6, [.ref q1, .ref q2, .ref q3, .int (zI 0), .int (zI 0), .int (zI 0), .null, .int (zI 0), .int (zI 0), .null])), (q1, .inl (cs 2, 213, .inr (.inl (zAL (fun _ => 0))))), (q2, .inl (cs 2, 852, .inr (.inl (zAL (fun _ => 0))))), (q3, .inl (cs 2, 213, .inr (.inl (zAL (fun _ => 0))))), (q4, .inl (cs 0, 120, .inl (zA (fun _ => 0))))]) := hD
  refine va_putF (D := D) (ci := 6) (v := .ref q4) (ty := tyX6 6) (C := RX6) (T := TX6) (N := 10) hx hb hts hiX6 tyX6 tyX6_ok nmX6 hown hK hP hD hS 0 rfl rfl 6 (by decide) (hts (.fieldLink RX6 19 "ChargeEstimatorModel" "text" "[I") (List.mem_of_getElem? (i := 9) rfl)) (fun _ h9 => h9) rfl hin rfl (tyX6_ok 6 (by decide)) rfl rfl (Nat.le_of_ble_eq_true rfl) dX6_init_36 (fun H locs hP hD hS => ?_)
  have hP : va_P D vwCl ([(a0, .inr (6, [.ref q1, .ref q2, .ref q3, .int (zI 0), .int (zI 0), .int (zI 0), .ref q4, .int (zI 0), .int (zI 0), .null])), (q1, .inl (cs 2, 213, .inr (.inl (zAL (fun _ => 0))))), (q2, .inl (cs 2, 852, .inr (.inl (zAL (fun _ => 0))))), (q3, .inl (cs 2, 213, .inr (.inl (zAL (fun _ => 0))))), (q4, .inl (cs 0, 120, .inl (zA (fun _ => 0))))]) H := hP
  have hD : va_D A0 ([(a0, .inr (6, [.ref q1, .ref q2, .ref q3, .int (zI 0), .int (zI 0), .int (zI 0), .ref q4, .int (zI 0), .int (zI 0), .null])), (q1, .inl (cs 2, 213, .inr (.inl (zAL (fun _ => 0))))), (q2, .inl (cs 2, 852, .inr (.inl (zAL (fun _ => 0))))), (q3, .inl (cs 2, 213, .inr (.inl (zAL (fun _ => 0))))), (q4, .inl (cs 0, 120, .inl (zA (fun _ => 0))))]) := hD
  refine lv_aload_n hx hb dX6_init_39 rfl (lv_at hl 0 rfl) ?_
  refine zr_bipush hx hb dX6_init_40 (by decide) ?_
  refine zr_newi (N := 63) hx hb (hts (.arrayClass .int) (List.mem_of_getElem? (i := 8) rfl)) hK hP hD hS hA (by decide) rfl (Nat.le_of_ble_eq_true rfl) (Nat.le_of_ble_eq_true rfl) (Nat.le_of_ble_eq_true rfl) dX6_init_42 (fun q5 H hP hD hS => ?_)
  refine W.widen (k := 5) (n := 1461) (Nat.le_of_ble_eq_true rfl) (Nat.le_of_ble_eq_true rfl) ?_
  have hP : va_P D vwCl ([(a0, .inr (6, [.ref q1, .ref q2, .ref q3, .int (zI 0), .int (zI 0), .int (zI 0), .ref q4, .int (zI 0), .int (zI 0), .null])), (q1, .inl (cs 2, 213, .inr (.inl (zAL (fun _ => 0))))), (q2, .inl (cs 2, 852, .inr (.inl (zAL (fun _ => 0))))), (q3, .inl (cs 2, 213, .inr (.inl (zAL (fun _ => 0))))), (q4, .inl (cs 0, 120, .inl (zA (fun _ => 0)))), (q5, .inl (cs 0, 63, .inl (zA (fun _ => 0))))]) H := hP
  have hD : va_D A0 ([(a0, .inr (6, [.ref q1, .ref q2, .ref q3, .int (zI 0), .int (zI 0), .int (zI 0), .ref q4, .int (zI 0), .int (zI 0), .null])), (q1, .inl (cs 2, 213, .inr (.inl (zAL (fun _ => 0))))), (q2, .inl (cs 2, 852, .inr (.inl (zAL (fun _ => 0))))), (q3, .inl (cs 2, 213, .inr (.inl (zAL (fun _ => 0))))), (q4, .inl (cs 0, 120, .inl (zA (fun _ => 0)))), (q5, .inl (cs 0, 63, .inl (zA (fun _ => 0))))]) := hD
  refine va_putF (D := D) (ci := 6) (v := .ref q5) (ty := tyX6 9) (C := RX6) (T := TX6) (N := 10) hx hb hts hiX6 tyX6 tyX6_ok nmX6 hown hK hP hD hS 0 rfl rfl 9 (by decide) (hts (.fieldLink RX6 23 "ChargeEstimatorModel" "read" "[I") (List.mem_of_getElem? (i := 10) rfl)) (fun _ h9 => h9) rfl hin rfl (tyX6_ok 9 (by decide)) rfl rfl (Nat.le_of_ble_eq_true rfl) dX6_init_44 (fun H locs hP hD hS => ?_)
  have hP : va_P D vwCl ([(a0, .inr (6, [.ref q1, .ref q2, .ref q3, .int (zI 0), .int (zI 0), .int (zI 0), .ref q4, .int (zI 0), .int (zI 0), .ref q5])), (q1, .inl (cs 2, 213, .inr (.inl (zAL (fun _ => 0))))), (q2, .inl (cs 2, 852, .inr (.inl (zAL (fun _ => 0))))), (q3, .inl (cs 2, 213, .inr (.inl (zAL (fun _ => 0))))), (q4, .inl (cs 0, 120, .inl (zA (fun _ => 0)))), (q5, .inl (cs 0, 63, .inl (zA (fun _ => 0))))]) H := hP
  have hD : va_D A0 ([(a0, .inr (6, [.ref q1, .ref q2, .ref q3, .int (zI 0), .int (zI 0), .int (zI 0), .ref q4, .int (zI 0), .int (zI 0), .ref q5])), (q1, .inl (cs 2, 213, .inr (.inl (zAL (fun _ => 0))))), (q2, .inl (cs 2, 852, .inr (.inl (zAL (fun _ => 0))))), (q3, .inl (cs 2, 213, .inr (.inl (zAL (fun _ => 0))))), (q4, .inl (cs 0, 120, .inl (zA (fun _ => 0)))), (q5, .inl (cs 0, 63, .inl (zA (fun _ => 0))))]) := hD
  have hP : va_P D vwCl (zmod cs (zoF [a0, q1, q2, q3, q4, q5]) (fun _ => 0) (fun _ => 0) (fun _ => 0) 0 0 0 (fun _ => 0) 0 0 (fun _ => 0)) H := hP
  have hD : va_D A0 (zmod cs (zoF [a0, q1, q2, q3, q4, q5]) (fun _ => 0) (fun _ => 0) (fun _ => 0) 0 0 0 (fun _ => 0) 0 0 (fun _ => 0)) := zD_addr hD rfl
  refine lv_aload_n hx hb dX6_init_47 rfl (lv_at hl 0 rfl) ?_
  refine va_get (D := D) (ci := 6) (v := .ref ((zoF [a0, q1, q2, q3, q4, q5]) 1)) (C := RX6) (T := TX6) (N := 10) hx hb hts hiX6 hown hK hP 0 rfl rfl 0 (by decide) (hts (.fieldLink RX6 7 "ChargeEstimatorModel" "all" "[J") (List.mem_of_getElem? (i := 5) rfl)) (fun _ h9 => h9) rfl dX6_init_48 ?_
  refine zr_iconst hx hb dX6_init_51 ?_
  refine zr_ldc2 (n := 995) hx hb hown (hts (.constantLong RX6 26 (995)) (List.mem_of_getElem? (i := 11) rfl)) rfl dX6_init_52 ?_
  refine zr_last (D := D) (g := (fun _ => 0)) hx hb hK hP hD hS 1 2 rfl rfl (by decide) (by decide) dX6_init_55 (fun H locs hP hD hS => ?_)
  have hP : va_P D vwCl (zmod cs (zoF [a0, q1, q2, q3, q4, q5]) (zU (fun _ => 0) 0 995) (fun _ => 0) (fun _ => 0) 0 0 0 (fun _ => 0) 0 0 (fun _ => 0)) H := hP
  have hD : va_D A0 (zmod cs (zoF [a0, q1, q2, q3, q4, q5]) (zU (fun _ => 0) 0 995) (fun _ => 0) (fun _ => 0) 0 0 0 (fun _ => 0) 0 0 (fun _ => 0)) := zD_addr hD rfl
  refine lv_aload_n hx hb dX6_init_56 rfl (lv_at hl 0 rfl) ?_
  refine va_get (D := D) (ci := 6) (v := .ref ((zoF [a0, q1, q2, q3, q4, q5]) 1)) (C := RX6) (T := TX6) (N := 10) hx hb hts hiX6 hown hK hP 0 rfl rfl 0 (by decide) (hts (.fieldLink RX6 7 "ChargeEstimatorModel" "all" "[J") (List.mem_of_getElem? (i := 5) rfl)) (fun _ h9 => h9) rfl dX6_init_57 ?_
  refine zr_iconst hx hb dX6_init_60 ?_
  refine zr_ldc2 (n := 500) hx hb hown (hts (.constantLong RX6 28 (500)) (List.mem_of_getElem? (i := 12) rfl)) rfl dX6_init_61 ?_
  refine zr_last (D := D) (g := zU (fun _ => 0) 0 995) hx hb hK hP hD hS 1 2 rfl rfl (by decide) (by decide) dX6_init_64 (fun H locs hP hD hS => ?_)
  have hP : va_P D vwCl (zmod cs (zoF [a0, q1, q2, q3, q4, q5]) (zU (zU (fun _ => 0) 0 995) 1 500) (fun _ => 0) (fun _ => 0) 0 0 0 (fun _ => 0) 0 0 (fun _ => 0)) H := hP
  have hD : va_D A0 (zmod cs (zoF [a0, q1, q2, q3, q4, q5]) (zU (zU (fun _ => 0) 0 995) 1 500) (fun _ => 0) (fun _ => 0) 0 0 0 (fun _ => 0) 0 0 (fun _ => 0)) := zD_addr hD rfl
  refine lv_aload_n hx hb dX6_init_65 rfl (lv_at hl 0 rfl) ?_
  refine va_get (D := D) (ci := 6) (v := .ref ((zoF [a0, q1, q2, q3, q4, q5]) 1)) (C := RX6) (T := TX6) (N := 10) hx hb hts hiX6 hown hK hP 0 rfl rfl 0 (by decide) (hts (.fieldLink RX6 7 "ChargeEstimatorModel" "all" "[J") (List.mem_of_getElem? (i := 5) rfl)) (fun _ h9 => h9) rfl dX6_init_66 ?_
  refine zr_iconst hx hb dX6_init_69 ?_
  refine zr_ldc2 (n := 5000) hx hb hown (hts (.constantLong RX6 30 (5000)) (List.mem_of_getElem? (i := 13) rfl)) rfl dX6_init_70 ?_
  refine zr_last (D := D) (g := zU (zU (fun _ => 0) 0 995) 1 500) hx hb hK hP hD hS 1 2 rfl rfl (by decide) (by decide) dX6_init_73 (fun H locs hP hD hS => ?_)
  have hP : va_P D vwCl (zmod cs (zoF [a0, q1, q2, q3, q4, q5]) (zU (zU (zU (fun _ => 0) 0 995) 1 500) 2 5000) (fun _ => 0) (fun _ => 0) 0 0 0 (fun _ => 0) 0 0 (fun _ => 0)) H := hP
  have hD : va_D A0 (zmod cs (zoF [a0, q1, q2, q3, q4, q5]) (zU (zU (zU (fun _ => 0) 0 995) 1 500) 2 5000) (fun _ => 0) (fun _ => 0) 0 0 0 (fun _ => 0) 0 0 (fun _ => 0)) := zD_addr hD rfl
  refine lv_aload_n hx hb dX6_init_74 rfl (lv_at hl 0 rfl) ?_
  refine va_get (D := D) (ci := 6) (v := .ref ((zoF [a0, q1, q2, q3, q4, q5]) 1)) (C := RX6) (T := TX6) (N := 10) hx hb hts hiX6 hown hK hP 0 rfl rfl 0 (by decide) (hts (.fieldLink RX6 7 "ChargeEstimatorModel" "all" "[J") (List.mem_of_getElem? (i := 5) rfl)) (fun _ h9 => h9) rfl dX6_init_75 ?_
  refine zr_iconst hx hb dX6_init_78 ?_
  refine zr_ldc2 (n := 10) hx hb hown (hts (.constantLong RX6 32 (10)) (List.mem_of_getElem? (i := 14) rfl)) rfl dX6_init_79 ?_
  refine zr_last (D := D) (g := zU (zU (zU (fun _ => 0) 0 995) 1 500) 2 5000) hx hb hK hP hD hS 1 2 rfl rfl (by decide) (by decide) dX6_init_82 (fun H locs hP hD hS => ?_)
  have hP : va_P D vwCl (zmod cs (zoF [a0, q1, q2, q3, q4, q5]) (zU (zU (zU (zU (fun _ => 0) 0 995) 1 500) 2 5000) 3 10) (fun _ => 0) (fun _ => 0) 0 0 0 (fun _ => 0) 0 0 (fun _ => 0)) H := hP
  have hD : va_D A0 (zmod cs (zoF [a0, q1, q2, q3, q4, q5]) (zU (zU (zU (zU (fun _ => 0) 0 995) 1 500) 2 5000) 3 10) (fun _ => 0) (fun _ => 0) 0 0 0 (fun _ => 0) 0 0 (fun _ => 0)) := zD_addr hD rfl
  refine lv_aload_n hx hb dX6_init_83 rfl (lv_at hl 0 rfl) ?_
  refine va_get (D := D) (ci := 6) (v := .ref ((zoF [a0, q1, q2, q3, q4, q5]) 1)) (C := RX6) (T := TX6) (N := 10) hx hb hts hiX6 hown hK hP 0 rfl rfl 0 (by decide) (hts (.fieldLink RX6 7 "ChargeEstimatorModel" "all" "[J") (List.mem_of_getElem? (i := 5) rfl)) (fun _ h9 => h9) rfl dX6_init_84 ?_
  refine zr_iconst hx hb dX6_init_87 ?_
  refine zr_ldc2 (n := 20) hx hb hown (hts (.constantLong RX6 34 (20)) (List.mem_of_getElem? (i := 15) rfl)) rfl dX6_init_88 ?_
  refine zr_last (D := D) (g := zU (zU (zU (zU (fun _ => 0) 0 995) 1 500) 2 5000) 3 10) hx hb hK hP hD hS 1 2 rfl rfl (by decide) (by decide) dX6_init_91 (fun H locs hP hD hS => ?_)
  have hP : va_P D vwCl (zmod cs (zoF [a0, q1, q2, q3, q4, q5]) (zU (zU (zU (zU (zU (fun _ => 0) 0 995) 1 500) 2 5000) 3 10) 4 20) (fun _ => 0) (fun _ => 0) 0 0 0 (fun _ => 0) 0 0 (fun _ => 0)) H := hP
  have hD : va_D A0 (zmod cs (zoF [a0, q1, q2, q3, q4, q5]) (zU (zU (zU (zU (zU (fun _ => 0) 0 995) 1 500) 2 5000) 3 10) 4 20) (fun _ => 0) (fun _ => 0) 0 0 0 (fun _ => 0) 0 0 (fun _ => 0)) := zD_addr hD rfl
  refine lv_aload_n hx hb dX6_init_92 rfl (lv_at hl 0 rfl) ?_
  refine va_get (D := D) (ci := 6) (v := .ref ((zoF [a0, q1, q2, q3, q4, q5]) 1)) (C := RX6) (T := TX6) (N := 10) hx hb hts hiX6 hown hK hP 0 rfl rfl 0 (by decide) (hts (.fieldLink RX6 7 "ChargeEstimatorModel" "all" "[J") (List.mem_of_getElem? (i := 5) rfl)) (fun _ h9 => h9) rfl dX6_init_93 ?_
  refine zr_iconst hx hb dX6_init_96 ?_
  refine zr_ldc2 (n := 2) hx hb hown (hts (.constantLong RX6 36 (2)) (List.mem_of_getElem? (i := 16) rfl)) rfl dX6_init_97 ?_
  refine zr_last (D := D) (g := zU (zU (zU (zU (zU (fun _ => 0) 0 995) 1 500) 2 5000) 3 10) 4 20) hx hb hK hP hD hS 1 2 rfl rfl (by decide) (by decide) dX6_init_100 (fun H locs hP hD hS => ?_)
  have hP : va_P D vwCl (zmod cs (zoF [a0, q1, q2, q3, q4, q5]) (zU (zU (zU (zU (zU (zU (fun _ => 0) 0 995) 1 500) 2 5000) 3 10) 4 20) 5 2) (fun _ => 0) (fun _ => 0) 0 0 0 (fun _ => 0) 0 0 (fun _ => 0)) H := hP
  have hD : va_D A0 (zmod cs (zoF [a0, q1, q2, q3, q4, q5]) (zU (zU (zU (zU (zU (zU (fun _ => 0) 0 995) 1 500) 2 5000) 3 10) 4 20) 5 2) (fun _ => 0) (fun _ => 0) 0 0 0 (fun _ => 0) 0 0 (fun _ => 0)) := zD_addr hD rfl
  refine lv_aload_n hx hb dX6_init_101 rfl (lv_at hl 0 rfl) ?_
  refine va_get (D := D) (ci := 6) (v := .ref ((zoF [a0, q1, q2, q3, q4, q5]) 1)) (C := RX6) (T := TX6) (N := 10) hx hb hts hiX6 hown hK hP 0 rfl rfl 0 (by decide) (hts (.fieldLink RX6 7 "ChargeEstimatorModel" "all" "[J") (List.mem_of_getElem? (i := 5) rfl)) (fun _ h9 => h9) rfl dX6_init_102 ?_
  refine zr_bipush hx hb dX6_init_105 (by decide) ?_
  refine zr_ldc2 (n := 1800) hx hb hown (hts (.constantLong RX6 38 (1800)) (List.mem_of_getElem? (i := 17) rfl)) rfl dX6_init_107 ?_
  refine zr_last (D := D) (g := zU (zU (zU (zU (zU (zU (fun _ => 0) 0 995) 1 500) 2 5000) 3 10) 4 20) 5 2) hx hb hK hP hD hS 1 2 rfl rfl (by decide) (by decide) dX6_init_110 (fun H locs hP hD hS => ?_)
  have hP : va_P D vwCl (zmod cs (zoF [a0, q1, q2, q3, q4, q5]) (zU (zU (zU (zU (zU (zU (zU (fun _ => 0) 0 995) 1 500) 2 5000) 3 10) 4 20) 5 2) 6 1800) (fun _ => 0) (fun _ => 0) 0 0 0 (fun _ => 0) 0 0 (fun _ => 0)) H := hP
  have hD : va_D A0 (zmod cs (zoF [a0, q1, q2, q3, q4, q5]) (zU (zU (zU (zU (zU (zU (zU (fun _ => 0) 0 995) 1 500) 2 5000) 3 10) 4 20) 5 2) 6 1800) (fun _ => 0) (fun _ => 0) 0 0 0 (fun _ => 0) 0 0 (fun _ => 0)) := zD_addr hD rfl
  refine lv_aload_n hx hb dX6_init_111 rfl (lv_at hl 0 rfl) ?_
  refine va_get (D := D) (ci := 6) (v := .ref ((zoF [a0, q1, q2, q3, q4, q5]) 1)) (C := RX6) (T := TX6) (N := 10) hx hb hts hiX6 hown hK hP 0 rfl rfl 0 (by decide) (hts (.fieldLink RX6 7 "ChargeEstimatorModel" "all" "[J") (List.mem_of_getElem? (i := 5) rfl)) (fun _ h9 => h9) rfl dX6_init_112 ?_
  refine zr_bipush hx hb dX6_init_115 (by decide) ?_
  refine zr_ldc2 (n := 5) hx hb hown (hts (.constantLong RX6 40 (5)) (List.mem_of_getElem? (i := 18) rfl)) rfl dX6_init_117 ?_
  refine zr_last (D := D) (g := zU (zU (zU (zU (zU (zU (zU (fun _ => 0) 0 995) 1 500) 2 5000) 3 10) 4 20) 5 2) 6 1800) hx hb hK hP hD hS 1 2 rfl rfl (by decide) (by decide) dX6_init_120 (fun H locs hP hD hS => ?_)
  have hP : va_P D vwCl (zmod cs (zoF [a0, q1, q2, q3, q4, q5]) (zU (zU (zU (zU (zU (zU (zU (zU (fun _ => 0) 0 995) 1 500) 2 5000) 3 10) 4 20) 5 2) 6 1800) 7 5) (fun _ => 0) (fun _ => 0) 0 0 0 (fun _ => 0) 0 0 (fun _ => 0)) H := hP
  have hD : va_D A0 (zmod cs (zoF [a0, q1, q2, q3, q4, q5]) (zU (zU (zU (zU (zU (zU (zU (zU (fun _ => 0) 0 995) 1 500) 2 5000) 3 10) 4 20) 5 2) 6 1800) 7 5) (fun _ => 0) (fun _ => 0) 0 0 0 (fun _ => 0) 0 0 (fun _ => 0)) := zD_addr hD rfl
  refine lv_aload_n hx hb dX6_init_121 rfl (lv_at hl 0 rfl) ?_
  refine va_get (D := D) (ci := 6) (v := .ref ((zoF [a0, q1, q2, q3, q4, q5]) 1)) (C := RX6) (T := TX6) (N := 10) hx hb hts hiX6 hown hK hP 0 rfl rfl 0 (by decide) (hts (.fieldLink RX6 7 "ChargeEstimatorModel" "all" "[J") (List.mem_of_getElem? (i := 5) rfl)) (fun _ h9 => h9) rfl dX6_init_122 ?_
  refine zr_bipush hx hb dX6_init_125 (by decide) ?_
  refine zr_ldc2 (n := 4150) hx hb hown (hts (.constantLong RX6 42 (4150)) (List.mem_of_getElem? (i := 19) rfl)) rfl dX6_init_127 ?_
  refine zr_last (D := D) (g := zU (zU (zU (zU (zU (zU (zU (zU (fun _ => 0) 0 995) 1 500) 2 5000) 3 10) 4 20) 5 2) 6 1800) 7 5) hx hb hK hP hD hS 1 2 rfl rfl (by decide) (by decide) dX6_init_130 (fun H locs hP hD hS => ?_)
  have hP : va_P D vwCl (zmod cs (zoF [a0, q1, q2, q3, q4, q5]) (zU (zU (zU (zU (zU (zU (zU (zU (zU (fun _ => 0) 0 995) 1 500) 2 5000) 3 10) 4 20) 5 2) 6 1800) 7 5) 8 4150) (fun _ => 0) (fun _ => 0) 0 0 0 (fun _ => 0) 0 0 (fun _ => 0)) H := hP
  have hD : va_D A0 (zmod cs (zoF [a0, q1, q2, q3, q4, q5]) (zU (zU (zU (zU (zU (zU (zU (zU (zU (fun _ => 0) 0 995) 1 500) 2 5000) 3 10) 4 20) 5 2) 6 1800) 7 5) 8 4150) (fun _ => 0) (fun _ => 0) 0 0 0 (fun _ => 0) 0 0 (fun _ => 0)) := zD_addr hD rfl
  refine lv_aload_n hx hb dX6_init_131 rfl (lv_at hl 0 rfl) ?_
  refine va_get (D := D) (ci := 6) (v := .ref ((zoF [a0, q1, q2, q3, q4, q5]) 1)) (C := RX6) (T := TX6) (N := 10) hx hb hts hiX6 hown hK hP 0 rfl rfl 0 (by decide) (hts (.fieldLink RX6 7 "ChargeEstimatorModel" "all" "[J") (List.mem_of_getElem? (i := 5) rfl)) (fun _ h9 => h9) rfl dX6_init_132 ?_
  refine zr_bipush hx hb dX6_init_135 (by decide) ?_
  refine zr_ldc2 (n := 100) hx hb hown (hts (.constantLong RX6 44 (100)) (List.mem_of_getElem? (i := 20) rfl)) rfl dX6_init_137 ?_
  refine zr_last (D := D) (g := zU (zU (zU (zU (zU (zU (zU (zU (zU (fun _ => 0) 0 995) 1 500) 2 5000) 3 10) 4 20) 5 2) 6 1800) 7 5) 8 4150) hx hb hK hP hD hS 1 2 rfl rfl (by decide) (by decide) dX6_init_140 (fun H locs hP hD hS => ?_)
  have hP : va_P D vwCl (zmod cs (zoF [a0, q1, q2, q3, q4, q5]) (zU (zU (zU (zU (zU (zU (zU (zU (zU (zU (fun _ => 0) 0 995) 1 500) 2 5000) 3 10) 4 20) 5 2) 6 1800) 7 5) 8 4150) 9 100) (fun _ => 0) (fun _ => 0) 0 0 0 (fun _ => 0) 0 0 (fun _ => 0)) H := hP
  have hD : va_D A0 (zmod cs (zoF [a0, q1, q2, q3, q4, q5]) (zU (zU (zU (zU (zU (zU (zU (zU (zU (zU (fun _ => 0) 0 995) 1 500) 2 5000) 3 10) 4 20) 5 2) 6 1800) 7 5) 8 4150) 9 100) (fun _ => 0) (fun _ => 0) 0 0 0 (fun _ => 0) 0 0 (fun _ => 0)) := zD_addr hD rfl
  refine lv_aload_n hx hb dX6_init_141 rfl (lv_at hl 0 rfl) ?_
  refine va_get (D := D) (ci := 6) (v := .ref ((zoF [a0, q1, q2, q3, q4, q5]) 1)) (C := RX6) (T := TX6) (N := 10) hx hb hts hiX6 hown hK hP 0 rfl rfl 0 (by decide) (hts (.fieldLink RX6 7 "ChargeEstimatorModel" "all" "[J") (List.mem_of_getElem? (i := 5) rfl)) (fun _ h9 => h9) rfl dX6_init_142 ?_
  refine zr_bipush hx hb dX6_init_145 (by decide) ?_
  refine zr_ldc2 (n := 2900) hx hb hown (hts (.constantLong RX6 46 (2900)) (List.mem_of_getElem? (i := 21) rfl)) rfl dX6_init_147 ?_
  refine zr_last (D := D) (g := zU (zU (zU (zU (zU (zU (zU (zU (zU (zU (fun _ => 0) 0 995) 1 500) 2 5000) 3 10) 4 20) 5 2) 6 1800) 7 5) 8 4150) 9 100) hx hb hK hP hD hS 1 2 rfl rfl (by decide) (by decide) dX6_init_150 (fun H locs hP hD hS => ?_)
  have hP : va_P D vwCl (zmod cs (zoF [a0, q1, q2, q3, q4, q5]) (zU (zU (zU (zU (zU (zU (zU (zU (zU (zU (zU (fun _ => 0) 0 995) 1 500) 2 5000) 3 10) 4 20) 5 2) 6 1800) 7 5) 8 4150) 9 100) 10 2900) (fun _ => 0) (fun _ => 0) 0 0 0 (fun _ => 0) 0 0 (fun _ => 0)) H := hP
  have hD : va_D A0 (zmod cs (zoF [a0, q1, q2, q3, q4, q5]) (zU (zU (zU (zU (zU (zU (zU (zU (zU (zU (zU (fun _ => 0) 0 995) 1 500) 2 5000) 3 10) 4 20) 5 2) 6 1800) 7 5) 8 4150) 9 100) 10 2900) (fun _ => 0) (fun _ => 0) 0 0 0 (fun _ => 0) 0 0 (fun _ => 0)) := zD_addr hD rfl
  refine lv_aload_n hx hb dX6_init_151 rfl (lv_at hl 0 rfl) ?_
  refine va_get (D := D) (ci := 6) (v := .ref ((zoF [a0, q1, q2, q3, q4, q5]) 1)) (C := RX6) (T := TX6) (N := 10) hx hb hts hiX6 hown hK hP 0 rfl rfl 0 (by decide) (hts (.fieldLink RX6 7 "ChargeEstimatorModel" "all" "[J") (List.mem_of_getElem? (i := 5) rfl)) (fun _ h9 => h9) rfl dX6_init_152 ?_
  refine zr_bipush hx hb dX6_init_155 (by decide) ?_
  refine zr_ldc2 (n := 4000) hx hb hown (hts (.constantLong RX6 48 (4000)) (List.mem_of_getElem? (i := 22) rfl)) rfl dX6_init_157 ?_
  refine zr_last (D := D) (g := zU (zU (zU (zU (zU (zU (zU (zU (zU (zU (zU (fun _ => 0) 0 995) 1 500) 2 5000) 3 10) 4 20) 5 2) 6 1800) 7 5) 8 4150) 9 100) 10 2900) hx hb hK hP hD hS 1 2 rfl rfl (by decide) (by decide) dX6_init_160 (fun H locs hP hD hS => ?_)
  have hP : va_P D vwCl (zmod cs (zoF [a0, q1, q2, q3, q4, q5]) (zU (zU (zU (zU (zU (zU (zU (zU (zU (zU (zU (zU (fun _ => 0) 0 995) 1 500) 2 5000) 3 10) 4 20) 5 2) 6 1800) 7 5) 8 4150) 9 100) 10 2900) 11 4000) (fun _ => 0) (fun _ => 0) 0 0 0 (fun _ => 0) 0 0 (fun _ => 0)) H := hP
  have hD : va_D A0 (zmod cs (zoF [a0, q1, q2, q3, q4, q5]) (zU (zU (zU (zU (zU (zU (zU (zU (zU (zU (zU (zU (fun _ => 0) 0 995) 1 500) 2 5000) 3 10) 4 20) 5 2) 6 1800) 7 5) 8 4150) 9 100) 10 2900) 11 4000) (fun _ => 0) (fun _ => 0) 0 0 0 (fun _ => 0) 0 0 (fun _ => 0)) := zD_addr hD rfl
  refine zr_iconst hx hb dX6_init_161 ?_
  refine lv_istore_n (lv' := [(1, .int (zI 0)), (0, .ref ((zoF [a0, q1, q2, q3, q4, q5]) 0))]) hx hb dX6_init_162 rfl hl (by decide) rfl (fun ls hl => ?_)
  refine lv_iload_n hx hb dX6_init_163 rfl (lv_at hl 0 rfl) ?_
  refine zr_bipush hx hb dX6_init_164 (by decide) ?_
  refine zr_icmp_ge (tgt := 205) hx hb dX6_init_166 (by decide) (by decide) (by decide) (fun c6 => ?_) (fun c6 => ?_)
  · exact absurd c6 (by decide)
  · refine lv_aload_n hx hb dX6_init_169 rfl (lv_at hl 1 rfl) ?_
    refine va_get (D := D) (ci := 6) (v := .ref ((zoF [a0, q1, q2, q3, q4, q5]) 1)) (C := RX6) (T := TX6) (N := 10) hx hb hts hiX6 hown hK hP 0 rfl rfl 0 (by decide) (hts (.fieldLink RX6 7 "ChargeEstimatorModel" "all" "[J") (List.mem_of_getElem? (i := 5) rfl)) (fun _ h9 => h9) rfl dX6_init_170 ?_
    refine zr_bipush hx hb dX6_init_173 (by decide) ?_
    refine lv_iload_n hx hb dX6_init_175 rfl (lv_at hl 0 rfl) ?_
    refine zr_iadd hx hb dX6_init_176 ?_
    refine zr_topi (b := 12) (by decide) ?_
    refine lv_iload_n hx hb dX6_init_177 rfl (lv_at hl 0 rfl) ?_
    refine zc_rl (va_runS (As := [.int (zI 0)]) (rest := [.int (zI 12), .ref ((zoF [a0, q1, q2, q3, q4, q5]) 1)]) ⟨hx, hb, hml, hown, hts⟩ (met_X6_firstVoltage l 0 (by first | decide | omega)) (va_cwS 1 hts gX6_init_X6_firstVoltage rfl rfl rfl (by decide +kernel) ⟨Nat.le_of_ble_eq_true rfl, Nat.le_of_ble_eq_true rfl⟩) ⟨zTrue.blind, fun U hU hW => ⟨rfl, trivial⟩⟩ rfl rfl hl.1 rfl (lv_room (Nat.le_of_ble_eq_true rfl)) dX6_init_178 ⟨Nat.le_of_ble_eq_true rfl, Nat.le_of_ble_eq_true rfl⟩) ?_
    refine zr_last (D := D) (g := zU (zU (zU (zU (zU (zU (zU (zU (zU (zU (zU (zU (fun _ => 0) 0 995) 1 500) 2 5000) 3 10) 4 20) 5 2) 6 1800) 7 5) 8 4150) 9 100) 10 2900) 11 4000) hx hb hK hP hD hS 1 2 rfl rfl (by decide) (by decide) dX6_init_181 (fun H locs hP hD hS => ?_)
    have hP : va_P D vwCl (zmod cs (zoF [a0, q1, q2, q3, q4, q5]) (zU (zU (zU (zU (zU (zU (zU (zU (zU (zU (zU (zU (zU (fun _ => 0) 0 995) 1 500) 2 5000) 3 10) 4 20) 5 2) 6 1800) 7 5) 8 4150) 9 100) 10 2900) 11 4000) 12 (zIlo 0)) (fun _ => 0) (fun _ => 0) 0 0 0 (fun _ => 0) 0 0 (fun _ => 0)) H := hP
    have hD : va_D A0 (zmod cs (zoF [a0, q1, q2, q3, q4, q5]) (zU (zU (zU (zU (zU (zU (zU (zU (zU (zU (zU (zU (zU (fun _ => 0) 0 995) 1 500) 2 5000) 3 10) 4 20) 5 2) 6 1800) 7 5) 8 4150) 9 100) 10 2900) 11 4000) 12 (zIlo 0)) (fun _ => 0) (fun _ => 0) 0 0 0 (fun _ => 0) 0 0 (fun _ => 0)) := zD_addr hD rfl
    refine lv_aload_n hx hb dX6_init_182 rfl (lv_at hl 1 rfl) ?_
    refine va_get (D := D) (ci := 6) (v := .ref ((zoF [a0, q1, q2, q3, q4, q5]) 1)) (C := RX6) (T := TX6) (N := 10) hx hb hts hiX6 hown hK hP 0 rfl rfl 0 (by decide) (hts (.fieldLink RX6 7 "ChargeEstimatorModel" "all" "[J") (List.mem_of_getElem? (i := 5) rfl)) (fun _ h9 => h9) rfl dX6_init_183 ?_
    refine zr_bipush hx hb dX6_init_186 (by decide) ?_
    refine lv_iload_n hx hb dX6_init_188 rfl (lv_at hl 0 rfl) ?_
    refine zr_iadd hx hb dX6_init_189 ?_
    refine zr_topi (b := 23) (by decide) ?_
    refine lv_iload_n hx hb dX6_init_190 rfl (lv_at hl 0 rfl) ?_
    refine zc_rl (va_runS (As := [.int (zI 0)]) (rest := [.int (zI 23), .ref ((zoF [a0, q1, q2, q3, q4, q5]) 1)]) ⟨hx, hb, hml, hown, hts⟩ (met_X6_firstVoltage l 0 (by first | decide | omega)) (va_cwS 1 hts gX6_init_X6_firstVoltage rfl rfl rfl (by decide +kernel) ⟨Nat.le_of_ble_eq_true rfl, Nat.le_of_ble_eq_true rfl⟩) ⟨zTrue.blind, fun U hU hW => ⟨rfl, trivial⟩⟩ rfl rfl hl.1 rfl (lv_room (Nat.le_of_ble_eq_true rfl)) dX6_init_191 ⟨Nat.le_of_ble_eq_true rfl, Nat.le_of_ble_eq_true rfl⟩) ?_
    refine zr_ldc2 (n := 40) hx hb hown (hts (.constantLong RX6 54 (40)) (List.mem_of_getElem? (i := 23) rfl)) rfl dX6_init_194 ?_
    refine zr_ladd hx hb dX6_init_197 ?_
    refine zr_last (D := D) (g := zU (zU (zU (zU (zU (zU (zU (zU (zU (zU (zU (zU (zU (fun _ => 0) 0 995) 1 500) 2 5000) 3 10) 4 20) 5 2) 6 1800) 7 5) 8 4150) 9 100) 10 2900) 11 4000) 12 (zIlo 0)) hx hb hK hP hD hS 1 2 rfl rfl (by decide) (by decide) dX6_init_198 (fun H locs hP hD hS => ?_)
    have hP : va_P D vwCl (zmod cs (zoF [a0, q1, q2, q3, q4, q5]) (zU (zU (zU (zU (zU (zU (zU (zU (zU (zU (zU (zU (zU (zU (fun _ => 0) 0 995) 1 500) 2 5000) 3 10) 4 20) 5 2) 6 1800) 7 5) 8 4150) 9 100) 10 2900) 11 4000) 12 (zIlo 0)) 23 ((zIlo 0) + 40)) (fun _ => 0) (fun _ => 0) 0 0 0 (fun _ => 0) 0 0 (fun _ => 0)) H := hP
    have hD : va_D A0 (zmod cs (zoF [a0, q1, q2, q3, q4, q5]) (zU (zU (zU (zU (zU (zU (zU (zU (zU (zU (zU (zU (zU (zU (fun _ => 0) 0 995) 1 500) 2 5000) 3 10) 4 20) 5 2) 6 1800) 7 5) 8 4150) 9 100) 10 2900) 11 4000) 12 (zIlo 0)) 23 ((zIlo 0) + 40)) (fun _ => 0) (fun _ => 0) 0 0 0 (fun _ => 0) 0 0 (fun _ => 0)) := zD_addr hD rfl
    refine zr_iinc (kk := 0) (lv' := [(1, .int (zI 1)), (0, .ref ((zoF [a0, q1, q2, q3, q4, q5]) 0))]) hx hb dX6_init_199 hl rfl (by decide) rfl (fun ls hl => ?_)
    refine lv_goto (tgt := 163) hx hb dX6_init_202 (by decide) ?_
    refine lv_iload_n hx hb dX6_init_163 rfl (lv_at hl 0 rfl) ?_
    refine zr_bipush hx hb dX6_init_164 (by decide) ?_
    refine zr_icmp_ge (tgt := 205) hx hb dX6_init_166 (by decide) (by decide) (by decide) (fun c7 => ?_) (fun c7 => ?_)
    · exact absurd c7 (by decide)
    · refine lv_aload_n hx hb dX6_init_169 rfl (lv_at hl 1 rfl) ?_
      refine va_get (D := D) (ci := 6) (v := .ref ((zoF [a0, q1, q2, q3, q4, q5]) 1)) (C := RX6) (T := TX6) (N := 10) hx hb hts hiX6 hown hK hP 0 rfl rfl 0 (by decide) (hts (.fieldLink RX6 7 "ChargeEstimatorModel" "all" "[J") (List.mem_of_getElem? (i := 5) rfl)) (fun _ h9 => h9) rfl dX6_init_170 ?_
      refine zr_bipush hx hb dX6_init_173 (by decide) ?_
      refine lv_iload_n hx hb dX6_init_175 rfl (lv_at hl 0 rfl) ?_
      refine zr_iadd hx hb dX6_init_176 ?_
      refine zr_topi (b := 13) (by decide) ?_
      refine lv_iload_n hx hb dX6_init_177 rfl (lv_at hl 0 rfl) ?_
      refine zc_rl (va_runS (As := [.int (zI 1)]) (rest := [.int (zI 13), .ref ((zoF [a0, q1, q2, q3, q4, q5]) 1)]) ⟨hx, hb, hml, hown, hts⟩ (met_X6_firstVoltage l 1 (by first | decide | omega)) (va_cwS 1 hts gX6_init_X6_firstVoltage rfl rfl rfl (by decide +kernel) ⟨Nat.le_of_ble_eq_true rfl, Nat.le_of_ble_eq_true rfl⟩) ⟨zTrue.blind, fun U hU hW => ⟨rfl, trivial⟩⟩ rfl rfl hl.1 rfl (lv_room (Nat.le_of_ble_eq_true rfl)) dX6_init_178 ⟨Nat.le_of_ble_eq_true rfl, Nat.le_of_ble_eq_true rfl⟩) ?_
      refine zr_last (D := D) (g := zU (zU (zU (zU (zU (zU (zU (zU (zU (zU (zU (zU (zU (zU (fun _ => 0) 0 995) 1 500) 2 5000) 3 10) 4 20) 5 2) 6 1800) 7 5) 8 4150) 9 100) 10 2900) 11 4000) 12 (zIlo 0)) 23 ((zIlo 0) + 40)) hx hb hK hP hD hS 1 2 rfl rfl (by decide) (by decide) dX6_init_181 (fun H locs hP hD hS => ?_)
      have hP : va_P D vwCl (zmod cs (zoF [a0, q1, q2, q3, q4, q5]) (zU (zU (zU (zU (zU (zU (zU (zU (zU (zU (zU (zU (zU (zU (zU (fun _ => 0) 0 995) 1 500) 2 5000) 3 10) 4 20) 5 2) 6 1800) 7 5) 8 4150) 9 100) 10 2900) 11 4000) 12 (zIlo 0)) 23 ((zIlo 0) + 40)) 13 (zIlo 1)) (fun _ => 0) (fun _ => 0) 0 0 0 (fun _ => 0) 0 0 (fun _ => 0)) H := hP
      have hD : va_D A0 (zmod cs (zoF [a0, q1, q2, q3, q4, q5]) (zU (zU (zU (zU (zU (zU (zU (zU (zU (zU (zU (zU (zU (zU (zU (fun _ => 0) 0 995) 1 500) 2 5000) 3 10) 4 20) 5 2) 6 1800) 7 5) 8 4150) 9 100) 10 2900) 11 4000) 12 (zIlo 0)) 23 ((zIlo 0) + 40)) 13 (zIlo 1)) (fun _ => 0) (fun _ => 0) 0 0 0 (fun _ => 0) 0 0 (fun _ => 0)) := zD_addr hD rfl
      refine lv_aload_n hx hb dX6_init_182 rfl (lv_at hl 1 rfl) ?_
      refine va_get (D := D) (ci := 6) (v := .ref ((zoF [a0, q1, q2, q3, q4, q5]) 1)) (C := RX6) (T := TX6) (N := 10) hx hb hts hiX6 hown hK hP 0 rfl rfl 0 (by decide) (hts (.fieldLink RX6 7 "ChargeEstimatorModel" "all" "[J") (List.mem_of_getElem? (i := 5) rfl)) (fun _ h9 => h9) rfl dX6_init_183 ?_
      refine zr_bipush hx hb dX6_init_186 (by decide) ?_
      refine lv_iload_n hx hb dX6_init_188 rfl (lv_at hl 0 rfl) ?_
      refine zr_iadd hx hb dX6_init_189 ?_
      refine zr_topi (b := 24) (by decide) ?_
      refine lv_iload_n hx hb dX6_init_190 rfl (lv_at hl 0 rfl) ?_
      refine zc_rl (va_runS (As := [.int (zI 1)]) (rest := [.int (zI 24), .ref ((zoF [a0, q1, q2, q3, q4, q5]) 1)]) ⟨hx, hb, hml, hown, hts⟩ (met_X6_firstVoltage l 1 (by first | decide | omega)) (va_cwS 1 hts gX6_init_X6_firstVoltage rfl rfl rfl (by decide +kernel) ⟨Nat.le_of_ble_eq_true rfl, Nat.le_of_ble_eq_true rfl⟩) ⟨zTrue.blind, fun U hU hW => ⟨rfl, trivial⟩⟩ rfl rfl hl.1 rfl (lv_room (Nat.le_of_ble_eq_true rfl)) dX6_init_191 ⟨Nat.le_of_ble_eq_true rfl, Nat.le_of_ble_eq_true rfl⟩) ?_
      refine zr_ldc2 (n := 40) hx hb hown (hts (.constantLong RX6 54 (40)) (List.mem_of_getElem? (i := 23) rfl)) rfl dX6_init_194 ?_
      refine zr_ladd hx hb dX6_init_197 ?_
      refine zr_last (D := D) (g := zU (zU (zU (zU (zU (zU (zU (zU (zU (zU (zU (zU (zU (zU (zU (fun _ => 0) 0 995) 1 500) 2 5000) 3 10) 4 20) 5 2) 6 1800) 7 5) 8 4150) 9 100) 10 2900) 11 4000) 12 (zIlo 0)) 23 ((zIlo 0) + 40)) 13 (zIlo 1)) hx hb hK hP hD hS 1 2 rfl rfl (by decide) (by decide) dX6_init_198 (fun H locs hP hD hS => ?_)
      have hP : va_P D vwCl (zmod cs (zoF [a0, q1, q2, q3, q4, q5]) (zU (zU (zU (zU (zU (zU (zU (zU (zU (zU (zU (zU (zU (zU (zU (zU (fun _ => 0) 0 995) 1 500) 2 5000) 3 10) 4 20) 5 2) 6 1800) 7 5) 8 4150) 9 100) 10 2900) 11 4000) 12 (zIlo 0)) 23 ((zIlo 0) + 40)) 13 (zIlo 1)) 24 ((zIlo 1) + 40)) (fun _ => 0) (fun _ => 0) 0 0 0 (fun _ => 0) 0 0 (fun _ => 0)) H := hP
      have hD : va_D A0 (zmod cs (zoF [a0, q1, q2, q3, q4, q5]) (zU (zU (zU (zU (zU (zU (zU (zU (zU (zU (zU (zU (zU (zU (zU (zU (fun _ => 0) 0 995) 1 500) 2 5000) 3 10) 4 20) 5 2) 6 1800) 7 5) 8 4150) 9 100) 10 2900) 11 4000) 12 (zIlo 0)) 23 ((zIlo 0) + 40)) 13 (zIlo 1)) 24 ((zIlo 1) + 40)) (fun _ => 0) (fun _ => 0) 0 0 0 (fun _ => 0) 0 0 (fun _ => 0)) := zD_addr hD rfl
      refine zr_iinc (kk := 0) (lv' := [(1, .int (zI 2)), (0, .ref ((zoF [a0, q1, q2, q3, q4, q5]) 0))]) hx hb dX6_init_199 hl rfl (by decide) rfl (fun ls hl => ?_)
      refine lv_goto (tgt := 163) hx hb dX6_init_202 (by decide) ?_
      refine lv_iload_n hx hb dX6_init_163 rfl (lv_at hl 0 rfl) ?_
      refine zr_bipush hx hb dX6_init_164 (by decide) ?_
      refine zr_icmp_ge (tgt := 205) hx hb dX6_init_166 (by decide) (by decide) (by decide) (fun c8 => ?_) (fun c8 => ?_)
      · exact absurd c8 (by decide)
      · refine lv_aload_n hx hb dX6_init_169 rfl (lv_at hl 1 rfl) ?_
        refine va_get (D := D) (ci := 6) (v := .ref ((zoF [a0, q1, q2, q3, q4, q5]) 1)) (C := RX6) (T := TX6) (N := 10) hx hb hts hiX6 hown hK hP 0 rfl rfl 0 (by decide) (hts (.fieldLink RX6 7 "ChargeEstimatorModel" "all" "[J") (List.mem_of_getElem? (i := 5) rfl)) (fun _ h9 => h9) rfl dX6_init_170 ?_
        refine zr_bipush hx hb dX6_init_173 (by decide) ?_
        refine lv_iload_n hx hb dX6_init_175 rfl (lv_at hl 0 rfl) ?_
        refine zr_iadd hx hb dX6_init_176 ?_
        refine zr_topi (b := 14) (by decide) ?_
        refine lv_iload_n hx hb dX6_init_177 rfl (lv_at hl 0 rfl) ?_
        refine zc_rl (va_runS (As := [.int (zI 2)]) (rest := [.int (zI 14), .ref ((zoF [a0, q1, q2, q3, q4, q5]) 1)]) ⟨hx, hb, hml, hown, hts⟩ (met_X6_firstVoltage l 2 (by first | decide | omega)) (va_cwS 1 hts gX6_init_X6_firstVoltage rfl rfl rfl (by decide +kernel) ⟨Nat.le_of_ble_eq_true rfl, Nat.le_of_ble_eq_true rfl⟩) ⟨zTrue.blind, fun U hU hW => ⟨rfl, trivial⟩⟩ rfl rfl hl.1 rfl (lv_room (Nat.le_of_ble_eq_true rfl)) dX6_init_178 ⟨Nat.le_of_ble_eq_true rfl, Nat.le_of_ble_eq_true rfl⟩) ?_
        refine zr_last (D := D) (g := zU (zU (zU (zU (zU (zU (zU (zU (zU (zU (zU (zU (zU (zU (zU (zU (fun _ => 0) 0 995) 1 500) 2 5000) 3 10) 4 20) 5 2) 6 1800) 7 5) 8 4150) 9 100) 10 2900) 11 4000) 12 (zIlo 0)) 23 ((zIlo 0) + 40)) 13 (zIlo 1)) 24 ((zIlo 1) + 40)) hx hb hK hP hD hS 1 2 rfl rfl (by decide) (by decide) dX6_init_181 (fun H locs hP hD hS => ?_)
        have hP : va_P D vwCl (zmod cs (zoF [a0, q1, q2, q3, q4, q5]) (zU (zU (zU (zU (zU (zU (zU (zU (zU (zU (zU (zU (zU (zU (zU (zU (zU (fun _ => 0) 0 995) 1 500) 2 5000) 3 10) 4 20) 5 2) 6 1800) 7 5) 8 4150) 9 100) 10 2900) 11 4000) 12 (zIlo 0)) 23 ((zIlo 0) + 40)) 13 (zIlo 1)) 24 ((zIlo 1) + 40)) 14 (zIlo 2)) (fun _ => 0) (fun _ => 0) 0 0 0 (fun _ => 0) 0 0 (fun _ => 0)) H := hP
        have hD : va_D A0 (zmod cs (zoF [a0, q1, q2, q3, q4, q5]) (zU (zU (zU (zU (zU (zU (zU (zU (zU (zU (zU (zU (zU (zU (zU (zU (zU (fun _ => 0) 0 995) 1 500) 2 5000) 3 10) 4 20) 5 2) 6 1800) 7 5) 8 4150) 9 100) 10 2900) 11 4000) 12 (zIlo 0)) 23 ((zIlo 0) + 40)) 13 (zIlo 1)) 24 ((zIlo 1) + 40)) 14 (zIlo 2)) (fun _ => 0) (fun _ => 0) 0 0 0 (fun _ => 0) 0 0 (fun _ => 0)) := zD_addr hD rfl
        refine lv_aload_n hx hb dX6_init_182 rfl (lv_at hl 1 rfl) ?_
        refine va_get (D := D) (ci := 6) (v := .ref ((zoF [a0, q1, q2, q3, q4, q5]) 1)) (C := RX6) (T := TX6) (N := 10) hx hb hts hiX6 hown hK hP 0 rfl rfl 0 (by decide) (hts (.fieldLink RX6 7 "ChargeEstimatorModel" "all" "[J") (List.mem_of_getElem? (i := 5) rfl)) (fun _ h9 => h9) rfl dX6_init_183 ?_
        refine zr_bipush hx hb dX6_init_186 (by decide) ?_
        refine lv_iload_n hx hb dX6_init_188 rfl (lv_at hl 0 rfl) ?_
        refine zr_iadd hx hb dX6_init_189 ?_
        refine zr_topi (b := 25) (by decide) ?_
        refine lv_iload_n hx hb dX6_init_190 rfl (lv_at hl 0 rfl) ?_
        refine zc_rl (va_runS (As := [.int (zI 2)]) (rest := [.int (zI 25), .ref ((zoF [a0, q1, q2, q3, q4, q5]) 1)]) ⟨hx, hb, hml, hown, hts⟩ (met_X6_firstVoltage l 2 (by first | decide | omega)) (va_cwS 1 hts gX6_init_X6_firstVoltage rfl rfl rfl (by decide +kernel) ⟨Nat.le_of_ble_eq_true rfl, Nat.le_of_ble_eq_true rfl⟩) ⟨zTrue.blind, fun U hU hW => ⟨rfl, trivial⟩⟩ rfl rfl hl.1 rfl (lv_room (Nat.le_of_ble_eq_true rfl)) dX6_init_191 ⟨Nat.le_of_ble_eq_true rfl, Nat.le_of_ble_eq_true rfl⟩) ?_
        refine zr_ldc2 (n := 40) hx hb hown (hts (.constantLong RX6 54 (40)) (List.mem_of_getElem? (i := 23) rfl)) rfl dX6_init_194 ?_
        refine zr_ladd hx hb dX6_init_197 ?_
        refine zr_last (D := D) (g := zU (zU (zU (zU (zU (zU (zU (zU (zU (zU (zU (zU (zU (zU (zU (zU (zU (fun _ => 0) 0 995) 1 500) 2 5000) 3 10) 4 20) 5 2) 6 1800) 7 5) 8 4150) 9 100) 10 2900) 11 4000) 12 (zIlo 0)) 23 ((zIlo 0) + 40)) 13 (zIlo 1)) 24 ((zIlo 1) + 40)) 14 (zIlo 2)) hx hb hK hP hD hS 1 2 rfl rfl (by decide) (by decide) dX6_init_198 (fun H locs hP hD hS => ?_)
        have hP : va_P D vwCl (zmod cs (zoF [a0, q1, q2, q3, q4, q5]) (zU (zU (zU (zU (zU (zU (zU (zU (zU (zU (zU (zU (zU (zU (zU (zU (zU (zU (fun _ => 0) 0 995) 1 500) 2 5000) 3 10) 4 20) 5 2) 6 1800) 7 5) 8 4150) 9 100) 10 2900) 11 4000) 12 (zIlo 0)) 23 ((zIlo 0) + 40)) 13 (zIlo 1)) 24 ((zIlo 1) + 40)) 14 (zIlo 2)) 25 ((zIlo 2) + 40)) (fun _ => 0) (fun _ => 0) 0 0 0 (fun _ => 0) 0 0 (fun _ => 0)) H := hP
        have hD : va_D A0 (zmod cs (zoF [a0, q1, q2, q3, q4, q5]) (zU (zU (zU (zU (zU (zU (zU (zU (zU (zU (zU (zU (zU (zU (zU (zU (zU (zU (fun _ => 0) 0 995) 1 500) 2 5000) 3 10) 4 20) 5 2) 6 1800) 7 5) 8 4150) 9 100) 10 2900) 11 4000) 12 (zIlo 0)) 23 ((zIlo 0) + 40)) 13 (zIlo 1)) 24 ((zIlo 1) + 40)) 14 (zIlo 2)) 25 ((zIlo 2) + 40)) (fun _ => 0) (fun _ => 0) 0 0 0 (fun _ => 0) 0 0 (fun _ => 0)) := zD_addr hD rfl
        refine zr_iinc (kk := 0) (lv' := [(1, .int (zI 3)), (0, .ref ((zoF [a0, q1, q2, q3, q4, q5]) 0))]) hx hb dX6_init_199 hl rfl (by decide) rfl (fun ls hl => ?_)
        refine lv_goto (tgt := 163) hx hb dX6_init_202 (by decide) ?_
        refine lv_iload_n hx hb dX6_init_163 rfl (lv_at hl 0 rfl) ?_
        refine zr_bipush hx hb dX6_init_164 (by decide) ?_
        refine zr_icmp_ge (tgt := 205) hx hb dX6_init_166 (by decide) (by decide) (by decide) (fun c9 => ?_) (fun c9 => ?_)
        · exact absurd c9 (by decide)
        · refine lv_aload_n hx hb dX6_init_169 rfl (lv_at hl 1 rfl) ?_
          refine va_get (D := D) (ci := 6) (v := .ref ((zoF [a0, q1, q2, q3, q4, q5]) 1)) (C := RX6) (T := TX6) (N := 10) hx hb hts hiX6 hown hK hP 0 rfl rfl 0 (by decide) (hts (.fieldLink RX6 7 "ChargeEstimatorModel" "all" "[J") (List.mem_of_getElem? (i := 5) rfl)) (fun _ h9 => h9) rfl dX6_init_170 ?_
          refine zr_bipush hx hb dX6_init_173 (by decide) ?_
          refine lv_iload_n hx hb dX6_init_175 rfl (lv_at hl 0 rfl) ?_
          refine zr_iadd hx hb dX6_init_176 ?_
          refine zr_topi (b := 15) (by decide) ?_
          refine lv_iload_n hx hb dX6_init_177 rfl (lv_at hl 0 rfl) ?_
          refine zc_rl (va_runS (As := [.int (zI 3)]) (rest := [.int (zI 15), .ref ((zoF [a0, q1, q2, q3, q4, q5]) 1)]) ⟨hx, hb, hml, hown, hts⟩ (met_X6_firstVoltage l 3 (by first | decide | omega)) (va_cwS 1 hts gX6_init_X6_firstVoltage rfl rfl rfl (by decide +kernel) ⟨Nat.le_of_ble_eq_true rfl, Nat.le_of_ble_eq_true rfl⟩) ⟨zTrue.blind, fun U hU hW => ⟨rfl, trivial⟩⟩ rfl rfl hl.1 rfl (lv_room (Nat.le_of_ble_eq_true rfl)) dX6_init_178 ⟨Nat.le_of_ble_eq_true rfl, Nat.le_of_ble_eq_true rfl⟩) ?_
          refine zr_last (D := D) (g := zU (zU (zU (zU (zU (zU (zU (zU (zU (zU (zU (zU (zU (zU (zU (zU (zU (zU (fun _ => 0) 0 995) 1 500) 2 5000) 3 10) 4 20) 5 2) 6 1800) 7 5) 8 4150) 9 100) 10 2900) 11 4000) 12 (zIlo 0)) 23 ((zIlo 0) + 40)) 13 (zIlo 1)) 24 ((zIlo 1) + 40)) 14 (zIlo 2)) 25 ((zIlo 2) + 40)) hx hb hK hP hD hS 1 2 rfl rfl (by decide) (by decide) dX6_init_181 (fun H locs hP hD hS => ?_)
          have hP : va_P D vwCl (zmod cs (zoF [a0, q1, q2, q3, q4, q5]) (zU (zU (zU (zU (zU (zU (zU (zU (zU (zU (zU (zU (zU (zU (zU (zU (zU (zU (zU (fun _ => 0) 0 995) 1 500) 2 5000) 3 10) 4 20) 5 2) 6 1800) 7 5) 8 4150) 9 100) 10 2900) 11 4000) 12 (zIlo 0)) 23 ((zIlo 0) + 40)) 13 (zIlo 1)) 24 ((zIlo 1) + 40)) 14 (zIlo 2)) 25 ((zIlo 2) + 40)) 15 (zIlo 3)) (fun _ => 0) (fun _ => 0) 0 0 0 (fun _ => 0) 0 0 (fun _ => 0)) H := hP
          have hD : va_D A0 (zmod cs (zoF [a0, q1, q2, q3, q4, q5]) (zU (zU (zU (zU (zU (zU (zU (zU (zU (zU (zU (zU (zU (zU (zU (zU (zU (zU (zU (fun _ => 0) 0 995) 1 500) 2 5000) 3 10) 4 20) 5 2) 6 1800) 7 5) 8 4150) 9 100) 10 2900) 11 4000) 12 (zIlo 0)) 23 ((zIlo 0) + 40)) 13 (zIlo 1)) 24 ((zIlo 1) + 40)) 14 (zIlo 2)) 25 ((zIlo 2) + 40)) 15 (zIlo 3)) (fun _ => 0) (fun _ => 0) 0 0 0 (fun _ => 0) 0 0 (fun _ => 0)) := zD_addr hD rfl
          refine lv_aload_n hx hb dX6_init_182 rfl (lv_at hl 1 rfl) ?_
          refine va_get (D := D) (ci := 6) (v := .ref ((zoF [a0, q1, q2, q3, q4, q5]) 1)) (C := RX6) (T := TX6) (N := 10) hx hb hts hiX6 hown hK hP 0 rfl rfl 0 (by decide) (hts (.fieldLink RX6 7 "ChargeEstimatorModel" "all" "[J") (List.mem_of_getElem? (i := 5) rfl)) (fun _ h9 => h9) rfl dX6_init_183 ?_
          refine zr_bipush hx hb dX6_init_186 (by decide) ?_
          refine lv_iload_n hx hb dX6_init_188 rfl (lv_at hl 0 rfl) ?_
          refine zr_iadd hx hb dX6_init_189 ?_
          refine zr_topi (b := 26) (by decide) ?_
          refine lv_iload_n hx hb dX6_init_190 rfl (lv_at hl 0 rfl) ?_
          refine zc_rl (va_runS (As := [.int (zI 3)]) (rest := [.int (zI 26), .ref ((zoF [a0, q1, q2, q3, q4, q5]) 1)]) ⟨hx, hb, hml, hown, hts⟩ (met_X6_firstVoltage l 3 (by first | decide | omega)) (va_cwS 1 hts gX6_init_X6_firstVoltage rfl rfl rfl (by decide +kernel) ⟨Nat.le_of_ble_eq_true rfl, Nat.le_of_ble_eq_true rfl⟩) ⟨zTrue.blind, fun U hU hW => ⟨rfl, trivial⟩⟩ rfl rfl hl.1 rfl (lv_room (Nat.le_of_ble_eq_true rfl)) dX6_init_191 ⟨Nat.le_of_ble_eq_true rfl, Nat.le_of_ble_eq_true rfl⟩) ?_
          refine zr_ldc2 (n := 40) hx hb hown (hts (.constantLong RX6 54 (40)) (List.mem_of_getElem? (i := 23) rfl)) rfl dX6_init_194 ?_
          refine zr_ladd hx hb dX6_init_197 ?_
          refine zr_last (D := D) (g := zU (zU (zU (zU (zU (zU (zU (zU (zU (zU (zU (zU (zU (zU (zU (zU (zU (zU (zU (fun _ => 0) 0 995) 1 500) 2 5000) 3 10) 4 20) 5 2) 6 1800) 7 5) 8 4150) 9 100) 10 2900) 11 4000) 12 (zIlo 0)) 23 ((zIlo 0) + 40)) 13 (zIlo 1)) 24 ((zIlo 1) + 40)) 14 (zIlo 2)) 25 ((zIlo 2) + 40)) 15 (zIlo 3)) hx hb hK hP hD hS 1 2 rfl rfl (by decide) (by decide) dX6_init_198 (fun H locs hP hD hS => ?_)
          have hP : va_P D vwCl (zmod cs (zoF [a0, q1, q2, q3, q4, q5]) (zU (zU (zU (zU (zU (zU (zU (zU (zU (zU (zU (zU (zU (zU (zU (zU (zU (zU (zU (zU (fun _ => 0) 0 995) 1 500) 2 5000) 3 10) 4 20) 5 2) 6 1800) 7 5) 8 4150) 9 100) 10 2900) 11 4000) 12 (zIlo 0)) 23 ((zIlo 0) + 40)) 13 (zIlo 1)) 24 ((zIlo 1) + 40)) 14 (zIlo 2)) 25 ((zIlo 2) + 40)) 15 (zIlo 3)) 26 ((zIlo 3) + 40)) (fun _ => 0) (fun _ => 0) 0 0 0 (fun _ => 0) 0 0 (fun _ => 0)) H := hP
          have hD : va_D A0 (zmod cs (zoF [a0, q1, q2, q3, q4, q5]) (zU (zU (zU (zU (zU (zU (zU (zU (zU (zU (zU (zU (zU (zU (zU (zU (zU (zU (zU (zU (fun _ => 0) 0 995) 1 500) 2 5000) 3 10) 4 20) 5 2) 6 1800) 7 5) 8 4150) 9 100) 10 2900) 11 4000) 12 (zIlo 0)) 23 ((zIlo 0) + 40)) 13 (zIlo 1)) 24 ((zIlo 1) + 40)) 14 (zIlo 2)) 25 ((zIlo 2) + 40)) 15 (zIlo 3)) 26 ((zIlo 3) + 40)) (fun _ => 0) (fun _ => 0) 0 0 0 (fun _ => 0) 0 0 (fun _ => 0)) := zD_addr hD rfl
          refine zr_iinc (kk := 0) (lv' := [(1, .int (zI 4)), (0, .ref ((zoF [a0, q1, q2, q3, q4, q5]) 0))]) hx hb dX6_init_199 hl rfl (by decide) rfl (fun ls hl => ?_)
          refine lv_goto (tgt := 163) hx hb dX6_init_202 (by decide) ?_
          refine lv_iload_n hx hb dX6_init_163 rfl (lv_at hl 0 rfl) ?_
          refine zr_bipush hx hb dX6_init_164 (by decide) ?_
          refine zr_icmp_ge (tgt := 205) hx hb dX6_init_166 (by decide) (by decide) (by decide) (fun c10 => ?_) (fun c10 => ?_)
          · exact absurd c10 (by decide)
          · refine lv_aload_n hx hb dX6_init_169 rfl (lv_at hl 1 rfl) ?_
            refine va_get (D := D) (ci := 6) (v := .ref ((zoF [a0, q1, q2, q3, q4, q5]) 1)) (C := RX6) (T := TX6) (N := 10) hx hb hts hiX6 hown hK hP 0 rfl rfl 0 (by decide) (hts (.fieldLink RX6 7 "ChargeEstimatorModel" "all" "[J") (List.mem_of_getElem? (i := 5) rfl)) (fun _ h9 => h9) rfl dX6_init_170 ?_
            refine zr_bipush hx hb dX6_init_173 (by decide) ?_
            refine lv_iload_n hx hb dX6_init_175 rfl (lv_at hl 0 rfl) ?_
            refine zr_iadd hx hb dX6_init_176 ?_
            refine zr_topi (b := 16) (by decide) ?_
            refine lv_iload_n hx hb dX6_init_177 rfl (lv_at hl 0 rfl) ?_
            refine zc_rl (va_runS (As := [.int (zI 4)]) (rest := [.int (zI 16), .ref ((zoF [a0, q1, q2, q3, q4, q5]) 1)]) ⟨hx, hb, hml, hown, hts⟩ (met_X6_firstVoltage l 4 (by first | decide | omega)) (va_cwS 1 hts gX6_init_X6_firstVoltage rfl rfl rfl (by decide +kernel) ⟨Nat.le_of_ble_eq_true rfl, Nat.le_of_ble_eq_true rfl⟩) ⟨zTrue.blind, fun U hU hW => ⟨rfl, trivial⟩⟩ rfl rfl hl.1 rfl (lv_room (Nat.le_of_ble_eq_true rfl)) dX6_init_178 ⟨Nat.le_of_ble_eq_true rfl, Nat.le_of_ble_eq_true rfl⟩) ?_
            refine zr_last (D := D) (g := zU (zU (zU (zU (zU (zU (zU (zU (zU (zU (zU (zU (zU (zU (zU (zU (zU (zU (zU (zU (fun _ => 0) 0 995) 1 500) 2 5000) 3 10) 4 20) 5 2) 6 1800) 7 5) 8 4150) 9 100) 10 2900) 11 4000) 12 (zIlo 0)) 23 ((zIlo 0) + 40)) 13 (zIlo 1)) 24 ((zIlo 1) + 40)) 14 (zIlo 2)) 25 ((zIlo 2) + 40)) 15 (zIlo 3)) 26 ((zIlo 3) + 40)) hx hb hK hP hD hS 1 2 rfl rfl (by decide) (by decide) dX6_init_181 (fun H locs hP hD hS => ?_)
            have hP : va_P D vwCl (zmod cs (zoF [a0, q1, q2, q3, q4, q5]) (zU (zU (zU (zU (zU (zU (zU (zU (zU (zU (zU (zU (zU (zU (zU (zU (zU (zU (zU (zU (zU (fun _ => 0) 0 995) 1 500) 2 5000) 3 10) 4 20) 5 2) 6 1800) 7 5) 8 4150) 9 100) 10 2900) 11 4000) 12 (zIlo 0)) 23 ((zIlo 0) + 40)) 13 (zIlo 1)) 24 ((zIlo 1) + 40)) 14 (zIlo 2)) 25 ((zIlo 2) + 40)) 15 (zIlo 3)) 26 ((zIlo 3) + 40)) 16 (zIlo 4)) (fun _ => 0) (fun _ => 0) 0 0 0 (fun _ => 0) 0 0 (fun _ => 0)) H := hP
            have hD : va_D A0 (zmod cs (zoF [a0, q1, q2, q3, q4, q5]) (zU (zU (zU (zU (zU (zU (zU (zU (zU (zU (zU (zU (zU (zU (zU (zU (zU (zU (zU (zU (zU (fun _ => 0) 0 995) 1 500) 2 5000) 3 10) 4 20) 5 2) 6 1800) 7 5) 8 4150) 9 100) 10 2900) 11 4000) 12 (zIlo 0)) 23 ((zIlo 0) + 40)) 13 (zIlo 1)) 24 ((zIlo 1) + 40)) 14 (zIlo 2)) 25 ((zIlo 2) + 40)) 15 (zIlo 3)) 26 ((zIlo 3) + 40)) 16 (zIlo 4)) (fun _ => 0) (fun _ => 0) 0 0 0 (fun _ => 0) 0 0 (fun _ => 0)) := zD_addr hD rfl
            refine lv_aload_n hx hb dX6_init_182 rfl (lv_at hl 1 rfl) ?_
            refine va_get (D := D) (ci := 6) (v := .ref ((zoF [a0, q1, q2, q3, q4, q5]) 1)) (C := RX6) (T := TX6) (N := 10) hx hb hts hiX6 hown hK hP 0 rfl rfl 0 (by decide) (hts (.fieldLink RX6 7 "ChargeEstimatorModel" "all" "[J") (List.mem_of_getElem? (i := 5) rfl)) (fun _ h9 => h9) rfl dX6_init_183 ?_
            refine zr_bipush hx hb dX6_init_186 (by decide) ?_
            refine lv_iload_n hx hb dX6_init_188 rfl (lv_at hl 0 rfl) ?_
            refine zr_iadd hx hb dX6_init_189 ?_
            refine zr_topi (b := 27) (by decide) ?_
            refine lv_iload_n hx hb dX6_init_190 rfl (lv_at hl 0 rfl) ?_
            refine zc_rl (va_runS (As := [.int (zI 4)]) (rest := [.int (zI 27), .ref ((zoF [a0, q1, q2, q3, q4, q5]) 1)]) ⟨hx, hb, hml, hown, hts⟩ (met_X6_firstVoltage l 4 (by first | decide | omega)) (va_cwS 1 hts gX6_init_X6_firstVoltage rfl rfl rfl (by decide +kernel) ⟨Nat.le_of_ble_eq_true rfl, Nat.le_of_ble_eq_true rfl⟩) ⟨zTrue.blind, fun U hU hW => ⟨rfl, trivial⟩⟩ rfl rfl hl.1 rfl (lv_room (Nat.le_of_ble_eq_true rfl)) dX6_init_191 ⟨Nat.le_of_ble_eq_true rfl, Nat.le_of_ble_eq_true rfl⟩) ?_
            refine zr_ldc2 (n := 40) hx hb hown (hts (.constantLong RX6 54 (40)) (List.mem_of_getElem? (i := 23) rfl)) rfl dX6_init_194 ?_
            refine zr_ladd hx hb dX6_init_197 ?_
            refine zr_last (D := D) (g := zU (zU (zU (zU (zU (zU (zU (zU (zU (zU (zU (zU (zU (zU (zU (zU (zU (zU (zU (zU (zU (fun _ => 0) 0 995) 1 500) 2 5000) 3 10) 4 20) 5 2) 6 1800) 7 5) 8 4150) 9 100) 10 2900) 11 4000) 12 (zIlo 0)) 23 ((zIlo 0) + 40)) 13 (zIlo 1)) 24 ((zIlo 1) + 40)) 14 (zIlo 2)) 25 ((zIlo 2) + 40)) 15 (zIlo 3)) 26 ((zIlo 3) + 40)) 16 (zIlo 4)) hx hb hK hP hD hS 1 2 rfl rfl (by decide) (by decide) dX6_init_198 (fun H locs hP hD hS => ?_)
            have hP : va_P D vwCl (zmod cs (zoF [a0, q1, q2, q3, q4, q5]) (zU (zU (zU (zU (zU (zU (zU (zU (zU (zU (zU (zU (zU (zU (zU (zU (zU (zU (zU (zU (zU (zU (fun _ => 0) 0 995) 1 500) 2 5000) 3 10) 4 20) 5 2) 6 1800) 7 5) 8 4150) 9 100) 10 2900) 11 4000) 12 (zIlo 0)) 23 ((zIlo 0) + 40)) 13 (zIlo 1)) 24 ((zIlo 1) + 40)) 14 (zIlo 2)) 25 ((zIlo 2) + 40)) 15 (zIlo 3)) 26 ((zIlo 3) + 40)) 16 (zIlo 4)) 27 ((zIlo 4) + 40)) (fun _ => 0) (fun _ => 0) 0 0 0 (fun _ => 0) 0 0 (fun _ => 0)) H := hP
            have hD : va_D A0 (zmod cs (zoF [a0, q1, q2, q3, q4, q5]) (zU (zU (zU (zU (zU (zU (zU (zU (zU (zU (zU (zU (zU (zU (zU (zU (zU (zU (zU (zU (zU (zU (fun _ => 0) 0 995) 1 500) 2 5000) 3 10) 4 20) 5 2) 6 1800) 7 5) 8 4150) 9 100) 10 2900) 11 4000) 12 (zIlo 0)) 23 ((zIlo 0) + 40)) 13 (zIlo 1)) 24 ((zIlo 1) + 40)) 14 (zIlo 2)) 25 ((zIlo 2) + 40)) 15 (zIlo 3)) 26 ((zIlo 3) + 40)) 16 (zIlo 4)) 27 ((zIlo 4) + 40)) (fun _ => 0) (fun _ => 0) 0 0 0 (fun _ => 0) 0 0 (fun _ => 0)) := zD_addr hD rfl
            refine zr_iinc (kk := 0) (lv' := [(1, .int (zI 5)), (0, .ref ((zoF [a0, q1, q2, q3, q4, q5]) 0))]) hx hb dX6_init_199 hl rfl (by decide) rfl (fun ls hl => ?_)
            refine lv_goto (tgt := 163) hx hb dX6_init_202 (by decide) ?_
            refine lv_iload_n hx hb dX6_init_163 rfl (lv_at hl 0 rfl) ?_
            refine zr_bipush hx hb dX6_init_164 (by decide) ?_
            refine zr_icmp_ge (tgt := 205) hx hb dX6_init_166 (by decide) (by decide) (by decide) (fun c11 => ?_) (fun c11 => ?_)
            · exact absurd c11 (by decide)
            · refine lv_aload_n hx hb dX6_init_169 rfl (lv_at hl 1 rfl) ?_
              refine va_get (D := D) (ci := 6) (v := .ref ((zoF [a0, q1, q2, q3, q4, q5]) 1)) (C := RX6) (T := TX6) (N := 10) hx hb hts hiX6 hown hK hP 0 rfl rfl 0 (by decide) (hts (.fieldLink RX6 7 "ChargeEstimatorModel" "all" "[J") (List.mem_of_getElem? (i := 5) rfl)) (fun _ h9 => h9) rfl dX6_init_170 ?_
              refine zr_bipush hx hb dX6_init_173 (by decide) ?_
              refine lv_iload_n hx hb dX6_init_175 rfl (lv_at hl 0 rfl) ?_
              refine zr_iadd hx hb dX6_init_176 ?_
              refine zr_topi (b := 17) (by decide) ?_
              refine lv_iload_n hx hb dX6_init_177 rfl (lv_at hl 0 rfl) ?_
              refine zc_rl (va_runS (As := [.int (zI 5)]) (rest := [.int (zI 17), .ref ((zoF [a0, q1, q2, q3, q4, q5]) 1)]) ⟨hx, hb, hml, hown, hts⟩ (met_X6_firstVoltage l 5 (by first | decide | omega)) (va_cwS 1 hts gX6_init_X6_firstVoltage rfl rfl rfl (by decide +kernel) ⟨Nat.le_of_ble_eq_true rfl, Nat.le_of_ble_eq_true rfl⟩) ⟨zTrue.blind, fun U hU hW => ⟨rfl, trivial⟩⟩ rfl rfl hl.1 rfl (lv_room (Nat.le_of_ble_eq_true rfl)) dX6_init_178 ⟨Nat.le_of_ble_eq_true rfl, Nat.le_of_ble_eq_true rfl⟩) ?_
              refine zr_last (D := D) (g := zU (zU (zU (zU (zU (zU (zU (zU (zU (zU (zU (zU (zU (zU (zU (zU (zU (zU (zU (zU (zU (zU (fun _ => 0) 0 995) 1 500) 2 5000) 3 10) 4 20) 5 2) 6 1800) 7 5) 8 4150) 9 100) 10 2900) 11 4000) 12 (zIlo 0)) 23 ((zIlo 0) + 40)) 13 (zIlo 1)) 24 ((zIlo 1) + 40)) 14 (zIlo 2)) 25 ((zIlo 2) + 40)) 15 (zIlo 3)) 26 ((zIlo 3) + 40)) 16 (zIlo 4)) 27 ((zIlo 4) + 40)) hx hb hK hP hD hS 1 2 rfl rfl (by decide) (by decide) dX6_init_181 (fun H locs hP hD hS => ?_)
              have hP : va_P D vwCl (zmod cs (zoF [a0, q1, q2, q3, q4, q5]) (zU (zU (zU (zU (zU (zU (zU (zU (zU (zU (zU (zU (zU (zU (zU (zU (zU (zU (zU (zU (zU (zU (zU (fun _ => 0) 0 995) 1 500) 2 5000) 3 10) 4 20) 5 2) 6 1800) 7 5) 8 4150) 9 100) 10 2900) 11 4000) 12 (zIlo 0)) 23 ((zIlo 0) + 40)) 13 (zIlo 1)) 24 ((zIlo 1) + 40)) 14 (zIlo 2)) 25 ((zIlo 2) + 40)) 15 (zIlo 3)) 26 ((zIlo 3) + 40)) 16 (zIlo 4)) 27 ((zIlo 4) + 40)) 17 (zIlo 5)) (fun _ => 0) (fun _ => 0) 0 0 0 (fun _ => 0) 0 0 (fun _ => 0)) H := hP
              have hD : va_D A0 (zmod cs (zoF [a0, q1, q2, q3, q4, q5]) (zU (zU (zU (zU (zU (zU (zU (zU (zU (zU (zU (zU (zU (zU (zU (zU (zU (zU (zU (zU (zU (zU (zU (fun _ => 0) 0 995) 1 500) 2 5000) 3 10) 4 20) 5 2) 6 1800) 7 5) 8 4150) 9 100) 10 2900) 11 4000) 12 (zIlo 0)) 23 ((zIlo 0) + 40)) 13 (zIlo 1)) 24 ((zIlo 1) + 40)) 14 (zIlo 2)) 25 ((zIlo 2) + 40)) 15 (zIlo 3)) 26 ((zIlo 3) + 40)) 16 (zIlo 4)) 27 ((zIlo 4) + 40)) 17 (zIlo 5)) (fun _ => 0) (fun _ => 0) 0 0 0 (fun _ => 0) 0 0 (fun _ => 0)) := zD_addr hD rfl
              refine lv_aload_n hx hb dX6_init_182 rfl (lv_at hl 1 rfl) ?_
              refine va_get (D := D) (ci := 6) (v := .ref ((zoF [a0, q1, q2, q3, q4, q5]) 1)) (C := RX6) (T := TX6) (N := 10) hx hb hts hiX6 hown hK hP 0 rfl rfl 0 (by decide) (hts (.fieldLink RX6 7 "ChargeEstimatorModel" "all" "[J") (List.mem_of_getElem? (i := 5) rfl)) (fun _ h9 => h9) rfl dX6_init_183 ?_
              refine zr_bipush hx hb dX6_init_186 (by decide) ?_
              refine lv_iload_n hx hb dX6_init_188 rfl (lv_at hl 0 rfl) ?_
              refine zr_iadd hx hb dX6_init_189 ?_
              refine zr_topi (b := 28) (by decide) ?_
              refine lv_iload_n hx hb dX6_init_190 rfl (lv_at hl 0 rfl) ?_
              refine zc_rl (va_runS (As := [.int (zI 5)]) (rest := [.int (zI 28), .ref ((zoF [a0, q1, q2, q3, q4, q5]) 1)]) ⟨hx, hb, hml, hown, hts⟩ (met_X6_firstVoltage l 5 (by first | decide | omega)) (va_cwS 1 hts gX6_init_X6_firstVoltage rfl rfl rfl (by decide +kernel) ⟨Nat.le_of_ble_eq_true rfl, Nat.le_of_ble_eq_true rfl⟩) ⟨zTrue.blind, fun U hU hW => ⟨rfl, trivial⟩⟩ rfl rfl hl.1 rfl (lv_room (Nat.le_of_ble_eq_true rfl)) dX6_init_191 ⟨Nat.le_of_ble_eq_true rfl, Nat.le_of_ble_eq_true rfl⟩) ?_
              refine zr_ldc2 (n := 40) hx hb hown (hts (.constantLong RX6 54 (40)) (List.mem_of_getElem? (i := 23) rfl)) rfl dX6_init_194 ?_
              refine zr_ladd hx hb dX6_init_197 ?_
              refine zr_last (D := D) (g := zU (zU (zU (zU (zU (zU (zU (zU (zU (zU (zU (zU (zU (zU (zU (zU (zU (zU (zU (zU (zU (zU (zU (fun _ => 0) 0 995) 1 500) 2 5000) 3 10) 4 20) 5 2) 6 1800) 7 5) 8 4150) 9 100) 10 2900) 11 4000) 12 (zIlo 0)) 23 ((zIlo 0) + 40)) 13 (zIlo 1)) 24 ((zIlo 1) + 40)) 14 (zIlo 2)) 25 ((zIlo 2) + 40)) 15 (zIlo 3)) 26 ((zIlo 3) + 40)) 16 (zIlo 4)) 27 ((zIlo 4) + 40)) 17 (zIlo 5)) hx hb hK hP hD hS 1 2 rfl rfl (by decide) (by decide) dX6_init_198 (fun H locs hP hD hS => ?_)
              have hP : va_P D vwCl (zmod cs (zoF [a0, q1, q2, q3, q4, q5]) (zU (zU (zU (zU (zU (zU (zU (zU (zU (zU (zU (zU (zU (zU (zU (zU (zU (zU (zU (zU (zU (zU (zU (zU (fun _ => 0) 0 995) 1 500) 2 5000) 3 10) 4 20) 5 2) 6 1800) 7 5) 8 4150) 9 100) 10 2900) 11 4000) 12 (zIlo 0)) 23 ((zIlo 0) + 40)) 13 (zIlo 1)) 24 ((zIlo 1) + 40)) 14 (zIlo 2)) 25 ((zIlo 2) + 40)) 15 (zIlo 3)) 26 ((zIlo 3) + 40)) 16 (zIlo 4)) 27 ((zIlo 4) + 40)) 17 (zIlo 5)) 28 ((zIlo 5) + 40)) (fun _ => 0) (fun _ => 0) 0 0 0 (fun _ => 0) 0 0 (fun _ => 0)) H := hP
              have hD : va_D A0 (zmod cs (zoF [a0, q1, q2, q3, q4, q5]) (zU (zU (zU (zU (zU (zU (zU (zU (zU (zU (zU (zU (zU (zU (zU (zU (zU (zU (zU (zU (zU (zU (zU (zU (fun _ => 0) 0 995) 1 500) 2 5000) 3 10) 4 20) 5 2) 6 1800) 7 5) 8 4150) 9 100) 10 2900) 11 4000) 12 (zIlo 0)) 23 ((zIlo 0) + 40)) 13 (zIlo 1)) 24 ((zIlo 1) + 40)) 14 (zIlo 2)) 25 ((zIlo 2) + 40)) 15 (zIlo 3)) 26 ((zIlo 3) + 40)) 16 (zIlo 4)) 27 ((zIlo 4) + 40)) 17 (zIlo 5)) 28 ((zIlo 5) + 40)) (fun _ => 0) (fun _ => 0) 0 0 0 (fun _ => 0) 0 0 (fun _ => 0)) := zD_addr hD rfl
              refine zr_iinc (kk := 0) (lv' := [(1, .int (zI 6)), (0, .ref ((zoF [a0, q1, q2, q3, q4, q5]) 0))]) hx hb dX6_init_199 hl rfl (by decide) rfl (fun ls hl => ?_)
              refine lv_goto (tgt := 163) hx hb dX6_init_202 (by decide) ?_
              refine lv_iload_n hx hb dX6_init_163 rfl (lv_at hl 0 rfl) ?_
              refine zr_bipush hx hb dX6_init_164 (by decide) ?_
              refine zr_icmp_ge (tgt := 205) hx hb dX6_init_166 (by decide) (by decide) (by decide) (fun c12 => ?_) (fun c12 => ?_)
              · exact absurd c12 (by decide)
              · refine lv_aload_n hx hb dX6_init_169 rfl (lv_at hl 1 rfl) ?_
                refine va_get (D := D) (ci := 6) (v := .ref ((zoF [a0, q1, q2, q3, q4, q5]) 1)) (C := RX6) (T := TX6) (N := 10) hx hb hts hiX6 hown hK hP 0 rfl rfl 0 (by decide) (hts (.fieldLink RX6 7 "ChargeEstimatorModel" "all" "[J") (List.mem_of_getElem? (i := 5) rfl)) (fun _ h9 => h9) rfl dX6_init_170 ?_
                refine zr_bipush hx hb dX6_init_173 (by decide) ?_
                refine lv_iload_n hx hb dX6_init_175 rfl (lv_at hl 0 rfl) ?_
                refine zr_iadd hx hb dX6_init_176 ?_
                refine zr_topi (b := 18) (by decide) ?_
                refine lv_iload_n hx hb dX6_init_177 rfl (lv_at hl 0 rfl) ?_
                refine zc_rl (va_runS (As := [.int (zI 6)]) (rest := [.int (zI 18), .ref ((zoF [a0, q1, q2, q3, q4, q5]) 1)]) ⟨hx, hb, hml, hown, hts⟩ (met_X6_firstVoltage l 6 (by first | decide | omega)) (va_cwS 1 hts gX6_init_X6_firstVoltage rfl rfl rfl (by decide +kernel) ⟨Nat.le_of_ble_eq_true rfl, Nat.le_of_ble_eq_true rfl⟩) ⟨zTrue.blind, fun U hU hW => ⟨rfl, trivial⟩⟩ rfl rfl hl.1 rfl (lv_room (Nat.le_of_ble_eq_true rfl)) dX6_init_178 ⟨Nat.le_of_ble_eq_true rfl, Nat.le_of_ble_eq_true rfl⟩) ?_
                refine zr_last (D := D) (g := zU (zU (zU (zU (zU (zU (zU (zU (zU (zU (zU (zU (zU (zU (zU (zU (zU (zU (zU (zU (zU (zU (zU (zU (fun _ => 0) 0 995) 1 500) 2 5000) 3 10) 4 20) 5 2) 6 1800) 7 5) 8 4150) 9 100) 10 2900) 11 4000) 12 (zIlo 0)) 23 ((zIlo 0) + 40)) 13 (zIlo 1)) 24 ((zIlo 1) + 40)) 14 (zIlo 2)) 25 ((zIlo 2) + 40)) 15 (zIlo 3)) 26 ((zIlo 3) + 40)) 16 (zIlo 4)) 27 ((zIlo 4) + 40)) 17 (zIlo 5)) 28 ((zIlo 5) + 40)) hx hb hK hP hD hS 1 2 rfl rfl (by decide) (by decide) dX6_init_181 (fun H locs hP hD hS => ?_)
                have hP : va_P D vwCl (zmod cs (zoF [a0, q1, q2, q3, q4, q5]) (zU (zU (zU (zU (zU (zU (zU (zU (zU (zU (zU (zU (zU (zU (zU (zU (zU (zU (zU (zU (zU (zU (zU (zU (zU (fun _ => 0) 0 995) 1 500) 2 5000) 3 10) 4 20) 5 2) 6 1800) 7 5) 8 4150) 9 100) 10 2900) 11 4000) 12 (zIlo 0)) 23 ((zIlo 0) + 40)) 13 (zIlo 1)) 24 ((zIlo 1) + 40)) 14 (zIlo 2)) 25 ((zIlo 2) + 40)) 15 (zIlo 3)) 26 ((zIlo 3) + 40)) 16 (zIlo 4)) 27 ((zIlo 4) + 40)) 17 (zIlo 5)) 28 ((zIlo 5) + 40)) 18 (zIlo 6)) (fun _ => 0) (fun _ => 0) 0 0 0 (fun _ => 0) 0 0 (fun _ => 0)) H := hP
                have hD : va_D A0 (zmod cs (zoF [a0, q1, q2, q3, q4, q5]) (zU (zU (zU (zU (zU (zU (zU (zU (zU (zU (zU (zU (zU (zU (zU (zU (zU (zU (zU (zU (zU (zU (zU (zU (zU (fun _ => 0) 0 995) 1 500) 2 5000) 3 10) 4 20) 5 2) 6 1800) 7 5) 8 4150) 9 100) 10 2900) 11 4000) 12 (zIlo 0)) 23 ((zIlo 0) + 40)) 13 (zIlo 1)) 24 ((zIlo 1) + 40)) 14 (zIlo 2)) 25 ((zIlo 2) + 40)) 15 (zIlo 3)) 26 ((zIlo 3) + 40)) 16 (zIlo 4)) 27 ((zIlo 4) + 40)) 17 (zIlo 5)) 28 ((zIlo 5) + 40)) 18 (zIlo 6)) (fun _ => 0) (fun _ => 0) 0 0 0 (fun _ => 0) 0 0 (fun _ => 0)) := zD_addr hD rfl
                refine lv_aload_n hx hb dX6_init_182 rfl (lv_at hl 1 rfl) ?_
                refine va_get (D := D) (ci := 6) (v := .ref ((zoF [a0, q1, q2, q3, q4, q5]) 1)) (C := RX6) (T := TX6) (N := 10) hx hb hts hiX6 hown hK hP 0 rfl rfl 0 (by decide) (hts (.fieldLink RX6 7 "ChargeEstimatorModel" "all" "[J") (List.mem_of_getElem? (i := 5) rfl)) (fun _ h9 => h9) rfl dX6_init_183 ?_
                refine zr_bipush hx hb dX6_init_186 (by decide) ?_
                refine lv_iload_n hx hb dX6_init_188 rfl (lv_at hl 0 rfl) ?_
                refine zr_iadd hx hb dX6_init_189 ?_
                refine zr_topi (b := 29) (by decide) ?_
                refine lv_iload_n hx hb dX6_init_190 rfl (lv_at hl 0 rfl) ?_
                refine zc_rl (va_runS (As := [.int (zI 6)]) (rest := [.int (zI 29), .ref ((zoF [a0, q1, q2, q3, q4, q5]) 1)]) ⟨hx, hb, hml, hown, hts⟩ (met_X6_firstVoltage l 6 (by first | decide | omega)) (va_cwS 1 hts gX6_init_X6_firstVoltage rfl rfl rfl (by decide +kernel) ⟨Nat.le_of_ble_eq_true rfl, Nat.le_of_ble_eq_true rfl⟩) ⟨zTrue.blind, fun U hU hW => ⟨rfl, trivial⟩⟩ rfl rfl hl.1 rfl (lv_room (Nat.le_of_ble_eq_true rfl)) dX6_init_191 ⟨Nat.le_of_ble_eq_true rfl, Nat.le_of_ble_eq_true rfl⟩) ?_
                refine zr_ldc2 (n := 40) hx hb hown (hts (.constantLong RX6 54 (40)) (List.mem_of_getElem? (i := 23) rfl)) rfl dX6_init_194 ?_
                refine zr_ladd hx hb dX6_init_197 ?_
                refine zr_last (D := D) (g := zU (zU (zU (zU (zU (zU (zU (zU (zU (zU (zU (zU (zU (zU (zU (zU (zU (zU (zU (zU (zU (zU (zU (zU (zU (fun _ => 0) 0 995) 1 500) 2 5000) 3 10) 4 20) 5 2) 6 1800) 7 5) 8 4150) 9 100) 10 2900) 11 4000) 12 (zIlo 0)) 23 ((zIlo 0) + 40)) 13 (zIlo 1)) 24 ((zIlo 1) + 40)) 14 (zIlo 2)) 25 ((zIlo 2) + 40)) 15 (zIlo 3)) 26 ((zIlo 3) + 40)) 16 (zIlo 4)) 27 ((zIlo 4) + 40)) 17 (zIlo 5)) 28 ((zIlo 5) + 40)) 18 (zIlo 6)) hx hb hK hP hD hS 1 2 rfl rfl (by decide) (by decide) dX6_init_198 (fun H locs hP hD hS => ?_)
                have hP : va_P D vwCl (zmod cs (zoF [a0, q1, q2, q3, q4, q5]) (zU (zU (zU (zU (zU (zU (zU (zU (zU (zU (zU (zU (zU (zU (zU (zU (zU (zU (zU (zU (zU (zU (zU (zU (zU (zU (fun _ => 0) 0 995) 1 500) 2 5000) 3 10) 4 20) 5 2) 6 1800) 7 5) 8 4150) 9 100) 10 2900) 11 4000) 12 (zIlo 0)) 23 ((zIlo 0) + 40)) 13 (zIlo 1)) 24 ((zIlo 1) + 40)) 14 (zIlo 2)) 25 ((zIlo 2) + 40)) 15 (zIlo 3)) 26 ((zIlo 3) + 40)) 16 (zIlo 4)) 27 ((zIlo 4) + 40)) 17 (zIlo 5)) 28 ((zIlo 5) + 40)) 18 (zIlo 6)) 29 ((zIlo 6) + 40)) (fun _ => 0) (fun _ => 0) 0 0 0 (fun _ => 0) 0 0 (fun _ => 0)) H := hP
                have hD : va_D A0 (zmod cs (zoF [a0, q1, q2, q3, q4, q5]) (zU (zU (zU (zU (zU (zU (zU (zU (zU (zU (zU (zU (zU (zU (zU (zU (zU (zU (zU (zU (zU (zU (zU (zU (zU (zU (fun _ => 0) 0 995) 1 500) 2 5000) 3 10) 4 20) 5 2) 6 1800) 7 5) 8 4150) 9 100) 10 2900) 11 4000) 12 (zIlo 0)) 23 ((zIlo 0) + 40)) 13 (zIlo 1)) 24 ((zIlo 1) + 40)) 14 (zIlo 2)) 25 ((zIlo 2) + 40)) 15 (zIlo 3)) 26 ((zIlo 3) + 40)) 16 (zIlo 4)) 27 ((zIlo 4) + 40)) 17 (zIlo 5)) 28 ((zIlo 5) + 40)) 18 (zIlo 6)) 29 ((zIlo 6) + 40)) (fun _ => 0) (fun _ => 0) 0 0 0 (fun _ => 0) 0 0 (fun _ => 0)) := zD_addr hD rfl
                refine zr_iinc (kk := 0) (lv' := [(1, .int (zI 7)), (0, .ref ((zoF [a0, q1, q2, q3, q4, q5]) 0))]) hx hb dX6_init_199 hl rfl (by decide) rfl (fun ls hl => ?_)
                refine lv_goto (tgt := 163) hx hb dX6_init_202 (by decide) ?_
                refine lv_iload_n hx hb dX6_init_163 rfl (lv_at hl 0 rfl) ?_
                refine zr_bipush hx hb dX6_init_164 (by decide) ?_
                refine zr_icmp_ge (tgt := 205) hx hb dX6_init_166 (by decide) (by decide) (by decide) (fun c13 => ?_) (fun c13 => ?_)
                · exact absurd c13 (by decide)
                · refine lv_aload_n hx hb dX6_init_169 rfl (lv_at hl 1 rfl) ?_
                  refine va_get (D := D) (ci := 6) (v := .ref ((zoF [a0, q1, q2, q3, q4, q5]) 1)) (C := RX6) (T := TX6) (N := 10) hx hb hts hiX6 hown hK hP 0 rfl rfl 0 (by decide) (hts (.fieldLink RX6 7 "ChargeEstimatorModel" "all" "[J") (List.mem_of_getElem? (i := 5) rfl)) (fun _ h9 => h9) rfl dX6_init_170 ?_
                  refine zr_bipush hx hb dX6_init_173 (by decide) ?_
                  refine lv_iload_n hx hb dX6_init_175 rfl (lv_at hl 0 rfl) ?_
                  refine zr_iadd hx hb dX6_init_176 ?_
                  refine zr_topi (b := 19) (by decide) ?_
                  refine lv_iload_n hx hb dX6_init_177 rfl (lv_at hl 0 rfl) ?_
                  refine zc_rl (va_runS (As := [.int (zI 7)]) (rest := [.int (zI 19), .ref ((zoF [a0, q1, q2, q3, q4, q5]) 1)]) ⟨hx, hb, hml, hown, hts⟩ (met_X6_firstVoltage l 7 (by first | decide | omega)) (va_cwS 1 hts gX6_init_X6_firstVoltage rfl rfl rfl (by decide +kernel) ⟨Nat.le_of_ble_eq_true rfl, Nat.le_of_ble_eq_true rfl⟩) ⟨zTrue.blind, fun U hU hW => ⟨rfl, trivial⟩⟩ rfl rfl hl.1 rfl (lv_room (Nat.le_of_ble_eq_true rfl)) dX6_init_178 ⟨Nat.le_of_ble_eq_true rfl, Nat.le_of_ble_eq_true rfl⟩) ?_
                  refine zr_last (D := D) (g := zU (zU (zU (zU (zU (zU (zU (zU (zU (zU (zU (zU (zU (zU (zU (zU (zU (zU (zU (zU (zU (zU (zU (zU (zU (zU (fun _ => 0) 0 995) 1 500) 2 5000) 3 10) 4 20) 5 2) 6 1800) 7 5) 8 4150) 9 100) 10 2900) 11 4000) 12 (zIlo 0)) 23 ((zIlo 0) + 40)) 13 (zIlo 1)) 24 ((zIlo 1) + 40)) 14 (zIlo 2)) 25 ((zIlo 2) + 40)) 15 (zIlo 3)) 26 ((zIlo 3) + 40)) 16 (zIlo 4)) 27 ((zIlo 4) + 40)) 17 (zIlo 5)) 28 ((zIlo 5) + 40)) 18 (zIlo 6)) 29 ((zIlo 6) + 40)) hx hb hK hP hD hS 1 2 rfl rfl (by decide) (by decide) dX6_init_181 (fun H locs hP hD hS => ?_)
                  have hP : va_P D vwCl (zmod cs (zoF [a0, q1, q2, q3, q4, q5]) (zU (zU (zU (zU (zU (zU (zU (zU (zU (zU (zU (zU (zU (zU (zU (zU (zU (zU (zU (zU (zU (zU (zU (zU (zU (zU (zU (fun _ => 0) 0 995) 1 500) 2 5000) 3 10) 4 20) 5 2) 6 1800) 7 5) 8 4150) 9 100) 10 2900) 11 4000) 12 (zIlo 0)) 23 ((zIlo 0) + 40)) 13 (zIlo 1)) 24 ((zIlo 1) + 40)) 14 (zIlo 2)) 25 ((zIlo 2) + 40)) 15 (zIlo 3)) 26 ((zIlo 3) + 40)) 16 (zIlo 4)) 27 ((zIlo 4) + 40)) 17 (zIlo 5)) 28 ((zIlo 5) + 40)) 18 (zIlo 6)) 29 ((zIlo 6) + 40)) 19 (zIlo 7)) (fun _ => 0) (fun _ => 0) 0 0 0 (fun _ => 0) 0 0 (fun _ => 0)) H := hP
                  have hD : va_D A0 (zmod cs (zoF [a0, q1, q2, q3, q4, q5]) (zU (zU (zU (zU (zU (zU (zU (zU (zU (zU (zU (zU (zU (zU (zU (zU (zU (zU (zU (zU (zU (zU (zU (zU (zU (zU (zU (fun _ => 0) 0 995) 1 500) 2 5000) 3 10) 4 20) 5 2) 6 1800) 7 5) 8 4150) 9 100) 10 2900) 11 4000) 12 (zIlo 0)) 23 ((zIlo 0) + 40)) 13 (zIlo 1)) 24 ((zIlo 1) + 40)) 14 (zIlo 2)) 25 ((zIlo 2) + 40)) 15 (zIlo 3)) 26 ((zIlo 3) + 40)) 16 (zIlo 4)) 27 ((zIlo 4) + 40)) 17 (zIlo 5)) 28 ((zIlo 5) + 40)) 18 (zIlo 6)) 29 ((zIlo 6) + 40)) 19 (zIlo 7)) (fun _ => 0) (fun _ => 0) 0 0 0 (fun _ => 0) 0 0 (fun _ => 0)) := zD_addr hD rfl
                  refine lv_aload_n hx hb dX6_init_182 rfl (lv_at hl 1 rfl) ?_
                  refine va_get (D := D) (ci := 6) (v := .ref ((zoF [a0, q1, q2, q3, q4, q5]) 1)) (C := RX6) (T := TX6) (N := 10) hx hb hts hiX6 hown hK hP 0 rfl rfl 0 (by decide) (hts (.fieldLink RX6 7 "ChargeEstimatorModel" "all" "[J") (List.mem_of_getElem? (i := 5) rfl)) (fun _ h9 => h9) rfl dX6_init_183 ?_
                  refine zr_bipush hx hb dX6_init_186 (by decide) ?_
                  refine lv_iload_n hx hb dX6_init_188 rfl (lv_at hl 0 rfl) ?_
                  refine zr_iadd hx hb dX6_init_189 ?_
                  refine zr_topi (b := 30) (by decide) ?_
                  refine lv_iload_n hx hb dX6_init_190 rfl (lv_at hl 0 rfl) ?_
                  refine zc_rl (va_runS (As := [.int (zI 7)]) (rest := [.int (zI 30), .ref ((zoF [a0, q1, q2, q3, q4, q5]) 1)]) ⟨hx, hb, hml, hown, hts⟩ (met_X6_firstVoltage l 7 (by first | decide | omega)) (va_cwS 1 hts gX6_init_X6_firstVoltage rfl rfl rfl (by decide +kernel) ⟨Nat.le_of_ble_eq_true rfl, Nat.le_of_ble_eq_true rfl⟩) ⟨zTrue.blind, fun U hU hW => ⟨rfl, trivial⟩⟩ rfl rfl hl.1 rfl (lv_room (Nat.le_of_ble_eq_true rfl)) dX6_init_191 ⟨Nat.le_of_ble_eq_true rfl, Nat.le_of_ble_eq_true rfl⟩) ?_
                  refine zr_ldc2 (n := 40) hx hb hown (hts (.constantLong RX6 54 (40)) (List.mem_of_getElem? (i := 23) rfl)) rfl dX6_init_194 ?_
                  refine zr_ladd hx hb dX6_init_197 ?_
                  refine zr_last (D := D) (g := zU (zU (zU (zU (zU (zU (zU (zU (zU (zU (zU (zU (zU (zU (zU (zU (zU (zU (zU (zU (zU (zU (zU (zU (zU (zU (zU (fun _ => 0) 0 995) 1 500) 2 5000) 3 10) 4 20) 5 2) 6 1800) 7 5) 8 4150) 9 100) 10 2900) 11 4000) 12 (zIlo 0)) 23 ((zIlo 0) + 40)) 13 (zIlo 1)) 24 ((zIlo 1) + 40)) 14 (zIlo 2)) 25 ((zIlo 2) + 40)) 15 (zIlo 3)) 26 ((zIlo 3) + 40)) 16 (zIlo 4)) 27 ((zIlo 4) + 40)) 17 (zIlo 5)) 28 ((zIlo 5) + 40)) 18 (zIlo 6)) 29 ((zIlo 6) + 40)) 19 (zIlo 7)) hx hb hK hP hD hS 1 2 rfl rfl (by decide) (by decide) dX6_init_198 (fun H locs hP hD hS => ?_)
                  have hP : va_P D vwCl (zmod cs (zoF [a0, q1, q2, q3, q4, q5]) (zU (zU (zU (zU (zU (zU (zU (zU (zU (zU (zU (zU (zU (zU (zU (zU (zU (zU (zU (zU (zU (zU (zU (zU (zU (zU (zU (zU (fun _ => 0) 0 995) 1 500) 2 5000) 3 10) 4 20) 5 2) 6 1800) 7 5) 8 4150) 9 100) 10 2900) 11 4000) 12 (zIlo 0)) 23 ((zIlo 0) + 40)) 13 (zIlo 1)) 24 ((zIlo 1) + 40)) 14 (zIlo 2)) 25 ((zIlo 2) + 40)) 15 (zIlo 3)) 26 ((zIlo 3) + 40)) 16 (zIlo 4)) 27 ((zIlo 4) + 40)) 17 (zIlo 5)) 28 ((zIlo 5) + 40)) 18 (zIlo 6)) 29 ((zIlo 6) + 40)) 19 (zIlo 7)) 30 ((zIlo 7) + 40)) (fun _ => 0) (fun _ => 0) 0 0 0 (fun _ => 0) 0 0 (fun _ => 0)) H := hP
                  have hD : va_D A0 (zmod cs (zoF [a0, q1, q2, q3, q4, q5]) (zU (zU (zU (zU (zU (zU (zU (zU (zU (zU (zU (zU (zU (zU (zU (zU (zU (zU (zU (zU (zU (zU (zU (zU (zU (zU (zU (zU (fun _ => 0) 0 995) 1 500) 2 5000) 3 10) 4 20) 5 2) 6 1800) 7 5) 8 4150) 9 100) 10 2900) 11 4000) 12 (zIlo 0)) 23 ((zIlo 0) + 40)) 13 (zIlo 1)) 24 ((zIlo 1) + 40)) 14 (zIlo 2)) 25 ((zIlo 2) + 40)) 15 (zIlo 3)) 26 ((zIlo 3) + 40)) 16 (zIlo 4)) 27 ((zIlo 4) + 40)) 17 (zIlo 5)) 28 ((zIlo 5) + 40)) 18 (zIlo 6)) 29 ((zIlo 6) + 40)) 19 (zIlo 7)) 30 ((zIlo 7) + 40)) (fun _ => 0) (fun _ => 0) 0 0 0 (fun _ => 0) 0 0 (fun _ => 0)) := zD_addr hD rfl
                  refine zr_iinc (kk := 0) (lv' := [(1, .int (zI 8)), (0, .ref ((zoF [a0, q1, q2, q3, q4, q5]) 0))]) hx hb dX6_init_199 hl rfl (by decide) rfl (fun ls hl => ?_)
                  refine lv_goto (tgt := 163) hx hb dX6_init_202 (by decide) ?_
                  refine lv_iload_n hx hb dX6_init_163 rfl (lv_at hl 0 rfl) ?_
                  refine zr_bipush hx hb dX6_init_164 (by decide) ?_
                  refine zr_icmp_ge (tgt := 205) hx hb dX6_init_166 (by decide) (by decide) (by decide) (fun c14 => ?_) (fun c14 => ?_)
                  · exact absurd c14 (by decide)
                  · refine lv_aload_n hx hb dX6_init_169 rfl (lv_at hl 1 rfl) ?_
                    refine va_get (D := D) (ci := 6) (v := .ref ((zoF [a0, q1, q2, q3, q4, q5]) 1)) (C := RX6) (T := TX6) (N := 10) hx hb hts hiX6 hown hK hP 0 rfl rfl 0 (by decide) (hts (.fieldLink RX6 7 "ChargeEstimatorModel" "all" "[J") (List.mem_of_getElem? (i := 5) rfl)) (fun _ h9 => h9) rfl dX6_init_170 ?_
                    refine zr_bipush hx hb dX6_init_173 (by decide) ?_
                    refine lv_iload_n hx hb dX6_init_175 rfl (lv_at hl 0 rfl) ?_
                    refine zr_iadd hx hb dX6_init_176 ?_
                    refine zr_topi (b := 20) (by decide) ?_
                    refine lv_iload_n hx hb dX6_init_177 rfl (lv_at hl 0 rfl) ?_
                    refine zc_rl (va_runS (As := [.int (zI 8)]) (rest := [.int (zI 20), .ref ((zoF [a0, q1, q2, q3, q4, q5]) 1)]) ⟨hx, hb, hml, hown, hts⟩ (met_X6_firstVoltage l 8 (by first | decide | omega)) (va_cwS 1 hts gX6_init_X6_firstVoltage rfl rfl rfl (by decide +kernel) ⟨Nat.le_of_ble_eq_true rfl, Nat.le_of_ble_eq_true rfl⟩) ⟨zTrue.blind, fun U hU hW => ⟨rfl, trivial⟩⟩ rfl rfl hl.1 rfl (lv_room (Nat.le_of_ble_eq_true rfl)) dX6_init_178 ⟨Nat.le_of_ble_eq_true rfl, Nat.le_of_ble_eq_true rfl⟩) ?_
                    refine zr_last (D := D) (g := zU (zU (zU (zU (zU (zU (zU (zU (zU (zU (zU (zU (zU (zU (zU (zU (zU (zU (zU (zU (zU (zU (zU (zU (zU (zU (zU (zU (fun _ => 0) 0 995) 1 500) 2 5000) 3 10) 4 20) 5 2) 6 1800) 7 5) 8 4150) 9 100) 10 2900) 11 4000) 12 (zIlo 0)) 23 ((zIlo 0) + 40)) 13 (zIlo 1)) 24 ((zIlo 1) + 40)) 14 (zIlo 2)) 25 ((zIlo 2) + 40)) 15 (zIlo 3)) 26 ((zIlo 3) + 40)) 16 (zIlo 4)) 27 ((zIlo 4) + 40)) 17 (zIlo 5)) 28 ((zIlo 5) + 40)) 18 (zIlo 6)) 29 ((zIlo 6) + 40)) 19 (zIlo 7)) 30 ((zIlo 7) + 40)) hx hb hK hP hD hS 1 2 rfl rfl (by decide) (by decide) dX6_init_181 (fun H locs hP hD hS => ?_)
                    have hP : va_P D vwCl (zmod cs (zoF [a0, q1, q2, q3, q4, q5]) (zU (zU (zU (zU (zU (zU (zU (zU (zU (zU (zU (zU (zU (zU (zU (zU (zU (zU (zU (zU (zU (zU (zU (zU (zU (zU (zU (zU (zU (fun _ => 0) 0 995) 1 500) 2 5000) 3 10) 4 20) 5 2) 6 1800) 7 5) 8 4150) 9 100) 10 2900) 11 4000) 12 (zIlo 0)) 23 ((zIlo 0) + 40)) 13 (zIlo 1)) 24 ((zIlo 1) + 40)) 14 (zIlo 2)) 25 ((zIlo 2) + 40)) 15 (zIlo 3)) 26 ((zIlo 3) + 40)) 16 (zIlo 4)) 27 ((zIlo 4) + 40)) 17 (zIlo 5)) 28 ((zIlo 5) + 40)) 18 (zIlo 6)) 29 ((zIlo 6) + 40)) 19 (zIlo 7)) 30 ((zIlo 7) + 40)) 20 (zIlo 8)) (fun _ => 0) (fun _ => 0) 0 0 0 (fun _ => 0) 0 0 (fun _ => 0)) H := hP
                    have hD : va_D A0 (zmod cs (zoF [a0, q1, q2, q3, q4, q5]) (zU (zU (zU (zU (zU (zU (zU (zU (zU (zU (zU (zU (zU (zU (zU (zU (zU (zU (zU (zU (zU (zU (zU (zU (zU (zU (zU (zU (zU (fun _ => 0) 0 995) 1 500) 2 5000) 3 10) 4 20) 5 2) 6 1800) 7 5) 8 4150) 9 100) 10 2900) 11 4000) 12 (zIlo 0)) 23 ((zIlo 0) + 40)) 13 (zIlo 1)) 24 ((zIlo 1) + 40)) 14 (zIlo 2)) 25 ((zIlo 2) + 40)) 15 (zIlo 3)) 26 ((zIlo 3) + 40)) 16 (zIlo 4)) 27 ((zIlo 4) + 40)) 17 (zIlo 5)) 28 ((zIlo 5) + 40)) 18 (zIlo 6)) 29 ((zIlo 6) + 40)) 19 (zIlo 7)) 30 ((zIlo 7) + 40)) 20 (zIlo 8)) (fun _ => 0) (fun _ => 0) 0 0 0 (fun _ => 0) 0 0 (fun _ => 0)) := zD_addr hD rfl
                    refine lv_aload_n hx hb dX6_init_182 rfl (lv_at hl 1 rfl) ?_
                    refine va_get (D := D) (ci := 6) (v := .ref ((zoF [a0, q1, q2, q3, q4, q5]) 1)) (C := RX6) (T := TX6) (N := 10) hx hb hts hiX6 hown hK hP 0 rfl rfl 0 (by decide) (hts (.fieldLink RX6 7 "ChargeEstimatorModel" "all" "[J") (List.mem_of_getElem? (i := 5) rfl)) (fun _ h9 => h9) rfl dX6_init_183 ?_
                    refine zr_bipush hx hb dX6_init_186 (by decide) ?_
                    refine lv_iload_n hx hb dX6_init_188 rfl (lv_at hl 0 rfl) ?_
                    refine zr_iadd hx hb dX6_init_189 ?_
                    refine zr_topi (b := 31) (by decide) ?_
                    refine lv_iload_n hx hb dX6_init_190 rfl (lv_at hl 0 rfl) ?_
                    refine zc_rl (va_runS (As := [.int (zI 8)]) (rest := [.int (zI 31), .ref ((zoF [a0, q1, q2, q3, q4, q5]) 1)]) ⟨hx, hb, hml, hown, hts⟩ (met_X6_firstVoltage l 8 (by first | decide | omega)) (va_cwS 1 hts gX6_init_X6_firstVoltage rfl rfl rfl (by decide +kernel) ⟨Nat.le_of_ble_eq_true rfl, Nat.le_of_ble_eq_true rfl⟩) ⟨zTrue.blind, fun U hU hW => ⟨rfl, trivial⟩⟩ rfl rfl hl.1 rfl (lv_room (Nat.le_of_ble_eq_true rfl)) dX6_init_191 ⟨Nat.le_of_ble_eq_true rfl, Nat.le_of_ble_eq_true rfl⟩) ?_
                    refine zr_ldc2 (n := 40) hx hb hown (hts (.constantLong RX6 54 (40)) (List.mem_of_getElem? (i := 23) rfl)) rfl dX6_init_194 ?_
                    refine zr_ladd hx hb dX6_init_197 ?_
                    refine zr_last (D := D) (g := zU (zU (zU (zU (zU (zU (zU (zU (zU (zU (zU (zU (zU (zU (zU (zU (zU (zU (zU (zU (zU (zU (zU (zU (zU (zU (zU (zU (zU (fun _ => 0) 0 995) 1 500) 2 5000) 3 10) 4 20) 5 2) 6 1800) 7 5) 8 4150) 9 100) 10 2900) 11 4000) 12 (zIlo 0)) 23 ((zIlo 0) + 40)) 13 (zIlo 1)) 24 ((zIlo 1) + 40)) 14 (zIlo 2)) 25 ((zIlo 2) + 40)) 15 (zIlo 3)) 26 ((zIlo 3) + 40)) 16 (zIlo 4)) 27 ((zIlo 4) + 40)) 17 (zIlo 5)) 28 ((zIlo 5) + 40)) 18 (zIlo 6)) 29 ((zIlo 6) + 40)) 19 (zIlo 7)) 30 ((zIlo 7) + 40)) 20 (zIlo 8)) hx hb hK hP hD hS 1 2 rfl rfl (by decide) (by decide) dX6_init_198 (fun H locs hP hD hS => ?_)
                    have hP : va_P D vwCl (zmod cs (zoF [a0, q1, q2, q3, q4, q5]) (zU (zU (zU (zU (zU (zU (zU (zU (zU (zU (zU (zU (zU (zU (zU (zU (zU (zU (zU (zU (zU (zU (zU (zU (zU (zU (zU (zU (zU (zU (fun _ => 0) 0 995) 1 500) 2 5000) 3 10) 4 20) 5 2) 6 1800) 7 5) 8 4150) 9 100) 10 2900) 11 4000) 12 (zIlo 0)) 23 ((zIlo 0) + 40)) 13 (zIlo 1)) 24 ((zIlo 1) + 40)) 14 (zIlo 2)) 25 ((zIlo 2) + 40)) 15 (zIlo 3)) 26 ((zIlo 3) + 40)) 16 (zIlo 4)) 27 ((zIlo 4) + 40)) 17 (zIlo 5)) 28 ((zIlo 5) + 40)) 18 (zIlo 6)) 29 ((zIlo 6) + 40)) 19 (zIlo 7)) 30 ((zIlo 7) + 40)) 20 (zIlo 8)) 31 ((zIlo 8) + 40)) (fun _ => 0) (fun _ => 0) 0 0 0 (fun _ => 0) 0 0 (fun _ => 0)) H := hP
                    have hD : va_D A0 (zmod cs (zoF [a0, q1, q2, q3, q4, q5]) (zU (zU (zU (zU (zU (zU (zU (zU (zU (zU (zU (zU (zU (zU (zU (zU (zU (zU (zU (zU (zU (zU (zU (zU (zU (zU (zU (zU (zU (zU (fun _ => 0) 0 995) 1 500) 2 5000) 3 10) 4 20) 5 2) 6 1800) 7 5) 8 4150) 9 100) 10 2900) 11 4000) 12 (zIlo 0)) 23 ((zIlo 0) + 40)) 13 (zIlo 1)) 24 ((zIlo 1) + 40)) 14 (zIlo 2)) 25 ((zIlo 2) + 40)) 15 (zIlo 3)) 26 ((zIlo 3) + 40)) 16 (zIlo 4)) 27 ((zIlo 4) + 40)) 17 (zIlo 5)) 28 ((zIlo 5) + 40)) 18 (zIlo 6)) 29 ((zIlo 6) + 40)) 19 (zIlo 7)) 30 ((zIlo 7) + 40)) 20 (zIlo 8)) 31 ((zIlo 8) + 40)) (fun _ => 0) (fun _ => 0) 0 0 0 (fun _ => 0) 0 0 (fun _ => 0)) := zD_addr hD rfl
                    refine zr_iinc (kk := 0) (lv' := [(1, .int (zI 9)), (0, .ref ((zoF [a0, q1, q2, q3, q4, q5]) 0))]) hx hb dX6_init_199 hl rfl (by decide) rfl (fun ls hl => ?_)
                    refine lv_goto (tgt := 163) hx hb dX6_init_202 (by decide) ?_
                    refine lv_iload_n hx hb dX6_init_163 rfl (lv_at hl 0 rfl) ?_
                    refine zr_bipush hx hb dX6_init_164 (by decide) ?_
                    refine zr_icmp_ge (tgt := 205) hx hb dX6_init_166 (by decide) (by decide) (by decide) (fun c15 => ?_) (fun c15 => ?_)
                    · exact absurd c15 (by decide)
                    · refine lv_aload_n hx hb dX6_init_169 rfl (lv_at hl 1 rfl) ?_
                      refine va_get (D := D) (ci := 6) (v := .ref ((zoF [a0, q1, q2, q3, q4, q5]) 1)) (C := RX6) (T := TX6) (N := 10) hx hb hts hiX6 hown hK hP 0 rfl rfl 0 (by decide) (hts (.fieldLink RX6 7 "ChargeEstimatorModel" "all" "[J") (List.mem_of_getElem? (i := 5) rfl)) (fun _ h9 => h9) rfl dX6_init_170 ?_
                      refine zr_bipush hx hb dX6_init_173 (by decide) ?_
                      refine lv_iload_n hx hb dX6_init_175 rfl (lv_at hl 0 rfl) ?_
                      refine zr_iadd hx hb dX6_init_176 ?_
                      refine zr_topi (b := 21) (by decide) ?_
                      refine lv_iload_n hx hb dX6_init_177 rfl (lv_at hl 0 rfl) ?_
                      refine zc_rl (va_runS (As := [.int (zI 9)]) (rest := [.int (zI 21), .ref ((zoF [a0, q1, q2, q3, q4, q5]) 1)]) ⟨hx, hb, hml, hown, hts⟩ (met_X6_firstVoltage l 9 (by first | decide | omega)) (va_cwS 1 hts gX6_init_X6_firstVoltage rfl rfl rfl (by decide +kernel) ⟨Nat.le_of_ble_eq_true rfl, Nat.le_of_ble_eq_true rfl⟩) ⟨zTrue.blind, fun U hU hW => ⟨rfl, trivial⟩⟩ rfl rfl hl.1 rfl (lv_room (Nat.le_of_ble_eq_true rfl)) dX6_init_178 ⟨Nat.le_of_ble_eq_true rfl, Nat.le_of_ble_eq_true rfl⟩) ?_
                      refine zr_last (D := D) (g := zU (zU (zU (zU (zU (zU (zU (zU (zU (zU (zU (zU (zU (zU (zU (zU (zU (zU (zU (zU (zU (zU (zU (zU (zU (zU (zU (zU (zU (zU (fun _ => 0) 0 995) 1 500) 2 5000) 3 10) 4 20) 5 2) 6 1800) 7 5) 8 4150) 9 100) 10 2900) 11 4000) 12 (zIlo 0)) 23 ((zIlo 0) + 40)) 13 (zIlo 1)) 24 ((zIlo 1) + 40)) 14 (zIlo 2)) 25 ((zIlo 2) + 40)) 15 (zIlo 3)) 26 ((zIlo 3) + 40)) 16 (zIlo 4)) 27 ((zIlo 4) + 40)) 17 (zIlo 5)) 28 ((zIlo 5) + 40)) 18 (zIlo 6)) 29 ((zIlo 6) + 40)) 19 (zIlo 7)) 30 ((zIlo 7) + 40)) 20 (zIlo 8)) 31 ((zIlo 8) + 40)) hx hb hK hP hD hS 1 2 rfl rfl (by decide) (by decide) dX6_init_181 (fun H locs hP hD hS => ?_)
                      have hP : va_P D vwCl (zmod cs (zoF [a0, q1, q2, q3, q4, q5]) (zU (zU (zU (zU (zU (zU (zU (zU (zU (zU (zU (zU (zU (zU (zU (zU (zU (zU (zU (zU (zU (zU (zU (zU (zU (zU (zU (zU (zU (zU (zU (fun _ => 0) 0 995) 1 500) 2 5000) 3 10) 4 20) 5 2) 6 1800) 7 5) 8 4150) 9 100) 10 2900) 11 4000) 12 (zIlo 0)) 23 ((zIlo 0) + 40)) 13 (zIlo 1)) 24 ((zIlo 1) + 40)) 14 (zIlo 2)) 25 ((zIlo 2) + 40)) 15 (zIlo 3)) 26 ((zIlo 3) + 40)) 16 (zIlo 4)) 27 ((zIlo 4) + 40)) 17 (zIlo 5)) 28 ((zIlo 5) + 40)) 18 (zIlo 6)) 29 ((zIlo 6) + 40)) 19 (zIlo 7)) 30 ((zIlo 7) + 40)) 20 (zIlo 8)) 31 ((zIlo 8) + 40)) 21 (zIlo 9)) (fun _ => 0) (fun _ => 0) 0 0 0 (fun _ => 0) 0 0 (fun _ => 0)) H := hP
                      have hD : va_D A0 (zmod cs (zoF [a0, q1, q2, q3, q4, q5]) (zU (zU (zU (zU (zU (zU (zU (zU (zU (zU (zU (zU (zU (zU (zU (zU (zU (zU (zU (zU (zU (zU (zU (zU (zU (zU (zU (zU (zU (zU (zU (fun _ => 0) 0 995) 1 500) 2 5000) 3 10) 4 20) 5 2) 6 1800) 7 5) 8 4150) 9 100) 10 2900) 11 4000) 12 (zIlo 0)) 23 ((zIlo 0) + 40)) 13 (zIlo 1)) 24 ((zIlo 1) + 40)) 14 (zIlo 2)) 25 ((zIlo 2) + 40)) 15 (zIlo 3)) 26 ((zIlo 3) + 40)) 16 (zIlo 4)) 27 ((zIlo 4) + 40)) 17 (zIlo 5)) 28 ((zIlo 5) + 40)) 18 (zIlo 6)) 29 ((zIlo 6) + 40)) 19 (zIlo 7)) 30 ((zIlo 7) + 40)) 20 (zIlo 8)) 31 ((zIlo 8) + 40)) 21 (zIlo 9)) (fun _ => 0) (fun _ => 0) 0 0 0 (fun _ => 0) 0 0 (fun _ => 0)) := zD_addr hD rfl
                      refine lv_aload_n hx hb dX6_init_182 rfl (lv_at hl 1 rfl) ?_
                      refine va_get (D := D) (ci := 6) (v := .ref ((zoF [a0, q1, q2, q3, q4, q5]) 1)) (C := RX6) (T := TX6) (N := 10) hx hb hts hiX6 hown hK hP 0 rfl rfl 0 (by decide) (hts (.fieldLink RX6 7 "ChargeEstimatorModel" "all" "[J") (List.mem_of_getElem? (i := 5) rfl)) (fun _ h9 => h9) rfl dX6_init_183 ?_
                      refine zr_bipush hx hb dX6_init_186 (by decide) ?_
                      refine lv_iload_n hx hb dX6_init_188 rfl (lv_at hl 0 rfl) ?_
                      refine zr_iadd hx hb dX6_init_189 ?_
                      refine zr_topi (b := 32) (by decide) ?_
                      refine lv_iload_n hx hb dX6_init_190 rfl (lv_at hl 0 rfl) ?_
                      refine zc_rl (va_runS (As := [.int (zI 9)]) (rest := [.int (zI 32), .ref ((zoF [a0, q1, q2, q3, q4, q5]) 1)]) ⟨hx, hb, hml, hown, hts⟩ (met_X6_firstVoltage l 9 (by first | decide | omega)) (va_cwS 1 hts gX6_init_X6_firstVoltage rfl rfl rfl (by decide +kernel) ⟨Nat.le_of_ble_eq_true rfl, Nat.le_of_ble_eq_true rfl⟩) ⟨zTrue.blind, fun U hU hW => ⟨rfl, trivial⟩⟩ rfl rfl hl.1 rfl (lv_room (Nat.le_of_ble_eq_true rfl)) dX6_init_191 ⟨Nat.le_of_ble_eq_true rfl, Nat.le_of_ble_eq_true rfl⟩) ?_
                      refine zr_ldc2 (n := 40) hx hb hown (hts (.constantLong RX6 54 (40)) (List.mem_of_getElem? (i := 23) rfl)) rfl dX6_init_194 ?_
                      refine zr_ladd hx hb dX6_init_197 ?_
                      refine zr_last (D := D) (g := zU (zU (zU (zU (zU (zU (zU (zU (zU (zU (zU (zU (zU (zU (zU (zU (zU (zU (zU (zU (zU (zU (zU (zU (zU (zU (zU (zU (zU (zU (zU (fun _ => 0) 0 995) 1 500) 2 5000) 3 10) 4 20) 5 2) 6 1800) 7 5) 8 4150) 9 100) 10 2900) 11 4000) 12 (zIlo 0)) 23 ((zIlo 0) + 40)) 13 (zIlo 1)) 24 ((zIlo 1) + 40)) 14 (zIlo 2)) 25 ((zIlo 2) + 40)) 15 (zIlo 3)) 26 ((zIlo 3) + 40)) 16 (zIlo 4)) 27 ((zIlo 4) + 40)) 17 (zIlo 5)) 28 ((zIlo 5) + 40)) 18 (zIlo 6)) 29 ((zIlo 6) + 40)) 19 (zIlo 7)) 30 ((zIlo 7) + 40)) 20 (zIlo 8)) 31 ((zIlo 8) + 40)) 21 (zIlo 9)) hx hb hK hP hD hS 1 2 rfl rfl (by decide) (by decide) dX6_init_198 (fun H locs hP hD hS => ?_)
                      have hP : va_P D vwCl (zmod cs (zoF [a0, q1, q2, q3, q4, q5]) (zU (zU (zU (zU (zU (zU (zU (zU (zU (zU (zU (zU (zU (zU (zU (zU (zU (zU (zU (zU (zU (zU (zU (zU (zU (zU (zU (zU (zU (zU (zU (zU (fun _ => 0) 0 995) 1 500) 2 5000) 3 10) 4 20) 5 2) 6 1800) 7 5) 8 4150) 9 100) 10 2900) 11 4000) 12 (zIlo 0)) 23 ((zIlo 0) + 40)) 13 (zIlo 1)) 24 ((zIlo 1) + 40)) 14 (zIlo 2)) 25 ((zIlo 2) + 40)) 15 (zIlo 3)) 26 ((zIlo 3) + 40)) 16 (zIlo 4)) 27 ((zIlo 4) + 40)) 17 (zIlo 5)) 28 ((zIlo 5) + 40)) 18 (zIlo 6)) 29 ((zIlo 6) + 40)) 19 (zIlo 7)) 30 ((zIlo 7) + 40)) 20 (zIlo 8)) 31 ((zIlo 8) + 40)) 21 (zIlo 9)) 32 ((zIlo 9) + 40)) (fun _ => 0) (fun _ => 0) 0 0 0 (fun _ => 0) 0 0 (fun _ => 0)) H := hP
                      have hD : va_D A0 (zmod cs (zoF [a0, q1, q2, q3, q4, q5]) (zU (zU (zU (zU (zU (zU (zU (zU (zU (zU (zU (zU (zU (zU (zU (zU (zU (zU (zU (zU (zU (zU (zU (zU (zU (zU (zU (zU (zU (zU (zU (zU (fun _ => 0) 0 995) 1 500) 2 5000) 3 10) 4 20) 5 2) 6 1800) 7 5) 8 4150) 9 100) 10 2900) 11 4000) 12 (zIlo 0)) 23 ((zIlo 0) + 40)) 13 (zIlo 1)) 24 ((zIlo 1) + 40)) 14 (zIlo 2)) 25 ((zIlo 2) + 40)) 15 (zIlo 3)) 26 ((zIlo 3) + 40)) 16 (zIlo 4)) 27 ((zIlo 4) + 40)) 17 (zIlo 5)) 28 ((zIlo 5) + 40)) 18 (zIlo 6)) 29 ((zIlo 6) + 40)) 19 (zIlo 7)) 30 ((zIlo 7) + 40)) 20 (zIlo 8)) 31 ((zIlo 8) + 40)) 21 (zIlo 9)) 32 ((zIlo 9) + 40)) (fun _ => 0) (fun _ => 0) 0 0 0 (fun _ => 0) 0 0 (fun _ => 0)) := zD_addr hD rfl
                      refine zr_iinc (kk := 0) (lv' := [(1, .int (zI 10)), (0, .ref ((zoF [a0, q1, q2, q3, q4, q5]) 0))]) hx hb dX6_init_199 hl rfl (by decide) rfl (fun ls hl => ?_)
                      refine lv_goto (tgt := 163) hx hb dX6_init_202 (by decide) ?_
                      refine lv_iload_n hx hb dX6_init_163 rfl (lv_at hl 0 rfl) ?_
                      refine zr_bipush hx hb dX6_init_164 (by decide) ?_
                      refine zr_icmp_ge (tgt := 205) hx hb dX6_init_166 (by decide) (by decide) (by decide) (fun c16 => ?_) (fun c16 => ?_)
                      · exact absurd c16 (by decide)
                      · refine lv_aload_n hx hb dX6_init_169 rfl (lv_at hl 1 rfl) ?_
                        refine va_get (D := D) (ci := 6) (v := .ref ((zoF [a0, q1, q2, q3, q4, q5]) 1)) (C := RX6) (T := TX6) (N := 10) hx hb hts hiX6 hown hK hP 0 rfl rfl 0 (by decide) (hts (.fieldLink RX6 7 "ChargeEstimatorModel" "all" "[J") (List.mem_of_getElem? (i := 5) rfl)) (fun _ h9 => h9) rfl dX6_init_170 ?_
                        refine zr_bipush hx hb dX6_init_173 (by decide) ?_
                        refine lv_iload_n hx hb dX6_init_175 rfl (lv_at hl 0 rfl) ?_
                        refine zr_iadd hx hb dX6_init_176 ?_
                        refine zr_topi (b := 22) (by decide) ?_
                        refine lv_iload_n hx hb dX6_init_177 rfl (lv_at hl 0 rfl) ?_
                        refine zc_rl (va_runS (As := [.int (zI 10)]) (rest := [.int (zI 22), .ref ((zoF [a0, q1, q2, q3, q4, q5]) 1)]) ⟨hx, hb, hml, hown, hts⟩ (met_X6_firstVoltage l 10 (by first | decide | omega)) (va_cwS 1 hts gX6_init_X6_firstVoltage rfl rfl rfl (by decide +kernel) ⟨Nat.le_of_ble_eq_true rfl, Nat.le_of_ble_eq_true rfl⟩) ⟨zTrue.blind, fun U hU hW => ⟨rfl, trivial⟩⟩ rfl rfl hl.1 rfl (lv_room (Nat.le_of_ble_eq_true rfl)) dX6_init_178 ⟨Nat.le_of_ble_eq_true rfl, Nat.le_of_ble_eq_true rfl⟩) ?_
                        refine zr_last (D := D) (g := zU (zU (zU (zU (zU (zU (zU (zU (zU (zU (zU (zU (zU (zU (zU (zU (zU (zU (zU (zU (zU (zU (zU (zU (zU (zU (zU (zU (zU (zU (zU (zU (fun _ => 0) 0 995) 1 500) 2 5000) 3 10) 4 20) 5 2) 6 1800) 7 5) 8 4150) 9 100) 10 2900) 11 4000) 12 (zIlo 0)) 23 ((zIlo 0) + 40)) 13 (zIlo 1)) 24 ((zIlo 1) + 40)) 14 (zIlo 2)) 25 ((zIlo 2) + 40)) 15 (zIlo 3)) 26 ((zIlo 3) + 40)) 16 (zIlo 4)) 27 ((zIlo 4) + 40)) 17 (zIlo 5)) 28 ((zIlo 5) + 40)) 18 (zIlo 6)) 29 ((zIlo 6) + 40)) 19 (zIlo 7)) 30 ((zIlo 7) + 40)) 20 (zIlo 8)) 31 ((zIlo 8) + 40)) 21 (zIlo 9)) 32 ((zIlo 9) + 40)) hx hb hK hP hD hS 1 2 rfl rfl (by decide) (by decide) dX6_init_181 (fun H locs hP hD hS => ?_)
                        have hP : va_P D vwCl (zmod cs (zoF [a0, q1, q2, q3, q4, q5]) (zU (zU (zU (zU (zU (zU (zU (zU (zU (zU (zU (zU (zU (zU (zU (zU (zU (zU (zU (zU (zU (zU (zU (zU (zU (zU (zU (zU (zU (zU (zU (zU (zU (fun _ => 0) 0 995) 1 500) 2 5000) 3 10) 4 20) 5 2) 6 1800) 7 5) 8 4150) 9 100) 10 2900) 11 4000) 12 (zIlo 0)) 23 ((zIlo 0) + 40)) 13 (zIlo 1)) 24 ((zIlo 1) + 40)) 14 (zIlo 2)) 25 ((zIlo 2) + 40)) 15 (zIlo 3)) 26 ((zIlo 3) + 40)) 16 (zIlo 4)) 27 ((zIlo 4) + 40)) 17 (zIlo 5)) 28 ((zIlo 5) + 40)) 18 (zIlo 6)) 29 ((zIlo 6) + 40)) 19 (zIlo 7)) 30 ((zIlo 7) + 40)) 20 (zIlo 8)) 31 ((zIlo 8) + 40)) 21 (zIlo 9)) 32 ((zIlo 9) + 40)) 22 (zIlo 10)) (fun _ => 0) (fun _ => 0) 0 0 0 (fun _ => 0) 0 0 (fun _ => 0)) H := hP
                        have hD : va_D A0 (zmod cs (zoF [a0, q1, q2, q3, q4, q5]) (zU (zU (zU (zU (zU (zU (zU (zU (zU (zU (zU (zU (zU (zU (zU (zU (zU (zU (zU (zU (zU (zU (zU (zU (zU (zU (zU (zU (zU (zU (zU (zU (zU (fun _ => 0) 0 995) 1 500) 2 5000) 3 10) 4 20) 5 2) 6 1800) 7 5) 8 4150) 9 100) 10 2900) 11 4000) 12 (zIlo 0)) 23 ((zIlo 0) + 40)) 13 (zIlo 1)) 24 ((zIlo 1) + 40)) 14 (zIlo 2)) 25 ((zIlo 2) + 40)) 15 (zIlo 3)) 26 ((zIlo 3) + 40)) 16 (zIlo 4)) 27 ((zIlo 4) + 40)) 17 (zIlo 5)) 28 ((zIlo 5) + 40)) 18 (zIlo 6)) 29 ((zIlo 6) + 40)) 19 (zIlo 7)) 30 ((zIlo 7) + 40)) 20 (zIlo 8)) 31 ((zIlo 8) + 40)) 21 (zIlo 9)) 32 ((zIlo 9) + 40)) 22 (zIlo 10)) (fun _ => 0) (fun _ => 0) 0 0 0 (fun _ => 0) 0 0 (fun _ => 0)) := zD_addr hD rfl
                        refine lv_aload_n hx hb dX6_init_182 rfl (lv_at hl 1 rfl) ?_
                        refine va_get (D := D) (ci := 6) (v := .ref ((zoF [a0, q1, q2, q3, q4, q5]) 1)) (C := RX6) (T := TX6) (N := 10) hx hb hts hiX6 hown hK hP 0 rfl rfl 0 (by decide) (hts (.fieldLink RX6 7 "ChargeEstimatorModel" "all" "[J") (List.mem_of_getElem? (i := 5) rfl)) (fun _ h9 => h9) rfl dX6_init_183 ?_
                        refine zr_bipush hx hb dX6_init_186 (by decide) ?_
                        refine lv_iload_n hx hb dX6_init_188 rfl (lv_at hl 0 rfl) ?_
                        refine zr_iadd hx hb dX6_init_189 ?_
                        refine zr_topi (b := 33) (by decide) ?_
                        refine lv_iload_n hx hb dX6_init_190 rfl (lv_at hl 0 rfl) ?_
                        refine zc_rl (va_runS (As := [.int (zI 10)]) (rest := [.int (zI 33), .ref ((zoF [a0, q1, q2, q3, q4, q5]) 1)]) ⟨hx, hb, hml, hown, hts⟩ (met_X6_firstVoltage l 10 (by first | decide | omega)) (va_cwS 1 hts gX6_init_X6_firstVoltage rfl rfl rfl (by decide +kernel) ⟨Nat.le_of_ble_eq_true rfl, Nat.le_of_ble_eq_true rfl⟩) ⟨zTrue.blind, fun U hU hW => ⟨rfl, trivial⟩⟩ rfl rfl hl.1 rfl (lv_room (Nat.le_of_ble_eq_true rfl)) dX6_init_191 ⟨Nat.le_of_ble_eq_true rfl, Nat.le_of_ble_eq_true rfl⟩) ?_
                        refine zr_ldc2 (n := 40) hx hb hown (hts (.constantLong RX6 54 (40)) (List.mem_of_getElem? (i := 23) rfl)) rfl dX6_init_194 ?_
                        refine zr_ladd hx hb dX6_init_197 ?_
                        refine zr_last (D := D) (g := zU (zU (zU (zU (zU (zU (zU (zU (zU (zU (zU (zU (zU (zU (zU (zU (zU (zU (zU (zU (zU (zU (zU (zU (zU (zU (zU (zU (zU (zU (zU (zU (zU (fun _ => 0) 0 995) 1 500) 2 5000) 3 10) 4 20) 5 2) 6 1800) 7 5) 8 4150) 9 100) 10 2900) 11 4000) 12 (zIlo 0)) 23 ((zIlo 0) + 40)) 13 (zIlo 1)) 24 ((zIlo 1) + 40)) 14 (zIlo 2)) 25 ((zIlo 2) + 40)) 15 (zIlo 3)) 26 ((zIlo 3) + 40)) 16 (zIlo 4)) 27 ((zIlo 4) + 40)) 17 (zIlo 5)) 28 ((zIlo 5) + 40)) 18 (zIlo 6)) 29 ((zIlo 6) + 40)) 19 (zIlo 7)) 30 ((zIlo 7) + 40)) 20 (zIlo 8)) 31 ((zIlo 8) + 40)) 21 (zIlo 9)) 32 ((zIlo 9) + 40)) 22 (zIlo 10)) hx hb hK hP hD hS 1 2 rfl rfl (by decide) (by decide) dX6_init_198 (fun H locs hP hD hS => ?_)
                        have hP : va_P D vwCl (zmod cs (zoF [a0, q1, q2, q3, q4, q5]) (zU (zU (zU (zU (zU (zU (zU (zU (zU (zU (zU (zU (zU (zU (zU (zU (zU (zU (zU (zU (zU (zU (zU (zU (zU (zU (zU (zU (zU (zU (zU (zU (zU (zU (fun _ => 0) 0 995) 1 500) 2 5000) 3 10) 4 20) 5 2) 6 1800) 7 5) 8 4150) 9 100) 10 2900) 11 4000) 12 (zIlo 0)) 23 ((zIlo 0) + 40)) 13 (zIlo 1)) 24 ((zIlo 1) + 40)) 14 (zIlo 2)) 25 ((zIlo 2) + 40)) 15 (zIlo 3)) 26 ((zIlo 3) + 40)) 16 (zIlo 4)) 27 ((zIlo 4) + 40)) 17 (zIlo 5)) 28 ((zIlo 5) + 40)) 18 (zIlo 6)) 29 ((zIlo 6) + 40)) 19 (zIlo 7)) 30 ((zIlo 7) + 40)) 20 (zIlo 8)) 31 ((zIlo 8) + 40)) 21 (zIlo 9)) 32 ((zIlo 9) + 40)) 22 (zIlo 10)) 33 ((zIlo 10) + 40)) (fun _ => 0) (fun _ => 0) 0 0 0 (fun _ => 0) 0 0 (fun _ => 0)) H := hP
                        have hD : va_D A0 (zmod cs (zoF [a0, q1, q2, q3, q4, q5]) (zU (zU (zU (zU (zU (zU (zU (zU (zU (zU (zU (zU (zU (zU (zU (zU (zU (zU (zU (zU (zU (zU (zU (zU (zU (zU (zU (zU (zU (zU (zU (zU (zU (zU (fun _ => 0) 0 995) 1 500) 2 5000) 3 10) 4 20) 5 2) 6 1800) 7 5) 8 4150) 9 100) 10 2900) 11 4000) 12 (zIlo 0)) 23 ((zIlo 0) + 40)) 13 (zIlo 1)) 24 ((zIlo 1) + 40)) 14 (zIlo 2)) 25 ((zIlo 2) + 40)) 15 (zIlo 3)) 26 ((zIlo 3) + 40)) 16 (zIlo 4)) 27 ((zIlo 4) + 40)) 17 (zIlo 5)) 28 ((zIlo 5) + 40)) 18 (zIlo 6)) 29 ((zIlo 6) + 40)) 19 (zIlo 7)) 30 ((zIlo 7) + 40)) 20 (zIlo 8)) 31 ((zIlo 8) + 40)) 21 (zIlo 9)) 32 ((zIlo 9) + 40)) 22 (zIlo 10)) 33 ((zIlo 10) + 40)) (fun _ => 0) (fun _ => 0) 0 0 0 (fun _ => 0) 0 0 (fun _ => 0)) := zD_addr hD rfl
                        refine zr_iinc (kk := 0) (lv' := [(1, .int (zI 11)), (0, .ref ((zoF [a0, q1, q2, q3, q4, q5]) 0))]) hx hb dX6_init_199 hl rfl (by decide) rfl (fun ls hl => ?_)
                        refine lv_goto (tgt := 163) hx hb dX6_init_202 (by decide) ?_
                        refine lv_iload_n hx hb dX6_init_163 rfl (lv_at hl 0 rfl) ?_
                        refine zr_bipush hx hb dX6_init_164 (by decide) ?_
                        refine zr_icmp_ge (tgt := 205) hx hb dX6_init_166 (by decide) (by decide) (by decide) (fun c17 => ?_) (fun c17 => ?_)
                        · have hP : va_P D vwCl (zmod cs (zoF [a0, q1, q2, q3, q4, q5]) zI0 (fun _ => 0) (fun _ => 0) 0 0 0 (fun _ => 0) 0 0 (fun _ => 0)) H := by
                            obtain ⟨h0, h1⟩ := zP_cons.mp hP
                            obtain ⟨h1, h2⟩ := zP_cons.mp h1
                            exact zP_cons.mpr ⟨h0, zP_cons.mpr ⟨zat_l h1 (zAll (n := 213) (by decide +kernel)), h2⟩⟩
                          have hD : va_D A0 (zmod cs (zoF [a0, q1, q2, q3, q4, q5]) zI0 (fun _ => 0) (fun _ => 0) 0 0 0 (fun _ => 0) 0 0 (fun _ => 0)) := zD_addr hD rfl
                          refine lv_aload_n hx hb dX6_init_205 rfl (lv_at hl 1 rfl) ?_
                          refine zr_ldc2 (n := 2000) hx hb hown (hts (.constantLong RX6 56 (2000)) (List.mem_of_getElem? (i := 24) rfl)) rfl dX6_init_206 ?_
                          refine zr_ldc2 (n := (-1)) hx hb hown (hts (.constantLong RX6 58 (-1)) (List.mem_of_getElem? (i := 25) rfl)) rfl dX6_init_209 ?_
                          refine zc_v (va_runV (As := [.long (zL 2000), .long (zL (-1))]) (rest := []) ⟨hx, hb, hml, hown, hts⟩ (met_X6_begins l D cs (zoF [a0, q1, q2, q3, q4, q5]) H.size zI0 (fun _ => 0) (fun _ => 0) 0 0 0 (fun _ => 0) 0 0 (fun _ => 0) 2000 (-1) (by first | assumption | omega) (by first | assumption | omega)) (cwV 2 hts gX6_init_X6_begins rfl rfl rfl (by decide +kernel) ⟨Nat.le_of_ble_eq_true rfl, Nat.le_of_ble_eq_true rfl⟩) ⟨zPreZ.blind, va_recv hK hP (ci := 6) (q0 := 0) rfl rfl, fun U hU hW => zp_Z hP hK hD hN hU hW⟩ rfl rfl hl.1 rfl (lv_room (Nat.le_of_ble_eq_true rfl)) dX6_init_212 ⟨Nat.le_of_ble_eq_true rfl, Nat.le_of_ble_eq_true rfl⟩) hS hD hA (fun H locs hP hD hS => ?_)
                          have e9 : zBeg zI0 2000 (-1) = zNew zI0 7200000 := by unfold zBeg; rw [if_pos rfl, show (3600 : Int) * 2000 = 7200000 from rfl]
                          have hP8 : va_P D vwCl (zmod cs ((fun _ => (zoF [a0, q1, q2, q3, q4, q5])) 0) (zNew zI0 7200000) (fun _ => 0) (fun _ => 0) 0 0 0 (fun _ => 0) 0 0 (fun _ => 0)) H := by rw [← e9]; exact hP
                          have hD8 : va_D A0 (zmod cs ((fun _ => (zoF [a0, q1, q2, q3, q4, q5])) 0) (zNew zI0 7200000) (fun _ => 0) (fun _ => 0) 0 0 0 (fun _ => 0) 0 0 (fun _ => 0)) := zD_addr hD rfl
                          subst hAe
                          exact W.vret hx hb hr (fun t ht hW => ⟨⟨(), rfl, trivial, (fun _ => (zoF [a0, q1, q2, q3, q4, q5])), rfl, by rw [ht]; exact hP8, hD8⟩, hS.F ht⟩) hS.2.2 dX6_init_215
                        · exact absurd c17 (by decide)
