/-! the law: its wrappers -/
set_option maxHeartbeats 4000000 in
set_option maxRecDepth 100000 in
theorem met_L_status_x (l : Launch) (hfl : l.stackTraces = false) (D : va_G) (cs : Nat → ClassId) (o : Nat → Nat → Nat) (ou : Nat) (gu : Int → Int) (A : Int → Int) (xw : Int) (rxw : -2147483648 ≤ xw ∧ xw ≤ 2147483647) (kno : ¬ (0 ≤ xw ∧ xw ≤ 5)) : vx_Met l yL_status wsL_status ({ frames := 8, cells := 1, slots := 6, locals := 125 }) (va_Pc [.ref ((o 0) 0), .int (zI xw), .ref ou] (zPreU D (zTy cs) ([((o 0) 0, .inr (5, [.ref ((o 1) 0), .ref ((o 2) 0), .ref ((o 3) 0), .ref ((o 8) 0)]))] ++ (zbat cs (o 1) A ++ [(ou, .inl (cs 2, 1, .inr (.inl (zAL gu))))])))) (zQk 1) zXN 1 6 (fun _ => False) := by
  refine vx_ofWH (cc := cL_status) (maxL := 4) (ret := (some .int)) (hh := [(0, 9, 12, 13)]) (by decide +kernel) rfl ?_
  intro p e s m args below meth c s₁ B hml hv
  obtain ⟨rfl, ⟨⟨hP, hK, hD0, hN⟩, hX⟩, hC⟩ := hv
  have hx := B.exec
  have hb := B.bytes
  have hr := B.returns
  have hts := atoms_spec (ws := wsL_status) B.pre
  have hown : s.vm.findClass RL = some m.cls := findClass_of_methodNamed B.named
  have hlocks := B.notSynchronized
  have hX : zXF s s.heap := hX
  have hS : va_S (fun _ => False) s.heap s.heap [] := va_S.rf
  have hD := hD0
  have hP : va_P D vwCl ([((o 0) 0, .inr (5, [.ref ((o 1) 0), .ref ((o 2) 0), .ref ((o 3) 0), .ref ((o 8) 0)]))] ++ (zbat cs (o 1) A ++ [(ou, .inl (cs 2, 1, .inr (.inl (zAL gu))))])) s.heap := hP
  have hl := lv_entry ([.ref ((o 0) 0), .int (zI xw), .ref ou]) (n := 4) (Nat.le_of_ble_eq_true rfl)
  rw [lg_entry_eq]
  generalize (lg_sl ([.ref ((o 0) 0), .int (zI xw), .ref ou]) ++ List.replicate (4 - (lg_sl ([.ref ((o 0) 0), .int (zI xw), .ref ou])).length) Slot.unset).toArray = ls at hl ⊢
  have hl : lv_has ls 4 [(0, .ref ((o 0) 0)), (1, .int (zI xw)), (2, .ref ou)] := hl
  refine lv_aload_n hx hb dL_status_0 rfl (lv_at hl 2 rfl) ?_
  refine zr_iconst hx hb dL_status_1 ?_
  refine lv_aload_n hx hb dL_status_2 rfl (lv_at hl 0 rfl) ?_
  refine lv_iload_n hx hb dL_status_3 rfl (lv_at hl 1 rfl) ?_
  refine vx_calli (vx_runV (As := [.int (zI xw)]) (rest := [.int (zI 0), .ref ou]) ⟨hx, hb, hml, hown, hts⟩ (met_X5_status_x l hfl D cs o A xw rxw kno) (cwV 1 hts gL_status_X5_status rfl rfl rfl (by decide +kernel) ⟨(Nat.le_of_ble_eq_true rfl), (Nat.le_of_ble_eq_true rfl)⟩) ⟨zPreX.blind, va_recv hK hP (ci := 5) (q0 := 0) rfl rfl, fun U hU hW => zp_X (hP.sub (ws' := [((o 0) 0, .inr (5, [.ref ((o 1) 0), .ref ((o 2) 0), .ref ((o 3) 0), .ref ((o 8) 0)]))] ++ zbat cs (o 1) A) [0, 1, 2, 3, 4, 5, 6, 7] rfl) hK (hD.sub (ws' := [((o 0) 0, .inr (5, [.ref ((o 1) 0), .ref ((o 2) 0), .ref ((o 3) 0), .ref ((o 8) 0)]))] ++ zbat cs (o 1) A) [0, 1, 2, 3, 4, 5, 6, 7] (by decide) rfl) hN hX hU hW⟩ rfl rfl hl.1 rfl (lv_room (Nat.le_of_ble_eq_true rfl)) dL_status_4 ⟨(Nat.le_of_ble_eq_true rfl), (Nat.le_of_ble_eq_true rfl)⟩) hS (fun _ _ h => h) (fun _ h => h) (fun _ _ h => h) ?_ (fun r u t H1 locs1 ht hvm hp9 _ _ _ _ => hp9.elim)
  intro E ce q9 u t H1 locs1 ht hvm hp9 hE hz hk hS1 hcell hv9 hcl
  have hE : E = "java/lang/IllegalArgumentException" := hE
  subst hE
  refine vx_catch (own := RL) (name := "java/lang/IllegalArgumentException") hown [] { startPc := 0, endPc := 9, handlerPc := 12, catchType := 13 } [] ((vx_table (x := yL_status) B (hts _ List.mem_cons_self)).trans rfl) (fun z hz => by cases hz) (by decide) (by decide) (hts (.classLink RL 13 "java/lang/IllegalArgumentException") (by decide +kernel)) (va_Nw.use rfl (hX.1.1 (.castable "java/lang/IllegalArgumentException" "java/lang/IllegalArgumentException") (by decide +kernel))) hcell hv9 hcl ?_
  refine lv_astore_n (lv' := [(3, .ref q9), (0, .ref ((o 0) 0)), (1, .int (zI xw)), (2, .ref ou)]) hx hb dL_status_12 rfl hl (by decide) rfl (fun ls hl => ?_)
  refine zr_iconst hx hb dL_status_13 ?_
  refine vx_ret ?_
  exact W.iret hx hb hr (fun t ht hW => ⟨⟨_, (), rfl, rfl, trivial⟩, hS1.F ht⟩) hS1.2.2 dL_status_14
set_option maxHeartbeats 4000000 in
set_option maxRecDepth 100000 in
theorem met_L_openVoltage_ok (l : Launch) (D : va_G) (cs : Nat → ClassId) (o : Nat → Nat → Nat) (ou : Nat) (gu : Int → Int) (sz : Nat) (A : Int → Int) (n : Int) (xs : Int) (xh : Int) (hI : zOK n A) (hn : 0 ≤ n ∧ n ≤ 3100000) (rxs : -2147483648 ≤ xs ∧ xs ≤ 2147483647) (rxh : -2147483648 ≤ xh ∧ xh ≤ 2147483647) (kok : (0 ≤ xs ∧ xs ≤ 10000) ∧ 0 ≤ xh ∧ xh ≤ 1000) : vx_Met l yL_openVoltage wsL_openVoltage ({ frames := 4, cells := 0, slots := 0, locals := 81 }) (va_Pc [.ref ((o 0) 0), .int (zI xs), .int (zI xh), .ref ou] (zPreZ D (zTy cs) ([((o 0) 0, .inr (5, [.ref ((o 1) 0), .ref ((o 2) 0), .ref ((o 3) 0), .ref ((o 8) 0)]))] ++ (zbat cs (o 1) A ++ [(ou, .inl (cs 2, 1, .inr (.inl (zAL gu))))])) sz)) (zQi D ([((o 0) 0, .inr (5, [.ref ((o 1) 0), .ref ((o 2) 0), .ref ((o 3) 0), .ref ((o 8) 0)]))] ++ (zbat cs (o 1) A ++ [(ou, .inl (cs 2, 1, .inr (.inl (zAL gu))))])) sz (zI 0) ([((o 0) 0, .inr (5, [.ref ((o 1) 0), .ref ((o 2) 0), .ref ((o 3) 0), .ref ((o 8) 0)]))] ++ (zbat cs (o 1) A ++ [(ou, .inl (cs 2, 1, .inr (.inl (zAL (zU gu 0 (zW (zV A xs xh)))))))]))) zXN 0 0 (va_A ([((o 0) 0, .inr (5, [.ref ((o 1) 0), .ref ((o 2) 0), .ref ((o 3) 0), .ref ((o 8) 0)]))] ++ (zbat cs (o 1) A ++ [(ou, .inl (cs 2, 1, .inr (.inl (zAL gu))))])) sz) := by
  refine vx_ofWH (cc := cL_openVoltage) (maxL := 5) (ret := (some .int)) (hh := [(0, 10, 13, 13)]) (by decide +kernel) rfl ?_
  intro p e s m args below meth c s₁ B hml hv
  obtain ⟨rfl, hsz, hP, hK, hD0, hN⟩ := hv
  have hx := B.exec
  have hb := B.bytes
  have hr := B.returns
  have hts := atoms_spec (ws := wsL_openVoltage) B.pre
  have hown : s.vm.findClass RL = some m.cls := findClass_of_methodNamed B.named
  have hlocks := B.notSynchronized
  subst hsz
  obtain ⟨A0, hAe⟩ : ∃ A0, A0 = va_A ([((o 0) 0, .inr (5, [.ref ((o 1) 0), .ref ((o 2) 0), .ref ((o 3) 0), .ref ((o 8) 0)]))] ++ (zbat cs (o 1) A ++ [(ou, .inl (cs 2, 1, .inr (.inl (zAL gu))))])) s.heap.size := ⟨_, rfl⟩
  have hD := hD0.self (sz := s.heap.size)
  rw [← hAe] at hD
  have hA : ∀ q : Nat, s.heap.size ≤ q → A0 q := fun q h => by rw [hAe]; exact Or.inr h
  have hS : va_S A0 s.heap s.heap [] := va_S.rf
  have hP : va_P D vwCl ([((o 0) 0, .inr (5, [.ref ((o 1) 0), .ref ((o 2) 0), .ref ((o 3) 0), .ref ((o 8) 0)]))] ++ (zbat cs (o 1) A ++ [(ou, .inl (cs 2, 1, .inr (.inl (zAL gu))))])) s.heap := hP
  have hl := lv_entry ([.ref ((o 0) 0), .int (zI xs), .int (zI xh), .ref ou]) (n := 5) (Nat.le_of_ble_eq_true rfl)
  rw [lg_entry_eq]
  generalize (lg_sl ([.ref ((o 0) 0), .int (zI xs), .int (zI xh), .ref ou]) ++ List.replicate (5 - (lg_sl ([.ref ((o 0) 0), .int (zI xs), .int (zI xh), .ref ou])).length) Slot.unset).toArray = ls at hl ⊢
  have hl : lv_has ls 5 [(0, .ref ((o 0) 0)), (1, .int (zI xs)), (2, .int (zI xh)), (3, .ref ou)] := hl
  refine lv_aload_n hx hb dL_openVoltage_0 rfl (lv_at hl 3 rfl) ?_
  refine zr_iconst hx hb dL_openVoltage_1 ?_
  refine lv_aload_n hx hb dL_openVoltage_2 rfl (lv_at hl 0 rfl) ?_
  refine lv_iload_n hx hb dL_openVoltage_3 rfl (lv_at hl 1 rfl) ?_
  refine lv_iload_n hx hb dL_openVoltage_4 rfl (lv_at hl 2 rfl) ?_
  refine zc_ri (va_runV (As := [.int (zI xs), .int (zI xh)]) (rest := [.int (zI 0), .ref ou]) ⟨hx, hb, hml, hown, hts⟩ (met_X5_openVoltage_ok l D cs o A n xs xh hI hn rxs rxh kok) (cwV 2 hts gL_openVoltage_X5_openVoltage rfl rfl rfl (by decide +kernel) ⟨(Nat.le_of_ble_eq_true rfl), (Nat.le_of_ble_eq_true rfl)⟩) ⟨zPre.blind, va_recv hK hP (ci := 5) (q0 := 0) rfl rfl, fun U hU hW => zp_R (hP.sub (ws' := [((o 0) 0, .inr (5, [.ref ((o 1) 0), .ref ((o 2) 0), .ref ((o 3) 0), .ref ((o 8) 0)]))] ++ zbat cs (o 1) A) [0, 1, 2, 3, 4, 5, 6, 7] rfl) hK (hD.sub (ws' := [((o 0) 0, .inr (5, [.ref ((o 1) 0), .ref ((o 2) 0), .ref ((o 3) 0), .ref ((o 8) 0)]))] ++ zbat cs (o 1) A) [0, 1, 2, 3, 4, 5, 6, 7] (by decide) rfl) hN hU hW⟩ rfl rfl hl.1 rfl (lv_room (Nat.le_of_ble_eq_true rfl)) dL_openVoltage_5 ⟨(Nat.le_of_ble_eq_true rfl), (Nat.le_of_ble_eq_true rfl)⟩) ?_
  refine lv_i2l hx hb dL_openVoltage_8 (zW_l (zV A xs xh)) ?_
  refine zr_last (D := D) (g := gu) hx hb hK hP hD hS 8 2 rfl rfl (by decide) (by decide) dL_openVoltage_9 (fun H locs hP hD hS => ?_)
  have hP9 : va_P D vwCl ([((o 0) 0, .inr (5, [.ref ((o 1) 0), .ref ((o 2) 0), .ref ((o 3) 0), .ref ((o 8) 0)]))] ++ (zbat cs (o 1) A ++ [(ou, .inl (cs 2, 1, .inr (.inl (zAL (zU gu 0 (zW (zV A xs xh)))))))])) H := hP
  have hD9 : va_D A0 ([((o 0) 0, .inr (5, [.ref ((o 1) 0), .ref ((o 2) 0), .ref ((o 3) 0), .ref ((o 8) 0)]))] ++ (zbat cs (o 1) A ++ [(ou, .inl (cs 2, 1, .inr (.inl (zAL (zU gu 0 (zW (zV A xs xh)))))))])) := zD_addr hD rfl
  refine lv_goto (tgt := 17) hx hb dL_openVoltage_10 (by decide) ?_
  refine zr_iconst hx hb dL_openVoltage_17 ?_
  refine vx_ret ?_
  rw [hAe] at hD9 hS
  exact W.iret hx hb hr (fun t ht hW => ⟨⟨_, (), rfl, rfl, by rw [ht]; exact hP9, hD9⟩, hS.F ht⟩) hS.2.2 dL_openVoltage_18
set_option maxHeartbeats 4000000 in
set_option maxRecDepth 100000 in
theorem met_L_openVoltage_x (l : Launch) (hfl : l.stackTraces = false) (D : va_G) (cs : Nat → ClassId) (o : Nat → Nat → Nat) (ou : Nat) (gu : Int → Int) (A : Int → Int) (xs : Int) (xh : Int) (rxs : -2147483648 ≤ xs ∧ xs ≤ 2147483647) (rxh : -2147483648 ≤ xh ∧ xh ≤ 2147483647) (kno : ¬ ((0 ≤ xs ∧ xs ≤ 10000) ∧ 0 ≤ xh ∧ xh ≤ 1000)) : vx_Met l yL_openVoltage wsL_openVoltage ({ frames := 8, cells := 1, slots := 6, locals := 126 }) (va_Pc [.ref ((o 0) 0), .int (zI xs), .int (zI xh), .ref ou] (zPreU D (zTy cs) ([((o 0) 0, .inr (5, [.ref ((o 1) 0), .ref ((o 2) 0), .ref ((o 3) 0), .ref ((o 8) 0)]))] ++ (zbat cs (o 1) A ++ [(ou, .inl (cs 2, 1, .inr (.inl (zAL gu))))])))) (zQk 1) zXN 1 6 (fun _ => False) := by
  refine vx_ofWH (cc := cL_openVoltage) (maxL := 5) (ret := (some .int)) (hh := [(0, 10, 13, 13)]) (by decide +kernel) rfl ?_
  intro p e s m args below meth c s₁ B hml hv
  obtain ⟨rfl, ⟨⟨hP, hK, hD0, hN⟩, hX⟩, hC⟩ := hv
  have hx := B.exec
  have hb := B.bytes
  have hr := B.returns
  have hts := atoms_spec (ws := wsL_openVoltage) B.pre
  have hown : s.vm.findClass RL = some m.cls := findClass_of_methodNamed B.named
  have hlocks := B.notSynchronized
  have hX : zXF s s.heap := hX
  have hS : va_S (fun _ => False) s.heap s.heap [] := va_S.rf
  have hD := hD0
  have hP : va_P D vwCl ([((o 0) 0, .inr (5, [.ref ((o 1) 0), .ref ((o 2) 0), .ref ((o 3) 0), .ref ((o 8) 0)]))] ++ (zbat cs (o 1) A ++ [(ou, .inl (cs 2, 1, .inr (.inl (zAL gu))))])) s.heap := hP
  have hl := lv_entry ([.ref ((o 0) 0), .int (zI xs), .int (zI xh), .ref ou]) (n := 5) (Nat.le_of_ble_eq_true rfl)
  rw [lg_entry_eq]
  generalize (lg_sl ([.ref ((o 0) 0), .int (zI xs), .int (zI xh), .ref ou]) ++ List.replicate (5 - (lg_sl ([.ref ((o 0) 0), .int (zI xs), .int (zI xh), .ref ou])).length) Slot.unset).toArray = ls at hl ⊢
  have hl : lv_has ls 5 [(0, .ref ((o 0) 0)), (1, .int (zI xs)), (2, .int (zI xh)), (3, .ref ou)] := hl
  refine lv_aload_n hx hb dL_openVoltage_0 rfl (lv_at hl 3 rfl) ?_
  refine zr_iconst hx hb dL_openVoltage_1 ?_
  refine lv_aload_n hx hb dL_openVoltage_2 rfl (lv_at hl 0 rfl) ?_
  refine lv_iload_n hx hb dL_openVoltage_3 rfl (lv_at hl 1 rfl) ?_
  refine lv_iload_n hx hb dL_openVoltage_4 rfl (lv_at hl 2 rfl) ?_
  refine vx_calli (vx_runV (As := [.int (zI xs), .int (zI xh)]) (rest := [.int (zI 0), .ref ou]) ⟨hx, hb, hml, hown, hts⟩ (met_X5_openVoltage_x l hfl D cs o A xs xh rxs rxh kno) (cwV 2 hts gL_openVoltage_X5_openVoltage rfl rfl rfl (by decide +kernel) ⟨(Nat.le_of_ble_eq_true rfl), (Nat.le_of_ble_eq_true rfl)⟩) ⟨zPreX.blind, va_recv hK hP (ci := 5) (q0 := 0) rfl rfl, fun U hU hW => zp_X (hP.sub (ws' := [((o 0) 0, .inr (5, [.ref ((o 1) 0), .ref ((o 2) 0), .ref ((o 3) 0), .ref ((o 8) 0)]))] ++ zbat cs (o 1) A) [0, 1, 2, 3, 4, 5, 6, 7] rfl) hK (hD.sub (ws' := [((o 0) 0, .inr (5, [.ref ((o 1) 0), .ref ((o 2) 0), .ref ((o 3) 0), .ref ((o 8) 0)]))] ++ zbat cs (o 1) A) [0, 1, 2, 3, 4, 5, 6, 7] (by decide) rfl) hN hX hU hW⟩ rfl rfl hl.1 rfl (lv_room (Nat.le_of_ble_eq_true rfl)) dL_openVoltage_5 ⟨(Nat.le_of_ble_eq_true rfl), (Nat.le_of_ble_eq_true rfl)⟩) hS (fun _ _ h => h) (fun _ h => h) (fun _ _ h => h) ?_ (fun r u t H1 locs1 ht hvm hp9 _ _ _ _ => hp9.elim)
  intro E ce q9 u t H1 locs1 ht hvm hp9 hE hz hk hS1 hcell hv9 hcl
  have hE : E = "java/lang/IllegalArgumentException" := hE
  subst hE
  refine vx_catch (own := RL) (name := "java/lang/IllegalArgumentException") hown [] { startPc := 0, endPc := 10, handlerPc := 13, catchType := 13 } [] ((vx_table (x := yL_openVoltage) B (hts _ List.mem_cons_self)).trans rfl) (fun z hz => by cases hz) (by decide) (by decide) (hts (.classLink RL 13 "java/lang/IllegalArgumentException") (by decide +kernel)) (va_Nw.use rfl (hX.1.1 (.castable "java/lang/IllegalArgumentException" "java/lang/IllegalArgumentException") (by decide +kernel))) hcell hv9 hcl ?_
  refine lv_astore (lv' := [(4, .ref q9), (0, .ref ((o 0) 0)), (1, .int (zI xs)), (2, .int (zI xh)), (3, .ref ou)]) hx hb dL_openVoltage_13 hl (by decide) rfl (fun ls hl => ?_)
  refine zr_iconst hx hb dL_openVoltage_15 ?_
  refine vx_ret ?_
  exact W.iret hx hb hr (fun t ht hW => ⟨⟨_, (), rfl, rfl, trivial⟩, hS1.F ht⟩) hS1.2.2 dL_openVoltage_16
set_option maxHeartbeats 4000000 in
set_option maxRecDepth 100000 in
theorem met_L_invert_ok (l : Launch) (D : va_G) (cs : Nat → ClassId) (o : Nat → Nat → Nat) (ou : Nat) (gu : Int → Int) (sz : Nat) (A : Int → Int) (n : Int) (xv : Int) (xh : Int) (hI : zOK n A) (hn : 0 ≤ n ∧ n ≤ 3100000) (rxv : -2147483648 ≤ xv ∧ xv ≤ 2147483647) (rxh : -2147483648 ≤ xh ∧ xh ≤ 2147483647) (kok : (0 ≤ xv ∧ xv ≤ 6000) ∧ 0 ≤ xh ∧ xh ≤ 1000) : vx_Met l yL_invert wsL_invert ({ frames := 5, cells := 0, slots := 0, locals := 107 }) (va_Pc [.ref ((o 0) 0), .int (zI xv), .int (zI xh), .ref ou] (zPreZ D (zTy cs) ([((o 0) 0, .inr (5, [.ref ((o 1) 0), .ref ((o 2) 0), .ref ((o 3) 0), .ref ((o 8) 0)]))] ++ (zbat cs (o 1) A ++ [(ou, .inl (cs 2, 1, .inr (.inl (zAL gu))))])) sz)) (zQi D ([((o 0) 0, .inr (5, [.ref ((o 1) 0), .ref ((o 2) 0), .ref ((o 3) 0), .ref ((o 8) 0)]))] ++ (zbat cs (o 1) A ++ [(ou, .inl (cs 2, 1, .inr (.inl (zAL gu))))])) sz (zI 0) ([((o 0) 0, .inr (5, [.ref ((o 1) 0), .ref ((o 2) 0), .ref ((o 3) 0), .ref ((o 8) 0)]))] ++ (zbat cs (o 1) A ++ [(ou, .inl (cs 2, 1, .inr (.inl (zAL (zU gu 0 (zW (zInv A xv xh)))))))]))) zXN 0 0 (va_A ([((o 0) 0, .inr (5, [.ref ((o 1) 0), .ref ((o 2) 0), .ref ((o 3) 0), .ref ((o 8) 0)]))] ++ (zbat cs (o 1) A ++ [(ou, .inl (cs 2, 1, .inr (.inl (zAL gu))))])) sz) := by
  refine vx_ofWH (cc := cL_invert) (maxL := 5) (ret := (some .int)) (hh := [(0, 10, 13, 13)]) (by decide +kernel) rfl ?_
  intro p e s m args below meth c s₁ B hml hv
  obtain ⟨rfl, hsz, hP, hK, hD0, hN⟩ := hv
  have hx := B.exec
  have hb := B.bytes
  have hr := B.returns
  have hts := atoms_spec (ws := wsL_invert) B.pre
  have hown : s.vm.findClass RL = some m.cls := findClass_of_methodNamed B.named
  have hlocks := B.notSynchronized
  subst hsz
  obtain ⟨A0, hAe⟩ : ∃ A0, A0 = va_A ([((o 0) 0, .inr (5, [.ref ((o 1) 0), .ref ((o 2) 0), .ref ((o 3) 0), .ref ((o 8) 0)]))] ++ (zbat cs (o 1) A ++ [(ou, .inl (cs 2, 1, .inr (.inl (zAL gu))))])) s.heap.size := ⟨_, rfl⟩
  have hD := hD0.self (sz := s.heap.size)
  rw [← hAe] at hD
  have hA : ∀ q : Nat, s.heap.size ≤ q → A0 q := fun q h => by rw [hAe]; exact Or.inr h
  have hS : va_S A0 s.heap s.heap [] := va_S.rf
  have hP : va_P D vwCl ([((o 0) 0, .inr (5, [.ref ((o 1) 0), .ref ((o 2) 0), .ref ((o 3) 0), .ref ((o 8) 0)]))] ++ (zbat cs (o 1) A ++ [(ou, .inl (cs 2, 1, .inr (.inl (zAL gu))))])) s.heap := hP
  have hl := lv_entry ([.ref ((o 0) 0), .int (zI xv), .int (zI xh), .ref ou]) (n := 5) (Nat.le_of_ble_eq_true rfl)
  rw [lg_entry_eq]
  generalize (lg_sl ([.ref ((o 0) 0), .int (zI xv), .int (zI xh), .ref ou]) ++ List.replicate (5 - (lg_sl ([.ref ((o 0) 0), .int (zI xv), .int (zI xh), .ref ou])).length) Slot.unset).toArray = ls at hl ⊢
  have hl : lv_has ls 5 [(0, .ref ((o 0) 0)), (1, .int (zI xv)), (2, .int (zI xh)), (3, .ref ou)] := hl
  refine lv_aload_n hx hb dL_invert_0 rfl (lv_at hl 3 rfl) ?_
  refine zr_iconst hx hb dL_invert_1 ?_
  refine lv_aload_n hx hb dL_invert_2 rfl (lv_at hl 0 rfl) ?_
  refine lv_iload_n hx hb dL_invert_3 rfl (lv_at hl 1 rfl) ?_
  refine lv_iload_n hx hb dL_invert_4 rfl (lv_at hl 2 rfl) ?_
  refine zc_ri (va_runV (As := [.int (zI xv), .int (zI xh)]) (rest := [.int (zI 0), .ref ou]) ⟨hx, hb, hml, hown, hts⟩ (met_X5_invert_ok l D cs o A n xv xh hI hn rxv rxh kok) (cwV 2 hts gL_invert_X5_invert rfl rfl rfl (by decide +kernel) ⟨(Nat.le_of_ble_eq_true rfl), (Nat.le_of_ble_eq_true rfl)⟩) ⟨zPre.blind, va_recv hK hP (ci := 5) (q0 := 0) rfl rfl, fun U hU hW => zp_R (hP.sub (ws' := [((o 0) 0, .inr (5, [.ref ((o 1) 0), .ref ((o 2) 0), .ref ((o 3) 0), .ref ((o 8) 0)]))] ++ zbat cs (o 1) A) [0, 1, 2, 3, 4, 5, 6, 7] rfl) hK (hD.sub (ws' := [((o 0) 0, .inr (5, [.ref ((o 1) 0), .ref ((o 2) 0), .ref ((o 3) 0), .ref ((o 8) 0)]))] ++ zbat cs (o 1) A) [0, 1, 2, 3, 4, 5, 6, 7] (by decide) rfl) hN hU hW⟩ rfl rfl hl.1 rfl (lv_room (Nat.le_of_ble_eq_true rfl)) dL_invert_5 ⟨(Nat.le_of_ble_eq_true rfl), (Nat.le_of_ble_eq_true rfl)⟩) ?_
  refine lv_i2l hx hb dL_invert_8 (zW_l (zInv A xv xh)) ?_
  refine zr_last (D := D) (g := gu) hx hb hK hP hD hS 8 2 rfl rfl (by decide) (by decide) dL_invert_9 (fun H locs hP hD hS => ?_)
  have hP9 : va_P D vwCl ([((o 0) 0, .inr (5, [.ref ((o 1) 0), .ref ((o 2) 0), .ref ((o 3) 0), .ref ((o 8) 0)]))] ++ (zbat cs (o 1) A ++ [(ou, .inl (cs 2, 1, .inr (.inl (zAL (zU gu 0 (zW (zInv A xv xh)))))))])) H := hP
  have hD9 : va_D A0 ([((o 0) 0, .inr (5, [.ref ((o 1) 0), .ref ((o 2) 0), .ref ((o 3) 0), .ref ((o 8) 0)]))] ++ (zbat cs (o 1) A ++ [(ou, .inl (cs 2, 1, .inr (.inl (zAL (zU gu 0 (zW (zInv A xv xh)))))))])) := zD_addr hD rfl
  refine lv_goto (tgt := 17) hx hb dL_invert_10 (by decide) ?_
  refine zr_iconst hx hb dL_invert_17 ?_
  refine vx_ret ?_
  rw [hAe] at hD9 hS
  exact W.iret hx hb hr (fun t ht hW => ⟨⟨_, (), rfl, rfl, by rw [ht]; exact hP9, hD9⟩, hS.F ht⟩) hS.2.2 dL_invert_18
set_option maxHeartbeats 4000000 in
set_option maxRecDepth 100000 in
theorem met_L_invert_x (l : Launch) (hfl : l.stackTraces = false) (D : va_G) (cs : Nat → ClassId) (o : Nat → Nat → Nat) (ou : Nat) (gu : Int → Int) (A : Int → Int) (xv : Int) (xh : Int) (rxv : -2147483648 ≤ xv ∧ xv ≤ 2147483647) (rxh : -2147483648 ≤ xh ∧ xh ≤ 2147483647) (kno : ¬ ((0 ≤ xv ∧ xv ≤ 6000) ∧ 0 ≤ xh ∧ xh ≤ 1000)) : vx_Met l yL_invert wsL_invert ({ frames := 8, cells := 1, slots := 6, locals := 126 }) (va_Pc [.ref ((o 0) 0), .int (zI xv), .int (zI xh), .ref ou] (zPreU D (zTy cs) ([((o 0) 0, .inr (5, [.ref ((o 1) 0), .ref ((o 2) 0), .ref ((o 3) 0), .ref ((o 8) 0)]))] ++ (zbat cs (o 1) A ++ [(ou, .inl (cs 2, 1, .inr (.inl (zAL gu))))])))) (zQk 1) zXN 1 6 (fun _ => False) := by
  refine vx_ofWH (cc := cL_invert) (maxL := 5) (ret := (some .int)) (hh := [(0, 10, 13, 13)]) (by decide +kernel) rfl ?_
  intro p e s m args below meth c s₁ B hml hv
  obtain ⟨rfl, ⟨⟨hP, hK, hD0, hN⟩, hX⟩, hC⟩ := hv
  have hx := B.exec
  have hb := B.bytes
  have hr := B.returns
  have hts := atoms_spec (ws := wsL_invert) B.pre
  have hown : s.vm.findClass RL = some m.cls := findClass_of_methodNamed B.named
  have hlocks := B.notSynchronized
  have hX : zXF s s.heap := hX
  have hS : va_S (fun _ => False) s.heap s.heap [] := va_S.rf
  have hD := hD0
  have hP : va_P D vwCl ([((o 0) 0, .inr (5, [.ref ((o 1) 0), .ref ((o 2) 0), .ref ((o 3) 0), .ref ((o 8) 0)]))] ++ (zbat cs (o 1) A ++ [(ou, .inl (cs 2, 1, .inr (.inl (zAL gu))))])) s.heap := hP
  have hl := lv_entry ([.ref ((o 0) 0), .int (zI xv), .int (zI xh), .ref ou]) (n := 5) (Nat.le_of_ble_eq_true rfl)
  rw [lg_entry_eq]
  generalize (lg_sl ([.ref ((o 0) 0), .int (zI xv), .int (zI xh), .ref ou]) ++ List.replicate (5 - (lg_sl ([.ref ((o 0) 0), .int (zI xv), .int (zI xh), .ref ou])).length) Slot.unset).toArray = ls at hl ⊢
  have hl : lv_has ls 5 [(0, .ref ((o 0) 0)), (1, .int (zI xv)), (2, .int (zI xh)), (3, .ref ou)] := hl
  refine lv_aload_n hx hb dL_invert_0 rfl (lv_at hl 3 rfl) ?_
  refine zr_iconst hx hb dL_invert_1 ?_
  refine lv_aload_n hx hb dL_invert_2 rfl (lv_at hl 0 rfl) ?_
  refine lv_iload_n hx hb dL_invert_3 rfl (lv_at hl 1 rfl) ?_
  refine lv_iload_n hx hb dL_invert_4 rfl (lv_at hl 2 rfl) ?_
  refine vx_calli (vx_runV (As := [.int (zI xv), .int (zI xh)]) (rest := [.int (zI 0), .ref ou]) ⟨hx, hb, hml, hown, hts⟩ (met_X5_invert_x l hfl D cs o A xv xh rxv rxh kno) (cwV 2 hts gL_invert_X5_invert rfl rfl rfl (by decide +kernel) ⟨(Nat.le_of_ble_eq_true rfl), (Nat.le_of_ble_eq_true rfl)⟩) ⟨zPreX.blind, va_recv hK hP (ci := 5) (q0 := 0) rfl rfl, fun U hU hW => zp_X (hP.sub (ws' := [((o 0) 0, .inr (5, [.ref ((o 1) 0), .ref ((o 2) 0), .ref ((o 3) 0), .ref ((o 8) 0)]))] ++ zbat cs (o 1) A) [0, 1, 2, 3, 4, 5, 6, 7] rfl) hK (hD.sub (ws' := [((o 0) 0, .inr (5, [.ref ((o 1) 0), .ref ((o 2) 0), .ref ((o 3) 0), .ref ((o 8) 0)]))] ++ zbat cs (o 1) A) [0, 1, 2, 3, 4, 5, 6, 7] (by decide) rfl) hN hX hU hW⟩ rfl rfl hl.1 rfl (lv_room (Nat.le_of_ble_eq_true rfl)) dL_invert_5 ⟨(Nat.le_of_ble_eq_true rfl), (Nat.le_of_ble_eq_true rfl)⟩) hS (fun _ _ h => h) (fun _ h => h) (fun _ _ h => h) ?_ (fun r u t H1 locs1 ht hvm hp9 _ _ _ _ => hp9.elim)
  intro E ce q9 u t H1 locs1 ht hvm hp9 hE hz hk hS1 hcell hv9 hcl
  have hE : E = "java/lang/IllegalArgumentException" := hE
  subst hE
  refine vx_catch (own := RL) (name := "java/lang/IllegalArgumentException") hown [] { startPc := 0, endPc := 10, handlerPc := 13, catchType := 13 } [] ((vx_table (x := yL_invert) B (hts _ List.mem_cons_self)).trans rfl) (fun z hz => by cases hz) (by decide) (by decide) (hts (.classLink RL 13 "java/lang/IllegalArgumentException") (by decide +kernel)) (va_Nw.use rfl (hX.1.1 (.castable "java/lang/IllegalArgumentException" "java/lang/IllegalArgumentException") (by decide +kernel))) hcell hv9 hcl ?_
  refine lv_astore (lv' := [(4, .ref q9), (0, .ref ((o 0) 0)), (1, .int (zI xv)), (2, .int (zI xh)), (3, .ref ou)]) hx hb dL_invert_13 hl (by decide) rfl (fun ls hl => ?_)
  refine zr_iconst hx hb dL_invert_15 ?_
  refine vx_ret ?_
  exact W.iret hx hb hr (fun t ht hW => ⟨⟨_, (), rfl, rfl, trivial⟩, hS1.F ht⟩) hS1.2.2 dL_invert_16
set_option maxHeartbeats 4000000 in
set_option maxRecDepth 100000 in
theorem met_L_anchor_ok (l : Launch) (D : va_G) (cs : Nat → ClassId) (o : Nat → Nat → Nat) (ou : Nat) (gu : Int → Int) (sz : Nat) (A : Int → Int) (n : Int) (xa : Int) (xw : Int) (hI : zOK n A) (hn : 0 ≤ n ∧ n ≤ 3100000) (rxa : -2147483648 ≤ xa ∧ xa ≤ 2147483647) (rxw : -2147483648 ≤ xw ∧ xw ≤ 2147483647) (kok : (0 ≤ xa ∧ xa < A 52) ∧ 0 ≤ xw ∧ xw ≤ 3) : vx_Met l yL_anchor wsL_anchor ({ frames := 3, cells := 0, slots := 0, locals := 66 }) (va_Pc [.ref ((o 0) 0), .int (zI xa), .int (zI xw), .ref ou] (zPreZ D (zTy cs) ([((o 0) 0, .inr (5, [.ref ((o 1) 0), .ref ((o 2) 0), .ref ((o 3) 0), .ref ((o 8) 0)]))] ++ (zbat cs (o 1) A ++ [(ou, .inl (cs 2, 1, .inr (.inl (zAL gu))))])) sz)) (zQi D ([((o 0) 0, .inr (5, [.ref ((o 1) 0), .ref ((o 2) 0), .ref ((o 3) 0), .ref ((o 8) 0)]))] ++ (zbat cs (o 1) A ++ [(ou, .inl (cs 2, 1, .inr (.inl (zAL gu))))])) sz (zI 0) ([((o 0) 0, .inr (5, [.ref ((o 1) 0), .ref ((o 2) 0), .ref ((o 3) 0), .ref ((o 8) 0)]))] ++ (zbat cs (o 1) A ++ [(ou, .inl (cs 2, 1, .inr (.inl (zAL (zU gu 0 (zW (A (53 + (4 * xa + xw)))))))))]))) zXN 0 0 (va_A ([((o 0) 0, .inr (5, [.ref ((o 1) 0), .ref ((o 2) 0), .ref ((o 3) 0), .ref ((o 8) 0)]))] ++ (zbat cs (o 1) A ++ [(ou, .inl (cs 2, 1, .inr (.inl (zAL gu))))])) sz) := by
  refine vx_ofWH (cc := cL_anchor) (maxL := 5) (ret := (some .int)) (hh := [(0, 10, 13, 26), (0, 10, 17, 13)]) (by decide +kernel) rfl ?_
  intro p e s m args below meth c s₁ B hml hv
  obtain ⟨rfl, hsz, hP, hK, hD0, hN⟩ := hv
  have hx := B.exec
  have hb := B.bytes
  have hr := B.returns
  have hts := atoms_spec (ws := wsL_anchor) B.pre
  have hown : s.vm.findClass RL = some m.cls := findClass_of_methodNamed B.named
  have hlocks := B.notSynchronized
  subst hsz
  obtain ⟨A0, hAe⟩ : ∃ A0, A0 = va_A ([((o 0) 0, .inr (5, [.ref ((o 1) 0), .ref ((o 2) 0), .ref ((o 3) 0), .ref ((o 8) 0)]))] ++ (zbat cs (o 1) A ++ [(ou, .inl (cs 2, 1, .inr (.inl (zAL gu))))])) s.heap.size := ⟨_, rfl⟩
  have hD := hD0.self (sz := s.heap.size)
  rw [← hAe] at hD
  have hA : ∀ q : Nat, s.heap.size ≤ q → A0 q := fun q h => by rw [hAe]; exact Or.inr h
  have hS : va_S A0 s.heap s.heap [] := va_S.rf
  have hP : va_P D vwCl ([((o 0) 0, .inr (5, [.ref ((o 1) 0), .ref ((o 2) 0), .ref ((o 3) 0), .ref ((o 8) 0)]))] ++ (zbat cs (o 1) A ++ [(ou, .inl (cs 2, 1, .inr (.inl (zAL gu))))])) s.heap := hP
  have hl := lv_entry ([.ref ((o 0) 0), .int (zI xa), .int (zI xw), .ref ou]) (n := 5) (Nat.le_of_ble_eq_true rfl)
  rw [lg_entry_eq]
  generalize (lg_sl ([.ref ((o 0) 0), .int (zI xa), .int (zI xw), .ref ou]) ++ List.replicate (5 - (lg_sl ([.ref ((o 0) 0), .int (zI xa), .int (zI xw), .ref ou])).length) Slot.unset).toArray = ls at hl ⊢
  have hl : lv_has ls 5 [(0, .ref ((o 0) 0)), (1, .int (zI xa)), (2, .int (zI xw)), (3, .ref ou)] := hl
  refine lv_aload_n hx hb dL_anchor_0 rfl (lv_at hl 3 rfl) ?_
  refine zr_iconst hx hb dL_anchor_1 ?_
  refine lv_aload_n hx hb dL_anchor_2 rfl (lv_at hl 0 rfl) ?_
  refine lv_iload_n hx hb dL_anchor_3 rfl (lv_at hl 1 rfl) ?_
  refine lv_iload_n hx hb dL_anchor_4 rfl (lv_at hl 2 rfl) ?_
  refine zc_ri (va_runV (As := [.int (zI xa), .int (zI xw)]) (rest := [.int (zI 0), .ref ou]) ⟨hx, hb, hml, hown, hts⟩ (met_X5_anchor_ok l D cs o A n xa xw hI hn rxa rxw kok) (cwV 2 hts gL_anchor_X5_anchor rfl rfl rfl (by decide +kernel) ⟨(Nat.le_of_ble_eq_true rfl), (Nat.le_of_ble_eq_true rfl)⟩) ⟨zPre.blind, va_recv hK hP (ci := 5) (q0 := 0) rfl rfl, fun U hU hW => zp_R (hP.sub (ws' := [((o 0) 0, .inr (5, [.ref ((o 1) 0), .ref ((o 2) 0), .ref ((o 3) 0), .ref ((o 8) 0)]))] ++ zbat cs (o 1) A) [0, 1, 2, 3, 4, 5, 6, 7] rfl) hK (hD.sub (ws' := [((o 0) 0, .inr (5, [.ref ((o 1) 0), .ref ((o 2) 0), .ref ((o 3) 0), .ref ((o 8) 0)]))] ++ zbat cs (o 1) A) [0, 1, 2, 3, 4, 5, 6, 7] (by decide) rfl) hN hU hW⟩ rfl rfl hl.1 rfl (lv_room (Nat.le_of_ble_eq_true rfl)) dL_anchor_5 ⟨(Nat.le_of_ble_eq_true rfl), (Nat.le_of_ble_eq_true rfl)⟩) ?_
  refine lv_i2l hx hb dL_anchor_8 (zW_l (A (53 + (4 * xa + xw)))) ?_
  refine zr_last (D := D) (g := gu) hx hb hK hP hD hS 8 2 rfl rfl (by decide) (by decide) dL_anchor_9 (fun H locs hP hD hS => ?_)
  have hP9 : va_P D vwCl ([((o 0) 0, .inr (5, [.ref ((o 1) 0), .ref ((o 2) 0), .ref ((o 3) 0), .ref ((o 8) 0)]))] ++ (zbat cs (o 1) A ++ [(ou, .inl (cs 2, 1, .inr (.inl (zAL (zU gu 0 (zW (A (53 + (4 * xa + xw)))))))))])) H := hP
  have hD9 : va_D A0 ([((o 0) 0, .inr (5, [.ref ((o 1) 0), .ref ((o 2) 0), .ref ((o 3) 0), .ref ((o 8) 0)]))] ++ (zbat cs (o 1) A ++ [(ou, .inl (cs 2, 1, .inr (.inl (zAL (zU gu 0 (zW (A (53 + (4 * xa + xw)))))))))])) := zD_addr hD rfl
  refine lv_goto (tgt := 21) hx hb dL_anchor_10 (by decide) ?_
  refine zr_iconst hx hb dL_anchor_21 ?_
  refine vx_ret ?_
  rw [hAe] at hD9 hS
  exact W.iret hx hb hr (fun t ht hW => ⟨⟨_, (), rfl, rfl, by rw [ht]; exact hP9, hD9⟩, hS.F ht⟩) hS.2.2 dL_anchor_22
set_option maxHeartbeats 4000000 in
set_option maxRecDepth 100000 in
theorem met_L_anchor_x1 (l : Launch) (hfl : l.stackTraces = false) (D : va_G) (cs : Nat → ClassId) (o : Nat → Nat → Nat) (ou : Nat) (gu : Int → Int) (A : Int → Int) (n : Int) (xa : Int) (xw : Int) (hI : zOK n A) (hn : 0 ≤ n ∧ n ≤ 3100000) (rxa : -2147483648 ≤ xa ∧ xa ≤ 2147483647) (rxw : -2147483648 ≤ xw ∧ xw ≤ 2147483647) (kno : ¬ (0 ≤ xa ∧ xa < A 52)) : vx_Met l yL_anchor wsL_anchor ({ frames := 7, cells := 1, slots := 6, locals := 104 }) (va_Pc [.ref ((o 0) 0), .int (zI xa), .int (zI xw), .ref ou] (zPreU D (zTy cs) ([((o 0) 0, .inr (5, [.ref ((o 1) 0), .ref ((o 2) 0), .ref ((o 3) 0), .ref ((o 8) 0)]))] ++ (zbat cs (o 1) A ++ [(ou, .inl (cs 2, 1, .inr (.inl (zAL gu))))])))) (zQk 1) zXN 1 6 (fun _ => False) := by
  refine vx_ofWH (cc := cL_anchor) (maxL := 5) (ret := (some .int)) (hh := [(0, 10, 13, 26), (0, 10, 17, 13)]) (by decide +kernel) rfl ?_
  intro p e s m args below meth c s₁ B hml hv
  obtain ⟨rfl, ⟨⟨hP, hK, hD0, hN⟩, hX⟩, hC⟩ := hv
  have hx := B.exec
  have hb := B.bytes
  have hr := B.returns
  have hts := atoms_spec (ws := wsL_anchor) B.pre
  have hown : s.vm.findClass RL = some m.cls := findClass_of_methodNamed B.named
  have hlocks := B.notSynchronized
  have hX : zXF s s.heap := hX
  have hS : va_S (fun _ => False) s.heap s.heap [] := va_S.rf
  have hD := hD0
  have hP : va_P D vwCl ([((o 0) 0, .inr (5, [.ref ((o 1) 0), .ref ((o 2) 0), .ref ((o 3) 0), .ref ((o 8) 0)]))] ++ (zbat cs (o 1) A ++ [(ou, .inl (cs 2, 1, .inr (.inl (zAL gu))))])) s.heap := hP
  have hl := lv_entry ([.ref ((o 0) 0), .int (zI xa), .int (zI xw), .ref ou]) (n := 5) (Nat.le_of_ble_eq_true rfl)
  rw [lg_entry_eq]
  generalize (lg_sl ([.ref ((o 0) 0), .int (zI xa), .int (zI xw), .ref ou]) ++ List.replicate (5 - (lg_sl ([.ref ((o 0) 0), .int (zI xa), .int (zI xw), .ref ou])).length) Slot.unset).toArray = ls at hl ⊢
  have hl : lv_has ls 5 [(0, .ref ((o 0) 0)), (1, .int (zI xa)), (2, .int (zI xw)), (3, .ref ou)] := hl
  refine lv_aload_n hx hb dL_anchor_0 rfl (lv_at hl 3 rfl) ?_
  refine zr_iconst hx hb dL_anchor_1 ?_
  refine lv_aload_n hx hb dL_anchor_2 rfl (lv_at hl 0 rfl) ?_
  refine lv_iload_n hx hb dL_anchor_3 rfl (lv_at hl 1 rfl) ?_
  refine lv_iload_n hx hb dL_anchor_4 rfl (lv_at hl 2 rfl) ?_
  refine vx_calli (vx_runV (As := [.int (zI xa), .int (zI xw)]) (rest := [.int (zI 0), .ref ou]) ⟨hx, hb, hml, hown, hts⟩ (met_X5_anchor_x1 l hfl D cs o A n xa xw hI hn rxa rxw kno) (cwV 2 hts gL_anchor_X5_anchor rfl rfl rfl (by decide +kernel) ⟨(Nat.le_of_ble_eq_true rfl), (Nat.le_of_ble_eq_true rfl)⟩) ⟨zPreX.blind, va_recv hK hP (ci := 5) (q0 := 0) rfl rfl, fun U hU hW => zp_X (hP.sub (ws' := [((o 0) 0, .inr (5, [.ref ((o 1) 0), .ref ((o 2) 0), .ref ((o 3) 0), .ref ((o 8) 0)]))] ++ zbat cs (o 1) A) [0, 1, 2, 3, 4, 5, 6, 7] rfl) hK (hD.sub (ws' := [((o 0) 0, .inr (5, [.ref ((o 1) 0), .ref ((o 2) 0), .ref ((o 3) 0), .ref ((o 8) 0)]))] ++ zbat cs (o 1) A) [0, 1, 2, 3, 4, 5, 6, 7] (by decide) rfl) hN hX hU hW⟩ rfl rfl hl.1 rfl (lv_room (Nat.le_of_ble_eq_true rfl)) dL_anchor_5 ⟨(Nat.le_of_ble_eq_true rfl), (Nat.le_of_ble_eq_true rfl)⟩) hS (fun _ _ h => h) (fun _ h => h) (fun _ _ h => h) ?_ (fun r u t H1 locs1 ht hvm hp9 _ _ _ _ => hp9.elim)
  intro E ce q9 u t H1 locs1 ht hvm hp9 hE hz hk hS1 hcell hv9 hcl
  have hE : E = "java/lang/IndexOutOfBoundsException" := hE
  subst hE
  refine vx_catch (own := RL) (name := "java/lang/IndexOutOfBoundsException") hown [] { startPc := 0, endPc := 10, handlerPc := 13, catchType := 26 } [{ startPc := 0, endPc := 10, handlerPc := 17, catchType := 13 }] ((vx_table (x := yL_anchor) B (hts _ List.mem_cons_self)).trans rfl) (fun z hz => by cases hz) (by decide) (by decide) (hts (.classLink RL 26 "java/lang/IndexOutOfBoundsException") (by decide +kernel)) (va_Nw.use rfl (hX.1.1 (.castable "java/lang/IndexOutOfBoundsException" "java/lang/IndexOutOfBoundsException") (by decide +kernel))) hcell hv9 hcl ?_
  refine lv_astore (lv' := [(4, .ref q9), (0, .ref ((o 0) 0)), (1, .int (zI xa)), (2, .int (zI xw)), (3, .ref ou)]) hx hb dL_anchor_13 hl (by decide) rfl (fun ls hl => ?_)
  refine zr_iconst hx hb dL_anchor_15 ?_
  refine vx_ret ?_
  exact W.iret hx hb hr (fun t ht hW => ⟨⟨_, (), rfl, rfl, trivial⟩, hS1.F ht⟩) hS1.2.2 dL_anchor_16
set_option maxHeartbeats 4000000 in
set_option maxRecDepth 100000 in
theorem met_L_anchor_x2 (l : Launch) (hfl : l.stackTraces = false) (D : va_G) (cs : Nat → ClassId) (o : Nat → Nat → Nat) (ou : Nat) (gu : Int → Int) (A : Int → Int) (n : Int) (xa : Int) (xw : Int) (hI : zOK n A) (hn : 0 ≤ n ∧ n ≤ 3100000) (rxa : -2147483648 ≤ xa ∧ xa ≤ 2147483647) (rxw : -2147483648 ≤ xw ∧ xw ≤ 2147483647) (kno : (0 ≤ xa ∧ xa < A 52) ∧ ¬ (0 ≤ xw ∧ xw ≤ 3)) : vx_Met l yL_anchor wsL_anchor ({ frames := 8, cells := 1, slots := 6, locals := 126 }) (va_Pc [.ref ((o 0) 0), .int (zI xa), .int (zI xw), .ref ou] (zPreU D (zTy cs) ([((o 0) 0, .inr (5, [.ref ((o 1) 0), .ref ((o 2) 0), .ref ((o 3) 0), .ref ((o 8) 0)]))] ++ (zbat cs (o 1) A ++ [(ou, .inl (cs 2, 1, .inr (.inl (zAL gu))))])))) (zQk 2) zXN 1 6 (fun _ => False) := by
  refine vx_ofWH (cc := cL_anchor) (maxL := 5) (ret := (some .int)) (hh := [(0, 10, 13, 26), (0, 10, 17, 13)]) (by decide +kernel) rfl ?_
  intro p e s m args below meth c s₁ B hml hv
  obtain ⟨rfl, ⟨⟨hP, hK, hD0, hN⟩, hX⟩, hC⟩ := hv
  have hx := B.exec
  have hb := B.bytes
  have hr := B.returns
  have hts := atoms_spec (ws := wsL_anchor) B.pre
  have hown : s.vm.findClass RL = some m.cls := findClass_of_methodNamed B.named
  have hlocks := B.notSynchronized
  have hX : zXF s s.heap := hX
  have hS : va_S (fun _ => False) s.heap s.heap [] := va_S.rf
  have hD := hD0
  have hP : va_P D vwCl ([((o 0) 0, .inr (5, [.ref ((o 1) 0), .ref ((o 2) 0), .ref ((o 3) 0), .ref ((o 8) 0)]))] ++ (zbat cs (o 1) A ++ [(ou, .inl (cs 2, 1, .inr (.inl (zAL gu))))])) s.heap := hP
  have hl := lv_entry ([.ref ((o 0) 0), .int (zI xa), .int (zI xw), .ref ou]) (n := 5) (Nat.le_of_ble_eq_true rfl)
  rw [lg_entry_eq]
  generalize (lg_sl ([.ref ((o 0) 0), .int (zI xa), .int (zI xw), .ref ou]) ++ List.replicate (5 - (lg_sl ([.ref ((o 0) 0), .int (zI xa), .int (zI xw), .ref ou])).length) Slot.unset).toArray = ls at hl ⊢
  have hl : lv_has ls 5 [(0, .ref ((o 0) 0)), (1, .int (zI xa)), (2, .int (zI xw)), (3, .ref ou)] := hl
  refine lv_aload_n hx hb dL_anchor_0 rfl (lv_at hl 3 rfl) ?_
  refine zr_iconst hx hb dL_anchor_1 ?_
  refine lv_aload_n hx hb dL_anchor_2 rfl (lv_at hl 0 rfl) ?_
  refine lv_iload_n hx hb dL_anchor_3 rfl (lv_at hl 1 rfl) ?_
  refine lv_iload_n hx hb dL_anchor_4 rfl (lv_at hl 2 rfl) ?_
  refine vx_calli (vx_runV (As := [.int (zI xa), .int (zI xw)]) (rest := [.int (zI 0), .ref ou]) ⟨hx, hb, hml, hown, hts⟩ (met_X5_anchor_x2 l hfl D cs o A n xa xw hI hn rxa rxw kno) (cwV 2 hts gL_anchor_X5_anchor rfl rfl rfl (by decide +kernel) ⟨(Nat.le_of_ble_eq_true rfl), (Nat.le_of_ble_eq_true rfl)⟩) ⟨zPreX.blind, va_recv hK hP (ci := 5) (q0 := 0) rfl rfl, fun U hU hW => zp_X (hP.sub (ws' := [((o 0) 0, .inr (5, [.ref ((o 1) 0), .ref ((o 2) 0), .ref ((o 3) 0), .ref ((o 8) 0)]))] ++ zbat cs (o 1) A) [0, 1, 2, 3, 4, 5, 6, 7] rfl) hK (hD.sub (ws' := [((o 0) 0, .inr (5, [.ref ((o 1) 0), .ref ((o 2) 0), .ref ((o 3) 0), .ref ((o 8) 0)]))] ++ zbat cs (o 1) A) [0, 1, 2, 3, 4, 5, 6, 7] (by decide) rfl) hN hX hU hW⟩ rfl rfl hl.1 rfl (lv_room (Nat.le_of_ble_eq_true rfl)) dL_anchor_5 ⟨(Nat.le_of_ble_eq_true rfl), (Nat.le_of_ble_eq_true rfl)⟩) hS (fun _ _ h => h) (fun _ h => h) (fun _ _ h => h) ?_ (fun r u t H1 locs1 ht hvm hp9 _ _ _ _ => hp9.elim)
  intro E ce q9 u t H1 locs1 ht hvm hp9 hE hz hk hS1 hcell hv9 hcl
  have hE : E = "java/lang/IllegalArgumentException" := hE
  subst hE
  refine vx_catch (own := RL) (name := "java/lang/IllegalArgumentException") hown [{ startPc := 0, endPc := 10, handlerPc := 13, catchType := 26 }] { startPc := 0, endPc := 10, handlerPc := 17, catchType := 13 } [] ((vx_table (x := yL_anchor) B (hts _ List.mem_cons_self)).trans rfl) (fun z hz => by rw [List.mem_singleton.mp hz]; exact Or.inr ⟨by decide, "java/lang/IndexOutOfBoundsException", (hts (.classLink RL 26 "java/lang/IndexOutOfBoundsException") (by decide +kernel)), hC.1⟩) (by decide) (by decide) (hts (.classLink RL 13 "java/lang/IllegalArgumentException") (by decide +kernel)) (va_Nw.use rfl (hX.1.1 (.castable "java/lang/IllegalArgumentException" "java/lang/IllegalArgumentException") (by decide +kernel))) hcell hv9 hcl ?_
  refine lv_astore (lv' := [(4, .ref q9), (0, .ref ((o 0) 0)), (1, .int (zI xa)), (2, .int (zI xw)), (3, .ref ou)]) hx hb dL_anchor_17 hl (by decide) rfl (fun ls hl => ?_)
  refine zr_iconst hx hb dL_anchor_19 ?_
  refine vx_ret ?_
  exact W.iret hx hb hr (fun t ht hW => ⟨⟨_, (), rfl, rfl, trivial⟩, hS1.F ht⟩) hS1.2.2 dL_anchor_20
set_option maxHeartbeats 4000000 in
set_option maxRecDepth 100000 in
theorem met_L_boundAfter_ok (l : Launch) (D : va_G) (cs : Nat → ClassId) (o : Nat → Nat → Nat) (ou : Nat) (gu : Int → Int) (sz : Nat) (A : Int → Int) (n : Int) (xi : Int) (xt : Int) (xp : Prop) [Decidable xp] (hI : zOK n A) (hn : 0 ≤ n ∧ n ≤ 3100000) (rxi : -2147483648 ≤ xi ∧ xi ≤ 2147483647) (rxt : -2147483648 ≤ xt ∧ xt ≤ 2147483647) (kok : (-50000 ≤ xi ∧ xi ≤ 50000) ∧ 0 ≤ xt ∧ xt ≤ 1000000) : vx_Met l yL_boundAfter wsL_boundAfter ({ frames := 4, cells := 0, slots := 0, locals := 87 }) (va_Pc [.ref ((o 0) 0), .int (zI xi), .int (zI xt), .int (zI (zB (xp))), .ref ou] (zPreZ D (zTy cs) ([((o 0) 0, .inr (5, [.ref ((o 1) 0), .ref ((o 2) 0), .ref ((o 3) 0), .ref ((o 8) 0)]))] ++ (zbat cs (o 1) A ++ [(ou, .inl (cs 2, 1, .inr (.inl (zAL gu))))])) sz)) (zQi D ([((o 0) 0, .inr (5, [.ref ((o 1) 0), .ref ((o 2) 0), .ref ((o 3) 0), .ref ((o 8) 0)]))] ++ (zbat cs (o 1) A ++ [(ou, .inl (cs 2, 1, .inr (.inl (zAL gu))))])) sz (zI 0) ([((o 0) 0, .inr (5, [.ref ((o 1) 0), .ref ((o 2) 0), .ref ((o 3) 0), .ref ((o 8) 0)]))] ++ (zbat cs (o 1) A ++ [(ou, .inl (cs 2, 1, .inr (.inl (zAL (zU gu 0 (zBo A xi xt xp))))))]))) zXN 0 0 (va_A ([((o 0) 0, .inr (5, [.ref ((o 1) 0), .ref ((o 2) 0), .ref ((o 3) 0), .ref ((o 8) 0)]))] ++ (zbat cs (o 1) A ++ [(ou, .inl (cs 2, 1, .inr (.inl (zAL gu))))])) sz) := by
  refine vx_ofWH (cc := cL_boundAfter) (maxL := 6) (ret := (some .int)) (hh := [(0, 11, 14, 13)]) (by decide +kernel) rfl ?_
  intro p e s m args below meth c s₁ B hml hv
  obtain ⟨rfl, hsz, hP, hK, hD0, hN⟩ := hv
  have hx := B.exec
  have hb := B.bytes
  have hr := B.returns
  have hts := atoms_spec (ws := wsL_boundAfter) B.pre
  have hown : s.vm.findClass RL = some m.cls := findClass_of_methodNamed B.named
  have hlocks := B.notSynchronized
  subst hsz
  obtain ⟨A0, hAe⟩ : ∃ A0, A0 = va_A ([((o 0) 0, .inr (5, [.ref ((o 1) 0), .ref ((o 2) 0), .ref ((o 3) 0), .ref ((o 8) 0)]))] ++ (zbat cs (o 1) A ++ [(ou, .inl (cs 2, 1, .inr (.inl (zAL gu))))])) s.heap.size := ⟨_, rfl⟩
  have hD := hD0.self (sz := s.heap.size)
  rw [← hAe] at hD
  have hA : ∀ q : Nat, s.heap.size ≤ q → A0 q := fun q h => by rw [hAe]; exact Or.inr h
  have hS : va_S A0 s.heap s.heap [] := va_S.rf
  have hP : va_P D vwCl ([((o 0) 0, .inr (5, [.ref ((o 1) 0), .ref ((o 2) 0), .ref ((o 3) 0), .ref ((o 8) 0)]))] ++ (zbat cs (o 1) A ++ [(ou, .inl (cs 2, 1, .inr (.inl (zAL gu))))])) s.heap := hP
  have hl := lv_entry ([.ref ((o 0) 0), .int (zI xi), .int (zI xt), .int (zI (zB (xp))), .ref ou]) (n := 6) (Nat.le_of_ble_eq_true rfl)
  rw [lg_entry_eq]
  generalize (lg_sl ([.ref ((o 0) 0), .int (zI xi), .int (zI xt), .int (zI (zB (xp))), .ref ou]) ++ List.replicate (6 - (lg_sl ([.ref ((o 0) 0), .int (zI xi), .int (zI xt), .int (zI (zB (xp))), .ref ou])).length) Slot.unset).toArray = ls at hl ⊢
  have hl : lv_has ls 6 [(0, .ref ((o 0) 0)), (1, .int (zI xi)), (2, .int (zI xt)), (3, .int (zI (zB (xp)))), (4, .ref ou)] := hl
  refine lv_aload hx hb dL_boundAfter_0 (lv_at hl 4 rfl) ?_
  refine zr_iconst hx hb dL_boundAfter_2 ?_
  refine lv_aload_n hx hb dL_boundAfter_3 rfl (lv_at hl 0 rfl) ?_
  refine lv_iload_n hx hb dL_boundAfter_4 rfl (lv_at hl 1 rfl) ?_
  refine lv_iload_n hx hb dL_boundAfter_5 rfl (lv_at hl 2 rfl) ?_
  refine lv_iload_n hx hb dL_boundAfter_6 rfl (lv_at hl 3 rfl) ?_
  refine zc_rl (va_runV (As := [.int (zI xi), .int (zI xt), .int (zI (zB (xp)))]) (rest := [.int (zI 0), .ref ou]) ⟨hx, hb, hml, hown, hts⟩ (met_X5_boundAfter_ok l D cs o A n xi xt xp hI hn rxi rxt kok) (cwV 3 hts gL_boundAfter_X5_boundAfter rfl rfl rfl (by decide +kernel) ⟨(Nat.le_of_ble_eq_true rfl), (Nat.le_of_ble_eq_true rfl)⟩) ⟨zPre.blind, va_recv hK hP (ci := 5) (q0 := 0) rfl rfl, fun U hU hW => zp_R (hP.sub (ws' := [((o 0) 0, .inr (5, [.ref ((o 1) 0), .ref ((o 2) 0), .ref ((o 3) 0), .ref ((o 8) 0)]))] ++ zbat cs (o 1) A) [0, 1, 2, 3, 4, 5, 6, 7] rfl) hK (hD.sub (ws' := [((o 0) 0, .inr (5, [.ref ((o 1) 0), .ref ((o 2) 0), .ref ((o 3) 0), .ref ((o 8) 0)]))] ++ zbat cs (o 1) A) [0, 1, 2, 3, 4, 5, 6, 7] (by decide) rfl) hN hU hW⟩ rfl rfl hl.1 rfl (lv_room (Nat.le_of_ble_eq_true rfl)) dL_boundAfter_7 ⟨(Nat.le_of_ble_eq_true rfl), (Nat.le_of_ble_eq_true rfl)⟩) ?_
  refine zr_last (D := D) (g := gu) hx hb hK hP hD hS 8 2 rfl rfl (by decide) (by decide) dL_boundAfter_10 (fun H locs hP hD hS => ?_)
  have hP9 : va_P D vwCl ([((o 0) 0, .inr (5, [.ref ((o 1) 0), .ref ((o 2) 0), .ref ((o 3) 0), .ref ((o 8) 0)]))] ++ (zbat cs (o 1) A ++ [(ou, .inl (cs 2, 1, .inr (.inl (zAL (zU gu 0 (zBo A xi xt xp))))))])) H := hP
  have hD9 : va_D A0 ([((o 0) 0, .inr (5, [.ref ((o 1) 0), .ref ((o 2) 0), .ref ((o 3) 0), .ref ((o 8) 0)]))] ++ (zbat cs (o 1) A ++ [(ou, .inl (cs 2, 1, .inr (.inl (zAL (zU gu 0 (zBo A xi xt xp))))))])) := zD_addr hD rfl
  refine lv_goto (tgt := 18) hx hb dL_boundAfter_11 (by decide) ?_
  refine zr_iconst hx hb dL_boundAfter_18 ?_
  refine vx_ret ?_
  rw [hAe] at hD9 hS
  exact W.iret hx hb hr (fun t ht hW => ⟨⟨_, (), rfl, rfl, by rw [ht]; exact hP9, hD9⟩, hS.F ht⟩) hS.2.2 dL_boundAfter_19
set_option maxHeartbeats 4000000 in
set_option maxRecDepth 100000 in
theorem met_L_boundAfter_x (l : Launch) (hfl : l.stackTraces = false) (D : va_G) (cs : Nat → ClassId) (o : Nat → Nat → Nat) (ou : Nat) (gu : Int → Int) (A : Int → Int) (xi : Int) (xt : Int) (xp : Prop) [Decidable xp] (rxi : -2147483648 ≤ xi ∧ xi ≤ 2147483647) (rxt : -2147483648 ≤ xt ∧ xt ≤ 2147483647) (kno : ¬ ((-50000 ≤ xi ∧ xi ≤ 50000) ∧ 0 ≤ xt ∧ xt ≤ 1000000)) : vx_Met l yL_boundAfter wsL_boundAfter ({ frames := 8, cells := 1, slots := 6, locals := 127 }) (va_Pc [.ref ((o 0) 0), .int (zI xi), .int (zI xt), .int (zI (zB (xp))), .ref ou] (zPreU D (zTy cs) ([((o 0) 0, .inr (5, [.ref ((o 1) 0), .ref ((o 2) 0), .ref ((o 3) 0), .ref ((o 8) 0)]))] ++ (zbat cs (o 1) A ++ [(ou, .inl (cs 2, 1, .inr (.inl (zAL gu))))])))) (zQk 1) zXN 1 6 (fun _ => False) := by
  refine vx_ofWH (cc := cL_boundAfter) (maxL := 6) (ret := (some .int)) (hh := [(0, 11, 14, 13)]) (by decide +kernel) rfl ?_
  intro p e s m args below meth c s₁ B hml hv
  obtain ⟨rfl, ⟨⟨hP, hK, hD0, hN⟩, hX⟩, hC⟩ := hv
  have hx := B.exec
  have hb := B.bytes
  have hr := B.returns
  have hts := atoms_spec (ws := wsL_boundAfter) B.pre
  have hown : s.vm.findClass RL = some m.cls := findClass_of_methodNamed B.named
  have hlocks := B.notSynchronized
  have hX : zXF s s.heap := hX
  have hS : va_S (fun _ => False) s.heap s.heap [] := va_S.rf
  have hD := hD0
  have hP : va_P D vwCl ([((o 0) 0, .inr (5, [.ref ((o 1) 0), .ref ((o 2) 0), .ref ((o 3) 0), .ref ((o 8) 0)]))] ++ (zbat cs (o 1) A ++ [(ou, .inl (cs 2, 1, .inr (.inl (zAL gu))))])) s.heap := hP
  have hl := lv_entry ([.ref ((o 0) 0), .int (zI xi), .int (zI xt), .int (zI (zB (xp))), .ref ou]) (n := 6) (Nat.le_of_ble_eq_true rfl)
  rw [lg_entry_eq]
  generalize (lg_sl ([.ref ((o 0) 0), .int (zI xi), .int (zI xt), .int (zI (zB (xp))), .ref ou]) ++ List.replicate (6 - (lg_sl ([.ref ((o 0) 0), .int (zI xi), .int (zI xt), .int (zI (zB (xp))), .ref ou])).length) Slot.unset).toArray = ls at hl ⊢
  have hl : lv_has ls 6 [(0, .ref ((o 0) 0)), (1, .int (zI xi)), (2, .int (zI xt)), (3, .int (zI (zB (xp)))), (4, .ref ou)] := hl
  refine lv_aload hx hb dL_boundAfter_0 (lv_at hl 4 rfl) ?_
  refine zr_iconst hx hb dL_boundAfter_2 ?_
  refine lv_aload_n hx hb dL_boundAfter_3 rfl (lv_at hl 0 rfl) ?_
  refine lv_iload_n hx hb dL_boundAfter_4 rfl (lv_at hl 1 rfl) ?_
  refine lv_iload_n hx hb dL_boundAfter_5 rfl (lv_at hl 2 rfl) ?_
  refine lv_iload_n hx hb dL_boundAfter_6 rfl (lv_at hl 3 rfl) ?_
  refine vx_calll (vx_runV (As := [.int (zI xi), .int (zI xt), .int (zI (zB (xp)))]) (rest := [.int (zI 0), .ref ou]) ⟨hx, hb, hml, hown, hts⟩ (met_X5_boundAfter_x l hfl D cs o A xi xt xp rxi rxt kno) (cwV 3 hts gL_boundAfter_X5_boundAfter rfl rfl rfl (by decide +kernel) ⟨(Nat.le_of_ble_eq_true rfl), (Nat.le_of_ble_eq_true rfl)⟩) ⟨zPreX.blind, va_recv hK hP (ci := 5) (q0 := 0) rfl rfl, fun U hU hW => zp_X (hP.sub (ws' := [((o 0) 0, .inr (5, [.ref ((o 1) 0), .ref ((o 2) 0), .ref ((o 3) 0), .ref ((o 8) 0)]))] ++ zbat cs (o 1) A) [0, 1, 2, 3, 4, 5, 6, 7] rfl) hK (hD.sub (ws' := [((o 0) 0, .inr (5, [.ref ((o 1) 0), .ref ((o 2) 0), .ref ((o 3) 0), .ref ((o 8) 0)]))] ++ zbat cs (o 1) A) [0, 1, 2, 3, 4, 5, 6, 7] (by decide) rfl) hN hX hU hW⟩ rfl rfl hl.1 rfl (lv_room (Nat.le_of_ble_eq_true rfl)) dL_boundAfter_7 ⟨(Nat.le_of_ble_eq_true rfl), (Nat.le_of_ble_eq_true rfl)⟩) hS (fun _ _ h => h) (fun _ h => h) (fun _ _ h => h) ?_ (fun r u t H1 locs1 ht hvm hp9 _ _ _ _ => hp9.elim)
  intro E ce q9 u t H1 locs1 ht hvm hp9 hE hz hk hS1 hcell hv9 hcl
  have hE : E = "java/lang/IllegalArgumentException" := hE
  subst hE
  refine vx_catch (own := RL) (name := "java/lang/IllegalArgumentException") hown [] { startPc := 0, endPc := 11, handlerPc := 14, catchType := 13 } [] ((vx_table (x := yL_boundAfter) B (hts _ List.mem_cons_self)).trans rfl) (fun z hz => by cases hz) (by decide) (by decide) (hts (.classLink RL 13 "java/lang/IllegalArgumentException") (by decide +kernel)) (va_Nw.use rfl (hX.1.1 (.castable "java/lang/IllegalArgumentException" "java/lang/IllegalArgumentException") (by decide +kernel))) hcell hv9 hcl ?_
  refine lv_astore (lv' := [(5, .ref q9), (0, .ref ((o 0) 0)), (1, .int (zI xi)), (2, .int (zI xt)), (3, .int (zI (zB (xp)))), (4, .ref ou)]) hx hb dL_boundAfter_14 hl (by decide) rfl (fun ls hl => ?_)
  refine zr_iconst hx hb dL_boundAfter_16 ?_
  refine vx_ret ?_
  exact W.iret hx hb hr (fun t ht hW => ⟨⟨_, (), rfl, rfl, trivial⟩, hS1.F ht⟩) hS1.2.2 dL_boundAfter_17
set_option maxHeartbeats 4000000 in
set_option maxRecDepth 100000 in
theorem met_L_reaches_ok (l : Launch) (D : va_G) (cs : Nat → ClassId) (o : Nat → Nat → Nat) (ou : Nat) (gu : Int → Int) (sz : Nat) (A : Int → Int) (n : Int) (xi : Int) (hI : zOK n A) (hn : 0 ≤ n ∧ n ≤ 3100000) (rxi : -2147483648 ≤ xi ∧ xi ≤ 2147483647) (kok : (-50000 ≤ xi ∧ xi ≤ 50000) ∧ xi ≠ 0) : vx_Met l yL_reaches wsL_reaches ({ frames := 5, cells := 0, slots := 0, locals := 113 }) (va_Pc [.ref ((o 0) 0), .int (zI xi), .ref ou] (zPreZ D (zTy cs) ([((o 0) 0, .inr (5, [.ref ((o 1) 0), .ref ((o 2) 0), .ref ((o 3) 0), .ref ((o 8) 0)]))] ++ (zbat cs (o 1) A ++ [(ou, .inl (cs 2, 1, .inr (.inl (zAL gu))))])) sz)) (zQi D ([((o 0) 0, .inr (5, [.ref ((o 1) 0), .ref ((o 2) 0), .ref ((o 3) 0), .ref ((o 8) 0)]))] ++ (zbat cs (o 1) A ++ [(ou, .inl (cs 2, 1, .inr (.inl (zAL gu))))])) sz (zI 0) ([((o 0) 0, .inr (5, [.ref ((o 1) 0), .ref ((o 2) 0), .ref ((o 3) 0), .ref ((o 8) 0)]))] ++ (zbat cs (o 1) A ++ [(ou, .inl (cs 2, 1, .inr (.inl (zAL (zU gu 0 (zW (zRe A xi)))))))]))) zXN 0 0 (va_A ([((o 0) 0, .inr (5, [.ref ((o 1) 0), .ref ((o 2) 0), .ref ((o 3) 0), .ref ((o 8) 0)]))] ++ (zbat cs (o 1) A ++ [(ou, .inl (cs 2, 1, .inr (.inl (zAL gu))))])) sz) := by
  refine vx_ofWH (cc := cL_reaches) (maxL := 4) (ret := (some .int)) (hh := [(0, 9, 12, 13)]) (by decide +kernel) rfl ?_
  intro p e s m args below meth c s₁ B hml hv
  obtain ⟨rfl, hsz, hP, hK, hD0, hN⟩ := hv
  have hx := B.exec
  have hb := B.bytes
  have hr := B.returns
  have hts := atoms_spec (ws := wsL_reaches) B.pre
  have hown : s.vm.findClass RL = some m.cls := findClass_of_methodNamed B.named
  have hlocks := B.notSynchronized
  subst hsz
  obtain ⟨A0, hAe⟩ : ∃ A0, A0 = va_A ([((o 0) 0, .inr (5, [.ref ((o 1) 0), .ref ((o 2) 0), .ref ((o 3) 0), .ref ((o 8) 0)]))] ++ (zbat cs (o 1) A ++ [(ou, .inl (cs 2, 1, .inr (.inl (zAL gu))))])) s.heap.size := ⟨_, rfl⟩
  have hD := hD0.self (sz := s.heap.size)
  rw [← hAe] at hD
  have hA : ∀ q : Nat, s.heap.size ≤ q → A0 q := fun q h => by rw [hAe]; exact Or.inr h
  have hS : va_S A0 s.heap s.heap [] := va_S.rf
  have hP : va_P D vwCl ([((o 0) 0, .inr (5, [.ref ((o 1) 0), .ref ((o 2) 0), .ref ((o 3) 0), .ref ((o 8) 0)]))] ++ (zbat cs (o 1) A ++ [(ou, .inl (cs 2, 1, .inr (.inl (zAL gu))))])) s.heap := hP
  have hl := lv_entry ([.ref ((o 0) 0), .int (zI xi), .ref ou]) (n := 4) (Nat.le_of_ble_eq_true rfl)
  rw [lg_entry_eq]
  generalize (lg_sl ([.ref ((o 0) 0), .int (zI xi), .ref ou]) ++ List.replicate (4 - (lg_sl ([.ref ((o 0) 0), .int (zI xi), .ref ou])).length) Slot.unset).toArray = ls at hl ⊢
  have hl : lv_has ls 4 [(0, .ref ((o 0) 0)), (1, .int (zI xi)), (2, .ref ou)] := hl
  refine lv_aload_n hx hb dL_reaches_0 rfl (lv_at hl 2 rfl) ?_
  refine zr_iconst hx hb dL_reaches_1 ?_
  refine lv_aload_n hx hb dL_reaches_2 rfl (lv_at hl 0 rfl) ?_
  refine lv_iload_n hx hb dL_reaches_3 rfl (lv_at hl 1 rfl) ?_
  refine zc_ri (va_runV (As := [.int (zI xi)]) (rest := [.int (zI 0), .ref ou]) ⟨hx, hb, hml, hown, hts⟩ (met_X5_reaches_ok l D cs o A n xi hI hn rxi kok) (cwV 1 hts gL_reaches_X5_reaches rfl rfl rfl (by decide +kernel) ⟨(Nat.le_of_ble_eq_true rfl), (Nat.le_of_ble_eq_true rfl)⟩) ⟨zPre.blind, va_recv hK hP (ci := 5) (q0 := 0) rfl rfl, fun U hU hW => zp_R (hP.sub (ws' := [((o 0) 0, .inr (5, [.ref ((o 1) 0), .ref ((o 2) 0), .ref ((o 3) 0), .ref ((o 8) 0)]))] ++ zbat cs (o 1) A) [0, 1, 2, 3, 4, 5, 6, 7] rfl) hK (hD.sub (ws' := [((o 0) 0, .inr (5, [.ref ((o 1) 0), .ref ((o 2) 0), .ref ((o 3) 0), .ref ((o 8) 0)]))] ++ zbat cs (o 1) A) [0, 1, 2, 3, 4, 5, 6, 7] (by decide) rfl) hN hU hW⟩ rfl rfl hl.1 rfl (lv_room (Nat.le_of_ble_eq_true rfl)) dL_reaches_4 ⟨(Nat.le_of_ble_eq_true rfl), (Nat.le_of_ble_eq_true rfl)⟩) ?_
  refine lv_i2l hx hb dL_reaches_7 (zW_l (zRe A xi)) ?_
  refine zr_last (D := D) (g := gu) hx hb hK hP hD hS 8 2 rfl rfl (by decide) (by decide) dL_reaches_8 (fun H locs hP hD hS => ?_)
  have hP9 : va_P D vwCl ([((o 0) 0, .inr (5, [.ref ((o 1) 0), .ref ((o 2) 0), .ref ((o 3) 0), .ref ((o 8) 0)]))] ++ (zbat cs (o 1) A ++ [(ou, .inl (cs 2, 1, .inr (.inl (zAL (zU gu 0 (zW (zRe A xi)))))))])) H := hP
  have hD9 : va_D A0 ([((o 0) 0, .inr (5, [.ref ((o 1) 0), .ref ((o 2) 0), .ref ((o 3) 0), .ref ((o 8) 0)]))] ++ (zbat cs (o 1) A ++ [(ou, .inl (cs 2, 1, .inr (.inl (zAL (zU gu 0 (zW (zRe A xi)))))))])) := zD_addr hD rfl
  refine lv_goto (tgt := 15) hx hb dL_reaches_9 (by decide) ?_
  refine zr_iconst hx hb dL_reaches_15 ?_
  refine vx_ret ?_
  rw [hAe] at hD9 hS
  exact W.iret hx hb hr (fun t ht hW => ⟨⟨_, (), rfl, rfl, by rw [ht]; exact hP9, hD9⟩, hS.F ht⟩) hS.2.2 dL_reaches_16
