/-! the law: its wrappers -/
set_option maxHeartbeats 4000000 in
set_option maxRecDepth 100000 in
theorem met_L_reaches_x (l : Launch) (hfl : l.stackTraces = false) (D : va_G) (cs : Nat → ClassId) (o : Nat → Nat → Nat) (ou : Nat) (gu : Int → Int) (A : Int → Int) (xi : Int) (rxi : -2147483648 ≤ xi ∧ xi ≤ 2147483647) (kno : ¬ ((-50000 ≤ xi ∧ xi ≤ 50000) ∧ xi ≠ 0)) : vx_Met l yL_reaches wsL_reaches ({ frames := 8, cells := 1, slots := 6, locals := 126 }) (va_Pc [.ref ((o 0) 0), .int (zI xi), .ref ou] (zPreU D (zTy cs) ([((o 0) 0, .inr (5, [.ref ((o 1) 0), .ref ((o 2) 0), .ref ((o 3) 0), .ref ((o 8) 0)]))] ++ (zbat cs (o 1) A ++ [(ou, .inl (cs 2, 1, .inr (.inl (zAL gu))))])))) (zQk 1) zXN 1 6 (fun _ => False) := by
  refine vx_ofWH (cc := cL_reaches) (maxL := 4) (ret := (some .int)) (hh := [(0, 9, 12, 13)]) (by decide +kernel) rfl ?_
  intro p e s m args below meth c s₁ B hml hv
  obtain ⟨rfl, ⟨⟨hP, hK, hD0, hN⟩, hX⟩, hC⟩ := hv
  have hx := B.exec
  have hb := B.bytes
  have hr := B.returns
  have hts := atoms_spec (ws := wsL_reaches) B.pre
  have hown : s.vm.findClass RL = some m.cls := findClass_of_methodNamed B.named
  have hlocks := B.notSynchronized
  have hX : zXF s s.heap := hX
  have hS : va_S (fun _ => False) s.heap s.heap [] := va_S.rf
  have hD := hD0
  have hP : va_P D vwCl ([((o 0) 0, .inr (5, [.ref ((o 1) 0), .ref ((o 2) 0), .ref ((o 3) 0), .ref ((o 8) 0)]))] ++ (zbat cs (o 1) A ++ [(ou, .inl (cs 2, 1, .inr (.inl (zAL gu))))])) s.heap := hP
  have hl := lv_entry ([.ref ((o 0) 0), .int (zI xi), .ref ou]) (n := 4) (Nat.le_of_ble_eq_true rfl)
  rw [lg_entry_eq]
  generalize (lg_sl ([.ref ((o 0) 0), .int (zI xi), .ref ou]) ++ List.replicate (4 - (lg_sl ([.ref ((o 0) 0), .int (zI xi), .ref ou])).length) Slot.unset).toArray = ls at hl ⊢
  have hl : lv_has ls 4 [(0, .ref ((o 0) 0)), (1, .int (zI xi)), (2, .ref ou)] := hl
  refine lv_aload_n hx hb dL_reaches_0 rfl (lv_at hl 2 rfl) ?_
  refine zr_iconst hx hb dL_reaches_1 ?_
  refine lv_aload_n hx hb dL_reaches_2 rfl (lv_at hl 0 rfl) ?_
  refine lv_iload_n hx hb dL_reaches_3 rfl (lv_at hl 1 rfl) ?_
  refine vx_calli (vx_runV (As := [.int (zI xi)]) (rest := [.int (zI 0), .ref ou]) ⟨hx, hb, hml, hown, hts⟩ (met_X5_reaches_x l hfl D cs o A xi rxi kno) (cwV 1 hts gL_reaches_X5_reaches rfl rfl rfl (by decide +kernel) ⟨(Nat.le_of_ble_eq_true rfl), (Nat.le_of_ble_eq_true rfl)⟩) ⟨zPreX.blind, va_recv hK hP (ci := 5) (q0 := 0) rfl rfl, fun U hU hW => zp_X (hP.sub (ws' := [((o 0) 0, .inr (5, [.ref ((o 1) 0), .ref ((o 2) 0), .ref ((o 3) 0), .ref ((o 8) 0)]))] ++ zbat cs (o 1) A) [0, 1, 2, 3, 4, 5, 6, 7] rfl) hK (hD.sub (ws' := [((o 0) 0, .inr (5, [.ref ((o 1) 0), .ref ((o 2) 0), .ref ((o 3) 0), .ref ((o 8) 0)]))] ++ zbat cs (o 1) A) [0, 1, 2, 3, 4, 5, 6, 7] (by decide) rfl) hN hX hU hW⟩ rfl rfl hl.1 rfl (lv_room (Nat.le_of_ble_eq_true rfl)) dL_reaches_4 ⟨(Nat.le_of_ble_eq_true rfl), (Nat.le_of_ble_eq_true rfl)⟩) hS (fun _ _ h => h) (fun _ h => h) (fun _ _ h => h) ?_ (fun r u t H1 locs1 ht hvm hp9 _ _ _ _ => hp9.elim)
  intro E ce q9 u t H1 locs1 ht hvm hp9 hE hz hk hS1 hcell hv9 hcl
  have hE : E = "java/lang/IllegalArgumentException" := hE
  subst hE
  refine vx_catch (own := RL) (name := "java/lang/IllegalArgumentException") hown [] { startPc := 0, endPc := 9, handlerPc := 12, catchType := 13 } [] ((vx_table (x := yL_reaches) B (hts _ List.mem_cons_self)).trans rfl) (fun z hz => by cases hz) (by decide) (by decide) (hts (.classLink RL 13 "java/lang/IllegalArgumentException") (by decide +kernel)) (va_Nw.use rfl (hX.1.1 (.castable "java/lang/IllegalArgumentException" "java/lang/IllegalArgumentException") (by decide +kernel))) hcell hv9 hcl ?_
  refine lv_astore_n (lv' := [(3, .ref q9), (0, .ref ((o 0) 0)), (1, .int (zI xi)), (2, .ref ou)]) hx hb dL_reaches_12 rfl hl (by decide) rfl (fun ls hl => ?_)
  refine zr_iconst hx hb dL_reaches_13 ?_
  refine vx_ret ?_
  exact W.iret hx hb hr (fun t ht hW => ⟨⟨_, (), rfl, rfl, trivial⟩, hS1.F ht⟩) hS1.2.2 dL_reaches_14
set_option maxHeartbeats 4000000 in
set_option maxRecDepth 100000 in
theorem met_L_lasts_ok (l : Launch) (D : va_G) (cs : Nat → ClassId) (o : Nat → Nat → Nat) (ou : Nat) (gu : Int → Int) (sz : Nat) (A : Int → Int) (n : Int) (xi : Int) (xr : Int) (hI : zOK n A) (hn : 0 ≤ n ∧ n ≤ 3100000) (rxi : -2147483648 ≤ xi ∧ xi ≤ 2147483647) (rxr : -2147483648 ≤ xr ∧ xr ≤ 2147483647) (kok : (-50000 ≤ xi ∧ xi ≤ -1) ∧ 0 ≤ xr ∧ xr ≤ 10000) : vx_Met l yL_lasts wsL_lasts ({ frames := 5, cells := 0, slots := 0, locals := 115 }) (va_Pc [.ref ((o 0) 0), .int (zI xi), .int (zI xr), .ref ou] (zPreZ D (zTy cs) ([((o 0) 0, .inr (5, [.ref ((o 1) 0), .ref ((o 2) 0), .ref ((o 3) 0), .ref ((o 8) 0)]))] ++ (zbat cs (o 1) A ++ [(ou, .inl (cs 2, 1, .inr (.inl (zAL gu))))])) sz)) (zQi D ([((o 0) 0, .inr (5, [.ref ((o 1) 0), .ref ((o 2) 0), .ref ((o 3) 0), .ref ((o 8) 0)]))] ++ (zbat cs (o 1) A ++ [(ou, .inl (cs 2, 1, .inr (.inl (zAL gu))))])) sz (zI 0) ([((o 0) 0, .inr (5, [.ref ((o 1) 0), .ref ((o 2) 0), .ref ((o 3) 0), .ref ((o 8) 0)]))] ++ (zbat cs (o 1) A ++ [(ou, .inl (cs 2, 1, .inr (.inl (zAL (zU gu 0 (zW (zLa A xi xr)))))))]))) zXN 0 0 (va_A ([((o 0) 0, .inr (5, [.ref ((o 1) 0), .ref ((o 2) 0), .ref ((o 3) 0), .ref ((o 8) 0)]))] ++ (zbat cs (o 1) A ++ [(ou, .inl (cs 2, 1, .inr (.inl (zAL gu))))])) sz) := by
  refine vx_ofWH (cc := cL_lasts) (maxL := 5) (ret := (some .int)) (hh := [(0, 10, 13, 13)]) (by decide +kernel) rfl ?_
  intro p e s m args below meth c s₁ B hml hv
  obtain ⟨rfl, hsz, hP, hK, hD0, hN⟩ := hv
  have hx := B.exec
  have hb := B.bytes
  have hr := B.returns
  have hts := atoms_spec (ws := wsL_lasts) B.pre
  have hown : s.vm.findClass RL = some m.cls := findClass_of_methodNamed B.named
  have hlocks := B.notSynchronized
  subst hsz
  obtain ⟨A0, hAe⟩ : ∃ A0, A0 = va_A ([((o 0) 0, .inr (5, [.ref ((o 1) 0), .ref ((o 2) 0), .ref ((o 3) 0), .ref ((o 8) 0)]))] ++ (zbat cs (o 1) A ++ [(ou, .inl (cs 2, 1, .inr (.inl (zAL gu))))])) s.heap.size := ⟨_, rfl⟩
  have hD := hD0.self (sz := s.heap.size)
  rw [← hAe] at hD
  have hA : ∀ q : Nat, s.heap.size ≤ q → A0 q := fun q h => by rw [hAe]; exact Or.inr h
  have hS : va_S A0 s.heap s.heap [] := va_S.rf
  have hP : va_P D vwCl ([((o 0) 0, .inr (5, [.ref ((o 1) 0), .ref ((o 2) 0), .ref ((o 3) 0), .ref ((o 8) 0)]))] ++ (zbat cs (o 1) A ++ [(ou, .inl (cs 2, 1, .inr (.inl (zAL gu))))])) s.heap := hP
  have hl := lv_entry ([.ref ((o 0) 0), .int (zI xi), .int (zI xr), .ref ou]) (n := 5) (Nat.le_of_ble_eq_true rfl)
  rw [lg_entry_eq]
  generalize (lg_sl ([.ref ((o 0) 0), .int (zI xi), .int (zI xr), .ref ou]) ++ List.replicate (5 - (lg_sl ([.ref ((o 0) 0), .int (zI xi), .int (zI xr), .ref ou])).length) Slot.unset).toArray = ls at hl ⊢
  have hl : lv_has ls 5 [(0, .ref ((o 0) 0)), (1, .int (zI xi)), (2, .int (zI xr)), (3, .ref ou)] := hl
  refine lv_aload_n hx hb dL_lasts_0 rfl (lv_at hl 3 rfl) ?_
  refine zr_iconst hx hb dL_lasts_1 ?_
  refine lv_aload_n hx hb dL_lasts_2 rfl (lv_at hl 0 rfl) ?_
  refine lv_iload_n hx hb dL_lasts_3 rfl (lv_at hl 1 rfl) ?_
  refine lv_iload_n hx hb dL_lasts_4 rfl (lv_at hl 2 rfl) ?_
  refine zc_ri (va_runV (As := [.int (zI xi), .int (zI xr)]) (rest := [.int (zI 0), .ref ou]) ⟨hx, hb, hml, hown, hts⟩ (met_X5_lasts_ok l D cs o A n xi xr hI hn rxi rxr kok) (cwV 2 hts gL_lasts_X5_lasts rfl rfl rfl (by decide +kernel) ⟨(Nat.le_of_ble_eq_true rfl), (Nat.le_of_ble_eq_true rfl)⟩) ⟨zPre.blind, va_recv hK hP (ci := 5) (q0 := 0) rfl rfl, fun U hU hW => zp_R (hP.sub (ws' := [((o 0) 0, .inr (5, [.ref ((o 1) 0), .ref ((o 2) 0), .ref ((o 3) 0), .ref ((o 8) 0)]))] ++ zbat cs (o 1) A) [0, 1, 2, 3, 4, 5, 6, 7] rfl) hK (hD.sub (ws' := [((o 0) 0, .inr (5, [.ref ((o 1) 0), .ref ((o 2) 0), .ref ((o 3) 0), .ref ((o 8) 0)]))] ++ zbat cs (o 1) A) [0, 1, 2, 3, 4, 5, 6, 7] (by decide) rfl) hN hU hW⟩ rfl rfl hl.1 rfl (lv_room (Nat.le_of_ble_eq_true rfl)) dL_lasts_5 ⟨(Nat.le_of_ble_eq_true rfl), (Nat.le_of_ble_eq_true rfl)⟩) ?_
  refine lv_i2l hx hb dL_lasts_8 (zW_l (zLa A xi xr)) ?_
  refine zr_last (D := D) (g := gu) hx hb hK hP hD hS 8 2 rfl rfl (by decide) (by decide) dL_lasts_9 (fun H locs hP hD hS => ?_)
  have hP9 : va_P D vwCl ([((o 0) 0, .inr (5, [.ref ((o 1) 0), .ref ((o 2) 0), .ref ((o 3) 0), .ref ((o 8) 0)]))] ++ (zbat cs (o 1) A ++ [(ou, .inl (cs 2, 1, .inr (.inl (zAL (zU gu 0 (zW (zLa A xi xr)))))))])) H := hP
  have hD9 : va_D A0 ([((o 0) 0, .inr (5, [.ref ((o 1) 0), .ref ((o 2) 0), .ref ((o 3) 0), .ref ((o 8) 0)]))] ++ (zbat cs (o 1) A ++ [(ou, .inl (cs 2, 1, .inr (.inl (zAL (zU gu 0 (zW (zLa A xi xr)))))))])) := zD_addr hD rfl
  refine lv_goto (tgt := 17) hx hb dL_lasts_10 (by decide) ?_
  refine zr_iconst hx hb dL_lasts_17 ?_
  refine vx_ret ?_
  rw [hAe] at hD9 hS
  exact W.iret hx hb hr (fun t ht hW => ⟨⟨_, (), rfl, rfl, by rw [ht]; exact hP9, hD9⟩, hS.F ht⟩) hS.2.2 dL_lasts_18
set_option maxHeartbeats 4000000 in
set_option maxRecDepth 100000 in
theorem met_L_lasts_x (l : Launch) (hfl : l.stackTraces = false) (D : va_G) (cs : Nat → ClassId) (o : Nat → Nat → Nat) (ou : Nat) (gu : Int → Int) (A : Int → Int) (xi : Int) (xr : Int) (rxi : -2147483648 ≤ xi ∧ xi ≤ 2147483647) (rxr : -2147483648 ≤ xr ∧ xr ≤ 2147483647) (kno : ¬ ((-50000 ≤ xi ∧ xi ≤ -1) ∧ 0 ≤ xr ∧ xr ≤ 10000)) : vx_Met l yL_lasts wsL_lasts ({ frames := 8, cells := 1, slots := 6, locals := 128 }) (va_Pc [.ref ((o 0) 0), .int (zI xi), .int (zI xr), .ref ou] (zPreU D (zTy cs) ([((o 0) 0, .inr (5, [.ref ((o 1) 0), .ref ((o 2) 0), .ref ((o 3) 0), .ref ((o 8) 0)]))] ++ (zbat cs (o 1) A ++ [(ou, .inl (cs 2, 1, .inr (.inl (zAL gu))))])))) (zQk 1) zXN 1 6 (fun _ => False) := by
  refine vx_ofWH (cc := cL_lasts) (maxL := 5) (ret := (some .int)) (hh := [(0, 10, 13, 13)]) (by decide +kernel) rfl ?_
  intro p e s m args below meth c s₁ B hml hv
  obtain ⟨rfl, ⟨⟨hP, hK, hD0, hN⟩, hX⟩, hC⟩ := hv
  have hx := B.exec
  have hb := B.bytes
  have hr := B.returns
  have hts := atoms_spec (ws := wsL_lasts) B.pre
  have hown : s.vm.findClass RL = some m.cls := findClass_of_methodNamed B.named
  have hlocks := B.notSynchronized
  have hX : zXF s s.heap := hX
  have hS : va_S (fun _ => False) s.heap s.heap [] := va_S.rf
  have hD := hD0
  have hP : va_P D vwCl ([((o 0) 0, .inr (5, [.ref ((o 1) 0), .ref ((o 2) 0), .ref ((o 3) 0), .ref ((o 8) 0)]))] ++ (zbat cs (o 1) A ++ [(ou, .inl (cs 2, 1, .inr (.inl (zAL gu))))])) s.heap := hP
  have hl := lv_entry ([.ref ((o 0) 0), .int (zI xi), .int (zI xr), .ref ou]) (n := 5) (Nat.le_of_ble_eq_true rfl)
  rw [lg_entry_eq]
  generalize (lg_sl ([.ref ((o 0) 0), .int (zI xi), .int (zI xr), .ref ou]) ++ List.replicate (5 - (lg_sl ([.ref ((o 0) 0), .int (zI xi), .int (zI xr), .ref ou])).length) Slot.unset).toArray = ls at hl ⊢
  have hl : lv_has ls 5 [(0, .ref ((o 0) 0)), (1, .int (zI xi)), (2, .int (zI xr)), (3, .ref ou)] := hl
  refine lv_aload_n hx hb dL_lasts_0 rfl (lv_at hl 3 rfl) ?_
  refine zr_iconst hx hb dL_lasts_1 ?_
  refine lv_aload_n hx hb dL_lasts_2 rfl (lv_at hl 0 rfl) ?_
  refine lv_iload_n hx hb dL_lasts_3 rfl (lv_at hl 1 rfl) ?_
  refine lv_iload_n hx hb dL_lasts_4 rfl (lv_at hl 2 rfl) ?_
  refine vx_calli (vx_runV (As := [.int (zI xi), .int (zI xr)]) (rest := [.int (zI 0), .ref ou]) ⟨hx, hb, hml, hown, hts⟩ (met_X5_lasts_x l hfl D cs o A xi xr rxi rxr kno) (cwV 2 hts gL_lasts_X5_lasts rfl rfl rfl (by decide +kernel) ⟨(Nat.le_of_ble_eq_true rfl), (Nat.le_of_ble_eq_true rfl)⟩) ⟨zPreX.blind, va_recv hK hP (ci := 5) (q0 := 0) rfl rfl, fun U hU hW => zp_X (hP.sub (ws' := [((o 0) 0, .inr (5, [.ref ((o 1) 0), .ref ((o 2) 0), .ref ((o 3) 0), .ref ((o 8) 0)]))] ++ zbat cs (o 1) A) [0, 1, 2, 3, 4, 5, 6, 7] rfl) hK (hD.sub (ws' := [((o 0) 0, .inr (5, [.ref ((o 1) 0), .ref ((o 2) 0), .ref ((o 3) 0), .ref ((o 8) 0)]))] ++ zbat cs (o 1) A) [0, 1, 2, 3, 4, 5, 6, 7] (by decide) rfl) hN hX hU hW⟩ rfl rfl hl.1 rfl (lv_room (Nat.le_of_ble_eq_true rfl)) dL_lasts_5 ⟨(Nat.le_of_ble_eq_true rfl), (Nat.le_of_ble_eq_true rfl)⟩) hS (fun _ _ h => h) (fun _ h => h) (fun _ _ h => h) ?_ (fun r u t H1 locs1 ht hvm hp9 _ _ _ _ => hp9.elim)
  intro E ce q9 u t H1 locs1 ht hvm hp9 hE hz hk hS1 hcell hv9 hcl
  have hE : E = "java/lang/IllegalArgumentException" := hE
  subst hE
  refine vx_catch (own := RL) (name := "java/lang/IllegalArgumentException") hown [] { startPc := 0, endPc := 10, handlerPc := 13, catchType := 13 } [] ((vx_table (x := yL_lasts) B (hts _ List.mem_cons_self)).trans rfl) (fun z hz => by cases hz) (by decide) (by decide) (hts (.classLink RL 13 "java/lang/IllegalArgumentException") (by decide +kernel)) (va_Nw.use rfl (hX.1.1 (.castable "java/lang/IllegalArgumentException" "java/lang/IllegalArgumentException") (by decide +kernel))) hcell hv9 hcl ?_
  refine lv_astore (lv' := [(4, .ref q9), (0, .ref ((o 0) 0)), (1, .int (zI xi)), (2, .int (zI xr)), (3, .ref ou)]) hx hb dL_lasts_13 hl (by decide) rfl (fun ls hl => ?_)
  refine zr_iconst hx hb dL_lasts_15 ?_
  refine vx_ret ?_
  exact W.iret hx hb hr (fun t ht hW => ⟨⟨_, (), rfl, rfl, trivial⟩, hS1.F ht⟩) hS1.2.2 dL_lasts_16
set_option maxHeartbeats 4000000 in
set_option maxRecDepth 100000 in
theorem met_L_wouldAnchor_ok (l : Launch) (D : va_G) (cs : Nat → ClassId) (o : Nat → Nat → Nat) (ou : Nat) (gu : Int → Int) (sz : Nat) (A T : Int → Int) (n : Int) (xi : Int) (xt : Int) (xr : Int) (xn : Int) (hI : zOK n A) (hn : 0 ≤ n ∧ n ≤ 3100000) (kn6 : n ≤ 3090000) (rxi : -2147483648 ≤ xi ∧ xi ≤ 2147483647) (rxt : -2147483648 ≤ xt ∧ xt ≤ 2147483647) (rxr : -2147483648 ≤ xr ∧ xr ≤ 2147483647) (rxn : -2147483648 ≤ xn ∧ xn ≤ 2147483647) (kok : ((-50000 ≤ xi ∧ xi ≤ 50000) ∧ (0 ≤ (0 : Int) ∧ (0 : Int) ≤ 6000) ∧ 1 ≤ xt ∧ xt ≤ 600) ∧ (0 ≤ xr ∧ xr ≤ 1000) ∧ 0 ≤ xn ∧ xn ≤ 500) : vx_Met l yL_wouldAnchor wsL_wouldAnchor ({ frames := 6, cells := 0, slots := 0, locals := 149 }) (va_Pc [.ref ((o 0) 0), .int (zI xi), .int (zI xt), .int (zI xr), .int (zI xn), .ref ou] (zPreZ D (zTy cs) ([((o 0) 0, .inr (5, [.ref ((o 1) 0), .ref ((o 2) 0), .ref ((o 3) 0), .ref ((o 8) 0)]))] ++ (zbat cs (o 1) A ++ (zbat cs (o 2) T ++ [(ou, .inl (cs 2, 1, .inr (.inl (zAL gu))))]))) sz)) (zQi D ([((o 0) 0, .inr (5, [.ref ((o 1) 0), .ref ((o 2) 0), .ref ((o 3) 0), .ref ((o 8) 0)]))] ++ (zbat cs (o 1) A ++ (zbat cs (o 2) T ++ [(ou, .inl (cs 2, 1, .inr (.inl (zAL gu))))]))) sz (zI 0) ([((o 0) 0, .inr (5, [.ref ((o 1) 0), .ref ((o 2) 0), .ref ((o 3) 0), .ref ((o 8) 0)]))] ++ (zbat cs (o 1) A ++ (zbat cs (o 2) (zMp A xi xt xr xn.toNat) ++ [(ou, .inl (cs 2, 1, .inr (.inl (zAL (zU gu 0 (zW (zMb A xi xt xr xn.toNat)))))))])))) zXN 0 0 (va_A ([((o 0) 0, .inr (5, [.ref ((o 1) 0), .ref ((o 2) 0), .ref ((o 3) 0), .ref ((o 8) 0)]))] ++ (zbat cs (o 1) A ++ (zbat cs (o 2) T ++ [(ou, .inl (cs 2, 1, .inr (.inl (zAL gu))))]))) sz) := by
  refine vx_ofWH (cc := cL_wouldAnchor) (maxL := 7) (ret := (some .int)) (hh := [(0, 14, 17, 13)]) (by decide +kernel) rfl ?_
  intro p e s m args below meth c s₁ B hml hv
  obtain ⟨rfl, hsz, hP, hK, hD0, hN⟩ := hv
  have hx := B.exec
  have hb := B.bytes
  have hr := B.returns
  have hts := atoms_spec (ws := wsL_wouldAnchor) B.pre
  have hown : s.vm.findClass RL = some m.cls := findClass_of_methodNamed B.named
  have hlocks := B.notSynchronized
  subst hsz
  obtain ⟨A0, hAe⟩ : ∃ A0, A0 = va_A ([((o 0) 0, .inr (5, [.ref ((o 1) 0), .ref ((o 2) 0), .ref ((o 3) 0), .ref ((o 8) 0)]))] ++ (zbat cs (o 1) A ++ (zbat cs (o 2) T ++ [(ou, .inl (cs 2, 1, .inr (.inl (zAL gu))))]))) s.heap.size := ⟨_, rfl⟩
  have hD := hD0.self (sz := s.heap.size)
  rw [← hAe] at hD
  have hA : ∀ q : Nat, s.heap.size ≤ q → A0 q := fun q h => by rw [hAe]; exact Or.inr h
  have hS : va_S A0 s.heap s.heap [] := va_S.rf
  have hP : va_P D vwCl ([((o 0) 0, .inr (5, [.ref ((o 1) 0), .ref ((o 2) 0), .ref ((o 3) 0), .ref ((o 8) 0)]))] ++ (zbat cs (o 1) A ++ (zbat cs (o 2) T ++ [(ou, .inl (cs 2, 1, .inr (.inl (zAL gu))))]))) s.heap := hP
  have hl := lv_entry ([.ref ((o 0) 0), .int (zI xi), .int (zI xt), .int (zI xr), .int (zI xn), .ref ou]) (n := 7) (Nat.le_of_ble_eq_true rfl)
  rw [lg_entry_eq]
  generalize (lg_sl ([.ref ((o 0) 0), .int (zI xi), .int (zI xt), .int (zI xr), .int (zI xn), .ref ou]) ++ List.replicate (7 - (lg_sl ([.ref ((o 0) 0), .int (zI xi), .int (zI xt), .int (zI xr), .int (zI xn), .ref ou])).length) Slot.unset).toArray = ls at hl ⊢
  have hl : lv_has ls 7 [(0, .ref ((o 0) 0)), (1, .int (zI xi)), (2, .int (zI xt)), (3, .int (zI xr)), (4, .int (zI xn)), (5, .ref ou)] := hl
  refine lv_aload hx hb dL_wouldAnchor_0 (lv_at hl 5 rfl) ?_
  refine zr_iconst hx hb dL_wouldAnchor_2 ?_
  refine lv_aload_n hx hb dL_wouldAnchor_3 rfl (lv_at hl 0 rfl) ?_
  refine lv_iload_n hx hb dL_wouldAnchor_4 rfl (lv_at hl 1 rfl) ?_
  refine lv_iload_n hx hb dL_wouldAnchor_5 rfl (lv_at hl 2 rfl) ?_
  refine lv_iload_n hx hb dL_wouldAnchor_6 rfl (lv_at hl 3 rfl) ?_
  refine lv_iload hx hb dL_wouldAnchor_7 (lv_at hl 4 rfl) ?_
  refine zc_ij (w := [((o 0) 0, .inr (5, [.ref ((o 1) 0), .ref ((o 2) 0), .ref ((o 3) 0), .ref ((o 8) 0)]))] ++ (zbat cs (o 1) A ++ zbat cs (o 2) T)) (wr := [(ou, .inl (cs 2, 1, .inr (.inl (zAL gu))))]) (va_runV (As := [.int (zI xi), .int (zI xt), .int (zI xr), .int (zI xn)]) (rest := [.int (zI 0), .ref ou]) ⟨hx, hb, hml, hown, hts⟩ (met_X5_wouldAnchor_ok l D cs o s.heap.size A T n xi xt xr xn hI hn kn6 rxi rxt rxr rxn kok) (cwV 4 hts gL_wouldAnchor_X5_wouldAnchor rfl rfl rfl (by decide +kernel) ⟨(Nat.le_of_ble_eq_true rfl), (Nat.le_of_ble_eq_true rfl)⟩) ⟨zPreZ.blind, va_recv hK hP (ci := 5) (q0 := 0) rfl rfl, fun U hU hW => zp_Z (hP.sub (ws' := [((o 0) 0, .inr (5, [.ref ((o 1) 0), .ref ((o 2) 0), .ref ((o 3) 0), .ref ((o 8) 0)]))] ++ (zbat cs (o 1) A ++ zbat cs (o 2) T)) [0, 1, 2, 3, 4, 5, 6, 7, 8, 9, 10, 11, 12, 13, 14] rfl) hK (hD.sub (ws' := [((o 0) 0, .inr (5, [.ref ((o 1) 0), .ref ((o 2) 0), .ref ((o 3) 0), .ref ((o 8) 0)]))] ++ (zbat cs (o 1) A ++ zbat cs (o 2) T)) [0, 1, 2, 3, 4, 5, 6, 7, 8, 9, 10, 11, 12, 13, 14] (by decide) rfl) hN hU hW⟩ rfl rfl hl.1 rfl (lv_room (Nat.le_of_ble_eq_true rfl)) dL_wouldAnchor_9 ⟨(Nat.le_of_ble_eq_true rfl), (Nat.le_of_ble_eq_true rfl)⟩) hS hP hD hA [0, 1, 2, 3, 4, 5, 6, 7, 8, 9, 10, 11, 12, 13, 14] [15] rfl rfl (by decide) (by decide) (fun H locs hP hD hS => ?_)
  have hP : va_P D vwCl ([((o 0) 0, .inr (5, [.ref ((o 1) 0), .ref ((o 2) 0), .ref ((o 3) 0), .ref ((o 8) 0)]))] ++ (zbat cs (o 1) A ++ (zbat cs (o 2) (zMp A xi xt xr xn.toNat) ++ [(ou, .inl (cs 2, 1, .inr (.inl (zAL gu))))]))) H := hP.sub (ws' := [((o 0) 0, .inr (5, [.ref ((o 1) 0), .ref ((o 2) 0), .ref ((o 3) 0), .ref ((o 8) 0)]))] ++ (zbat cs (o 1) A ++ (zbat cs (o 2) (zMp A xi xt xr xn.toNat) ++ [(ou, .inl (cs 2, 1, .inr (.inl (zAL gu))))]))) [1, 2, 3, 4, 5, 6, 7, 8, 9, 10, 11, 12, 13, 14, 15, 0] rfl
  have hD : va_D A0 ([((o 0) 0, .inr (5, [.ref ((o 1) 0), .ref ((o 2) 0), .ref ((o 3) 0), .ref ((o 8) 0)]))] ++ (zbat cs (o 1) A ++ (zbat cs (o 2) (zMp A xi xt xr xn.toNat) ++ [(ou, .inl (cs 2, 1, .inr (.inl (zAL gu))))]))) := hD.sub (ws' := [((o 0) 0, .inr (5, [.ref ((o 1) 0), .ref ((o 2) 0), .ref ((o 3) 0), .ref ((o 8) 0)]))] ++ (zbat cs (o 1) A ++ (zbat cs (o 2) (zMp A xi xt xr xn.toNat) ++ [(ou, .inl (cs 2, 1, .inr (.inl (zAL gu))))]))) [1, 2, 3, 4, 5, 6, 7, 8, 9, 10, 11, 12, 13, 14, 15, 0] (by decide) rfl
  refine lv_i2l hx hb dL_wouldAnchor_12 (zW_l (zMb A xi xt xr xn.toNat)) ?_
  refine zr_last (D := D) (g := gu) hx hb hK hP hD hS 15 2 rfl rfl (by decide) (by decide) dL_wouldAnchor_13 (fun H locs hP hD hS => ?_)
  have hP9 : va_P D vwCl ([((o 0) 0, .inr (5, [.ref ((o 1) 0), .ref ((o 2) 0), .ref ((o 3) 0), .ref ((o 8) 0)]))] ++ (zbat cs (o 1) A ++ (zbat cs (o 2) (zMp A xi xt xr xn.toNat) ++ [(ou, .inl (cs 2, 1, .inr (.inl (zAL (zU gu 0 (zW (zMb A xi xt xr xn.toNat)))))))]))) H := hP
  have hD9 : va_D A0 ([((o 0) 0, .inr (5, [.ref ((o 1) 0), .ref ((o 2) 0), .ref ((o 3) 0), .ref ((o 8) 0)]))] ++ (zbat cs (o 1) A ++ (zbat cs (o 2) (zMp A xi xt xr xn.toNat) ++ [(ou, .inl (cs 2, 1, .inr (.inl (zAL (zU gu 0 (zW (zMb A xi xt xr xn.toNat)))))))]))) := zD_addr hD rfl
  refine lv_goto (tgt := 21) hx hb dL_wouldAnchor_14 (by decide) ?_
  refine zr_iconst hx hb dL_wouldAnchor_21 ?_
  refine vx_ret ?_
  rw [hAe] at hD9 hS
  exact W.iret hx hb hr (fun t ht hW => ⟨⟨_, (), rfl, rfl, by rw [ht]; exact hP9, hD9⟩, hS.F ht⟩) hS.2.2 dL_wouldAnchor_22
set_option maxHeartbeats 4000000 in
set_option maxRecDepth 100000 in
theorem met_L_wouldAnchor_x (l : Launch) (hfl : l.stackTraces = false) (D : va_G) (cs : Nat → ClassId) (o : Nat → Nat → Nat) (ou : Nat) (gu : Int → Int) (A T : Int → Int) (xi : Int) (xt : Int) (xr : Int) (xn : Int) (rxi : -2147483648 ≤ xi ∧ xi ≤ 2147483647) (rxt : -2147483648 ≤ xt ∧ xt ≤ 2147483647) (rxr : -2147483648 ≤ xr ∧ xr ≤ 2147483647) (rxn : -2147483648 ≤ xn ∧ xn ≤ 2147483647) (kno : ¬ (((-50000 ≤ xi ∧ xi ≤ 50000) ∧ (0 ≤ (0 : Int) ∧ (0 : Int) ≤ 6000) ∧ 1 ≤ xt ∧ xt ≤ 600) ∧ (0 ≤ xr ∧ xr ≤ 1000) ∧ 0 ≤ xn ∧ xn ≤ 500)) : vx_Met l yL_wouldAnchor wsL_wouldAnchor ({ frames := 9, cells := 1, slots := 6, locals := 153 }) (va_Pc [.ref ((o 0) 0), .int (zI xi), .int (zI xt), .int (zI xr), .int (zI xn), .ref ou] (zPreU D (zTy cs) ([((o 0) 0, .inr (5, [.ref ((o 1) 0), .ref ((o 2) 0), .ref ((o 3) 0), .ref ((o 8) 0)]))] ++ (zbat cs (o 1) A ++ (zbat cs (o 2) T ++ [(ou, .inl (cs 2, 1, .inr (.inl (zAL gu))))]))))) (zQk 1) zXN 1 6 (fun _ => False) := by
  refine vx_ofWH (cc := cL_wouldAnchor) (maxL := 7) (ret := (some .int)) (hh := [(0, 14, 17, 13)]) (by decide +kernel) rfl ?_
  intro p e s m args below meth c s₁ B hml hv
  obtain ⟨rfl, ⟨⟨hP, hK, hD0, hN⟩, hX⟩, hC⟩ := hv
  have hx := B.exec
  have hb := B.bytes
  have hr := B.returns
  have hts := atoms_spec (ws := wsL_wouldAnchor) B.pre
  have hown : s.vm.findClass RL = some m.cls := findClass_of_methodNamed B.named
  have hlocks := B.notSynchronized
  have hX : zXF s s.heap := hX
  have hS : va_S (fun _ => False) s.heap s.heap [] := va_S.rf
  have hD := hD0
  have hP : va_P D vwCl ([((o 0) 0, .inr (5, [.ref ((o 1) 0), .ref ((o 2) 0), .ref ((o 3) 0), .ref ((o 8) 0)]))] ++ (zbat cs (o 1) A ++ (zbat cs (o 2) T ++ [(ou, .inl (cs 2, 1, .inr (.inl (zAL gu))))]))) s.heap := hP
  have hl := lv_entry ([.ref ((o 0) 0), .int (zI xi), .int (zI xt), .int (zI xr), .int (zI xn), .ref ou]) (n := 7) (Nat.le_of_ble_eq_true rfl)
  rw [lg_entry_eq]
  generalize (lg_sl ([.ref ((o 0) 0), .int (zI xi), .int (zI xt), .int (zI xr), .int (zI xn), .ref ou]) ++ List.replicate (7 - (lg_sl ([.ref ((o 0) 0), .int (zI xi), .int (zI xt), .int (zI xr), .int (zI xn), .ref ou])).length) Slot.unset).toArray = ls at hl ⊢
  have hl : lv_has ls 7 [(0, .ref ((o 0) 0)), (1, .int (zI xi)), (2, .int (zI xt)), (3, .int (zI xr)), (4, .int (zI xn)), (5, .ref ou)] := hl
  refine lv_aload hx hb dL_wouldAnchor_0 (lv_at hl 5 rfl) ?_
  refine zr_iconst hx hb dL_wouldAnchor_2 ?_
  refine lv_aload_n hx hb dL_wouldAnchor_3 rfl (lv_at hl 0 rfl) ?_
  refine lv_iload_n hx hb dL_wouldAnchor_4 rfl (lv_at hl 1 rfl) ?_
  refine lv_iload_n hx hb dL_wouldAnchor_5 rfl (lv_at hl 2 rfl) ?_
  refine lv_iload_n hx hb dL_wouldAnchor_6 rfl (lv_at hl 3 rfl) ?_
  refine lv_iload hx hb dL_wouldAnchor_7 (lv_at hl 4 rfl) ?_
  refine vx_calli (vx_runV (As := [.int (zI xi), .int (zI xt), .int (zI xr), .int (zI xn)]) (rest := [.int (zI 0), .ref ou]) ⟨hx, hb, hml, hown, hts⟩ (met_X5_wouldAnchor_x l hfl D cs o A T xi xt xr xn rxi rxt rxr rxn kno) (cwV 4 hts gL_wouldAnchor_X5_wouldAnchor rfl rfl rfl (by decide +kernel) ⟨(Nat.le_of_ble_eq_true rfl), (Nat.le_of_ble_eq_true rfl)⟩) ⟨zPreX.blind, va_recv hK hP (ci := 5) (q0 := 0) rfl rfl, fun U hU hW => zp_X (hP.sub (ws' := [((o 0) 0, .inr (5, [.ref ((o 1) 0), .ref ((o 2) 0), .ref ((o 3) 0), .ref ((o 8) 0)]))] ++ (zbat cs (o 1) A ++ zbat cs (o 2) T)) [0, 1, 2, 3, 4, 5, 6, 7, 8, 9, 10, 11, 12, 13, 14] rfl) hK (hD.sub (ws' := [((o 0) 0, .inr (5, [.ref ((o 1) 0), .ref ((o 2) 0), .ref ((o 3) 0), .ref ((o 8) 0)]))] ++ (zbat cs (o 1) A ++ zbat cs (o 2) T)) [0, 1, 2, 3, 4, 5, 6, 7, 8, 9, 10, 11, 12, 13, 14] (by decide) rfl) hN hX hU hW⟩ rfl rfl hl.1 rfl (lv_room (Nat.le_of_ble_eq_true rfl)) dL_wouldAnchor_9 ⟨(Nat.le_of_ble_eq_true rfl), (Nat.le_of_ble_eq_true rfl)⟩) hS (fun _ _ h => h) (fun _ h => h) (fun _ _ h => h) ?_ (fun r u t H1 locs1 ht hvm hp9 _ _ _ _ => hp9.elim)
  intro E ce q9 u t H1 locs1 ht hvm hp9 hE hz hk hS1 hcell hv9 hcl
  have hE : E = "java/lang/IllegalArgumentException" := hE
  subst hE
  refine vx_catch (own := RL) (name := "java/lang/IllegalArgumentException") hown [] { startPc := 0, endPc := 14, handlerPc := 17, catchType := 13 } [] ((vx_table (x := yL_wouldAnchor) B (hts _ List.mem_cons_self)).trans rfl) (fun z hz => by cases hz) (by decide) (by decide) (hts (.classLink RL 13 "java/lang/IllegalArgumentException") (by decide +kernel)) (va_Nw.use rfl (hX.1.1 (.castable "java/lang/IllegalArgumentException" "java/lang/IllegalArgumentException") (by decide +kernel))) hcell hv9 hcl ?_
  refine lv_astore (lv' := [(6, .ref q9), (0, .ref ((o 0) 0)), (1, .int (zI xi)), (2, .int (zI xt)), (3, .int (zI xr)), (4, .int (zI xn)), (5, .ref ou)]) hx hb dL_wouldAnchor_17 hl (by decide) rfl (fun ls hl => ?_)
  refine zr_iconst hx hb dL_wouldAnchor_19 ?_
  refine vx_ret ?_
  exact W.iret hx hb hr (fun t ht hW => ⟨⟨_, (), rfl, rfl, trivial⟩, hS1.F ht⟩) hS1.2.2 dL_wouldAnchor_20
set_option maxHeartbeats 4000000 in
set_option maxRecDepth 100000 in
theorem met_L_append_ok (l : Launch) (D : va_G) (cs : Nat → ClassId) (o : Nat → Nat → Nat) (ou : Nat) (gu : Int → Int) (sz : Nat) (f : Int → Int) (xl : Int) (g : Int → Int) (xk xn xd xe : Int) (xv : Int) (kl : 0 ≤ xl ∧ xl ≤ 120) (rxv : -2147483648 ≤ xv ∧ xv ≤ 2147483647) (kok : (0 ≤ xv ∧ xv ≤ 127) ∧ xl < 120) : vx_Met l yL_append wsL_append ({ frames := 3, cells := 0, slots := 0, locals := 65 }) (va_Pc [.ref ((o 0) 0), .int (zI xv), .ref ou] (zPreZ D (zTy cs) ([((o 0) 0, .inr (5, [.ref ((o 1) 0), .ref ((o 2) 0), .ref ((o 3) 0), .ref ((o 8) 0)])), ((o 8) 0, .inr (4, [.ref ((o 8) 1), .int (zI xl), .ref ((o 8) 2), .int (zI xk), .int (zI xn), .int (zI xd), .int (zI xe)])), ((o 8) 1, .inl (cs 1, 120, .inl (zA f))), ((o 8) 2, .inl (cs 0, 60, .inl (zA g))), (ou, .inl (cs 2, 1, .inr (.inl (zAL gu))))]) sz)) (zQi D ([((o 0) 0, .inr (5, [.ref ((o 1) 0), .ref ((o 2) 0), .ref ((o 3) 0), .ref ((o 8) 0)])), ((o 8) 0, .inr (4, [.ref ((o 8) 1), .int (zI xl), .ref ((o 8) 2), .int (zI xk), .int (zI xn), .int (zI xd), .int (zI xe)])), ((o 8) 1, .inl (cs 1, 120, .inl (zA f))), ((o 8) 2, .inl (cs 0, 60, .inl (zA g))), (ou, .inl (cs 2, 1, .inr (.inl (zAL gu))))]) sz (zI 0) ([((o 0) 0, .inr (5, [.ref ((o 1) 0), .ref ((o 2) 0), .ref ((o 3) 0), .ref ((o 8) 0)])), ((o 8) 0, .inr (4, [.ref ((o 8) 1), .int (zI (xl + 1)), .ref ((o 8) 2), .int (zI xk), .int (zI xn), .int (zI xd), .int (zI xe)])), ((o 8) 1, .inl (cs 1, 120, .inl (zA (zU f xl xv)))), ((o 8) 2, .inl (cs 0, 60, .inl (zA g))), (ou, .inl (cs 2, 1, .inr (.inl (zAL (zU gu 0 (zW (xl + 1)))))))])) zXN 0 0 (va_A ([((o 0) 0, .inr (5, [.ref ((o 1) 0), .ref ((o 2) 0), .ref ((o 3) 0), .ref ((o 8) 0)])), ((o 8) 0, .inr (4, [.ref ((o 8) 1), .int (zI xl), .ref ((o 8) 2), .int (zI xk), .int (zI xn), .int (zI xd), .int (zI xe)])), ((o 8) 1, .inl (cs 1, 120, .inl (zA f))), ((o 8) 2, .inl (cs 0, 60, .inl (zA g))), (ou, .inl (cs 2, 1, .inr (.inl (zAL gu))))]) sz) := by
  refine vx_ofWH (cc := cL_append) (maxL := 4) (ret := (some .int)) (hh := [(0, 9, 12, 13), (0, 9, 15, 77)]) (by decide +kernel) rfl ?_
  intro p e s m args below meth c s₁ B hml hv
  obtain ⟨rfl, hsz, hP, hK, hD0, hN⟩ := hv
  have hx := B.exec
  have hb := B.bytes
  have hr := B.returns
  have hts := atoms_spec (ws := wsL_append) B.pre
  have hown : s.vm.findClass RL = some m.cls := findClass_of_methodNamed B.named
  have hlocks := B.notSynchronized
  subst hsz
  obtain ⟨A0, hAe⟩ : ∃ A0, A0 = va_A ([((o 0) 0, .inr (5, [.ref ((o 1) 0), .ref ((o 2) 0), .ref ((o 3) 0), .ref ((o 8) 0)])), ((o 8) 0, .inr (4, [.ref ((o 8) 1), .int (zI xl), .ref ((o 8) 2), .int (zI xk), .int (zI xn), .int (zI xd), .int (zI xe)])), ((o 8) 1, .inl (cs 1, 120, .inl (zA f))), ((o 8) 2, .inl (cs 0, 60, .inl (zA g))), (ou, .inl (cs 2, 1, .inr (.inl (zAL gu))))]) s.heap.size := ⟨_, rfl⟩
  have hD := hD0.self (sz := s.heap.size)
  rw [← hAe] at hD
  have hA : ∀ q : Nat, s.heap.size ≤ q → A0 q := fun q h => by rw [hAe]; exact Or.inr h
  have hS : va_S A0 s.heap s.heap [] := va_S.rf
  have hP : va_P D vwCl ([((o 0) 0, .inr (5, [.ref ((o 1) 0), .ref ((o 2) 0), .ref ((o 3) 0), .ref ((o 8) 0)])), ((o 8) 0, .inr (4, [.ref ((o 8) 1), .int (zI xl), .ref ((o 8) 2), .int (zI xk), .int (zI xn), .int (zI xd), .int (zI xe)])), ((o 8) 1, .inl (cs 1, 120, .inl (zA f))), ((o 8) 2, .inl (cs 0, 60, .inl (zA g))), (ou, .inl (cs 2, 1, .inr (.inl (zAL gu))))]) s.heap := hP
  have hl := lv_entry ([.ref ((o 0) 0), .int (zI xv), .ref ou]) (n := 4) (Nat.le_of_ble_eq_true rfl)
  rw [lg_entry_eq]
  generalize (lg_sl ([.ref ((o 0) 0), .int (zI xv), .ref ou]) ++ List.replicate (4 - (lg_sl ([.ref ((o 0) 0), .int (zI xv), .ref ou])).length) Slot.unset).toArray = ls at hl ⊢
  have hl : lv_has ls 4 [(0, .ref ((o 0) 0)), (1, .int (zI xv)), (2, .ref ou)] := hl
  refine lv_aload_n hx hb dL_append_0 rfl (lv_at hl 2 rfl) ?_
  refine zr_iconst hx hb dL_append_1 ?_
  refine lv_aload_n hx hb dL_append_2 rfl (lv_at hl 0 rfl) ?_
  refine lv_iload_n hx hb dL_append_3 rfl (lv_at hl 1 rfl) ?_
  refine zc_ij (w := [((o 0) 0, .inr (5, [.ref ((o 1) 0), .ref ((o 2) 0), .ref ((o 3) 0), .ref ((o 8) 0)])), ((o 8) 0, .inr (4, [.ref ((o 8) 1), .int (zI xl), .ref ((o 8) 2), .int (zI xk), .int (zI xn), .int (zI xd), .int (zI xe)])), ((o 8) 1, .inl (cs 1, 120, .inl (zA f))), ((o 8) 2, .inl (cs 0, 60, .inl (zA g)))]) (wr := [(ou, .inl (cs 2, 1, .inr (.inl (zAL gu))))]) (va_runV (As := [.int (zI xv)]) (rest := [.int (zI 0), .ref ou]) ⟨hx, hb, hml, hown, hts⟩ (met_X5_append_ok l D cs o s.heap.size f xl g xk xn xd xe xv kl rxv kok) (cwV 1 hts gL_append_X5_append rfl rfl rfl (by decide +kernel) ⟨(Nat.le_of_ble_eq_true rfl), (Nat.le_of_ble_eq_true rfl)⟩) ⟨zPreZ.blind, va_recv hK hP (ci := 5) (q0 := 0) rfl rfl, fun U hU hW => zp_Z (hP.sub (ws' := [((o 0) 0, .inr (5, [.ref ((o 1) 0), .ref ((o 2) 0), .ref ((o 3) 0), .ref ((o 8) 0)])), ((o 8) 0, .inr (4, [.ref ((o 8) 1), .int (zI xl), .ref ((o 8) 2), .int (zI xk), .int (zI xn), .int (zI xd), .int (zI xe)])), ((o 8) 1, .inl (cs 1, 120, .inl (zA f))), ((o 8) 2, .inl (cs 0, 60, .inl (zA g)))]) [0, 1, 2, 3] rfl) hK (hD.sub (ws' := [((o 0) 0, .inr (5, [.ref ((o 1) 0), .ref ((o 2) 0), .ref ((o 3) 0), .ref ((o 8) 0)])), ((o 8) 0, .inr (4, [.ref ((o 8) 1), .int (zI xl), .ref ((o 8) 2), .int (zI xk), .int (zI xn), .int (zI xd), .int (zI xe)])), ((o 8) 1, .inl (cs 1, 120, .inl (zA f))), ((o 8) 2, .inl (cs 0, 60, .inl (zA g)))]) [0, 1, 2, 3] (by decide) rfl) hN hU hW⟩ rfl rfl hl.1 rfl (lv_room (Nat.le_of_ble_eq_true rfl)) dL_append_4 ⟨(Nat.le_of_ble_eq_true rfl), (Nat.le_of_ble_eq_true rfl)⟩) hS hP hD hA [0, 1, 2, 3] [4] rfl rfl (by decide) (by decide) (fun H locs hP hD hS => ?_)
  have hP : va_P D vwCl ([((o 0) 0, .inr (5, [.ref ((o 1) 0), .ref ((o 2) 0), .ref ((o 3) 0), .ref ((o 8) 0)])), ((o 8) 0, .inr (4, [.ref ((o 8) 1), .int (zI (xl + 1)), .ref ((o 8) 2), .int (zI xk), .int (zI xn), .int (zI xd), .int (zI xe)])), ((o 8) 1, .inl (cs 1, 120, .inl (zA (zU f xl xv)))), ((o 8) 2, .inl (cs 0, 60, .inl (zA g))), (ou, .inl (cs 2, 1, .inr (.inl (zAL gu))))]) H := hP.sub (ws' := [((o 0) 0, .inr (5, [.ref ((o 1) 0), .ref ((o 2) 0), .ref ((o 3) 0), .ref ((o 8) 0)])), ((o 8) 0, .inr (4, [.ref ((o 8) 1), .int (zI (xl + 1)), .ref ((o 8) 2), .int (zI xk), .int (zI xn), .int (zI xd), .int (zI xe)])), ((o 8) 1, .inl (cs 1, 120, .inl (zA (zU f xl xv)))), ((o 8) 2, .inl (cs 0, 60, .inl (zA g))), (ou, .inl (cs 2, 1, .inr (.inl (zAL gu))))]) [1, 2, 3, 4, 0] rfl
  have hD : va_D A0 ([((o 0) 0, .inr (5, [.ref ((o 1) 0), .ref ((o 2) 0), .ref ((o 3) 0), .ref ((o 8) 0)])), ((o 8) 0, .inr (4, [.ref ((o 8) 1), .int (zI (xl + 1)), .ref ((o 8) 2), .int (zI xk), .int (zI xn), .int (zI xd), .int (zI xe)])), ((o 8) 1, .inl (cs 1, 120, .inl (zA (zU f xl xv)))), ((o 8) 2, .inl (cs 0, 60, .inl (zA g))), (ou, .inl (cs 2, 1, .inr (.inl (zAL gu))))]) := hD.sub (ws' := [((o 0) 0, .inr (5, [.ref ((o 1) 0), .ref ((o 2) 0), .ref ((o 3) 0), .ref ((o 8) 0)])), ((o 8) 0, .inr (4, [.ref ((o 8) 1), .int (zI (xl + 1)), .ref ((o 8) 2), .int (zI xk), .int (zI xn), .int (zI xd), .int (zI xe)])), ((o 8) 1, .inl (cs 1, 120, .inl (zA (zU f xl xv)))), ((o 8) 2, .inl (cs 0, 60, .inl (zA g))), (ou, .inl (cs 2, 1, .inr (.inl (zAL gu))))]) [1, 2, 3, 4, 0] (by decide) rfl
  refine lv_i2l hx hb dL_append_7 (zW_l (xl + 1)) ?_
  refine zr_last (D := D) (g := gu) hx hb hK hP hD hS 4 2 rfl rfl (by decide) (by decide) dL_append_8 (fun H locs hP hD hS => ?_)
  have hP9 : va_P D vwCl ([((o 0) 0, .inr (5, [.ref ((o 1) 0), .ref ((o 2) 0), .ref ((o 3) 0), .ref ((o 8) 0)])), ((o 8) 0, .inr (4, [.ref ((o 8) 1), .int (zI (xl + 1)), .ref ((o 8) 2), .int (zI xk), .int (zI xn), .int (zI xd), .int (zI xe)])), ((o 8) 1, .inl (cs 1, 120, .inl (zA (zU f xl xv)))), ((o 8) 2, .inl (cs 0, 60, .inl (zA g))), (ou, .inl (cs 2, 1, .inr (.inl (zAL (zU gu 0 (zW (xl + 1)))))))]) H := hP
  have hD9 : va_D A0 ([((o 0) 0, .inr (5, [.ref ((o 1) 0), .ref ((o 2) 0), .ref ((o 3) 0), .ref ((o 8) 0)])), ((o 8) 0, .inr (4, [.ref ((o 8) 1), .int (zI (xl + 1)), .ref ((o 8) 2), .int (zI xk), .int (zI xn), .int (zI xd), .int (zI xe)])), ((o 8) 1, .inl (cs 1, 120, .inl (zA (zU f xl xv)))), ((o 8) 2, .inl (cs 0, 60, .inl (zA g))), (ou, .inl (cs 2, 1, .inr (.inl (zAL (zU gu 0 (zW (xl + 1)))))))]) := zD_addr hD rfl
  refine lv_goto (tgt := 18) hx hb dL_append_9 (by decide) ?_
  refine zr_iconst hx hb dL_append_18 ?_
  refine vx_ret ?_
  rw [hAe] at hD9 hS
  exact W.iret hx hb hr (fun t ht hW => ⟨⟨_, (), rfl, rfl, by rw [ht]; exact hP9, hD9⟩, hS.F ht⟩) hS.2.2 dL_append_19
set_option maxHeartbeats 4000000 in
set_option maxRecDepth 100000 in
theorem met_L_append_x1 (l : Launch) (hfl : l.stackTraces = false) (D : va_G) (cs : Nat → ClassId) (o : Nat → Nat → Nat) (ou : Nat) (gu : Int → Int) (f : Int → Int) (xl : Int) (g : Int → Int) (xk xn xd xe : Int) (xv : Int) (kl : 0 ≤ xl ∧ xl ≤ 120) (rxv : -2147483648 ≤ xv ∧ xv ≤ 2147483647) (kno : ¬ (0 ≤ xv ∧ xv ≤ 127)) : vx_Met l yL_append wsL_append ({ frames := 8, cells := 1, slots := 6, locals := 125 }) (va_Pc [.ref ((o 0) 0), .int (zI xv), .ref ou] (zPreU D (zTy cs) ([((o 0) 0, .inr (5, [.ref ((o 1) 0), .ref ((o 2) 0), .ref ((o 3) 0), .ref ((o 8) 0)])), ((o 8) 0, .inr (4, [.ref ((o 8) 1), .int (zI xl), .ref ((o 8) 2), .int (zI xk), .int (zI xn), .int (zI xd), .int (zI xe)])), ((o 8) 1, .inl (cs 1, 120, .inl (zA f))), ((o 8) 2, .inl (cs 0, 60, .inl (zA g))), (ou, .inl (cs 2, 1, .inr (.inl (zAL gu))))]))) (zQk 1) zXN 1 6 (fun _ => False) := by
  refine vx_ofWH (cc := cL_append) (maxL := 4) (ret := (some .int)) (hh := [(0, 9, 12, 13), (0, 9, 15, 77)]) (by decide +kernel) rfl ?_
  intro p e s m args below meth c s₁ B hml hv
  obtain ⟨rfl, ⟨⟨hP, hK, hD0, hN⟩, hX⟩, hC⟩ := hv
  have hx := B.exec
  have hb := B.bytes
  have hr := B.returns
  have hts := atoms_spec (ws := wsL_append) B.pre
  have hown : s.vm.findClass RL = some m.cls := findClass_of_methodNamed B.named
  have hlocks := B.notSynchronized
  have hX : zXF s s.heap := hX
  have hS : va_S (fun _ => False) s.heap s.heap [] := va_S.rf
  have hD := hD0
  have hP : va_P D vwCl ([((o 0) 0, .inr (5, [.ref ((o 1) 0), .ref ((o 2) 0), .ref ((o 3) 0), .ref ((o 8) 0)])), ((o 8) 0, .inr (4, [.ref ((o 8) 1), .int (zI xl), .ref ((o 8) 2), .int (zI xk), .int (zI xn), .int (zI xd), .int (zI xe)])), ((o 8) 1, .inl (cs 1, 120, .inl (zA f))), ((o 8) 2, .inl (cs 0, 60, .inl (zA g))), (ou, .inl (cs 2, 1, .inr (.inl (zAL gu))))]) s.heap := hP
  have hl := lv_entry ([.ref ((o 0) 0), .int (zI xv), .ref ou]) (n := 4) (Nat.le_of_ble_eq_true rfl)
  rw [lg_entry_eq]
  generalize (lg_sl ([.ref ((o 0) 0), .int (zI xv), .ref ou]) ++ List.replicate (4 - (lg_sl ([.ref ((o 0) 0), .int (zI xv), .ref ou])).length) Slot.unset).toArray = ls at hl ⊢
  have hl : lv_has ls 4 [(0, .ref ((o 0) 0)), (1, .int (zI xv)), (2, .ref ou)] := hl
  refine lv_aload_n hx hb dL_append_0 rfl (lv_at hl 2 rfl) ?_
  refine zr_iconst hx hb dL_append_1 ?_
  refine lv_aload_n hx hb dL_append_2 rfl (lv_at hl 0 rfl) ?_
  refine lv_iload_n hx hb dL_append_3 rfl (lv_at hl 1 rfl) ?_
  refine vx_calli (vx_runV (As := [.int (zI xv)]) (rest := [.int (zI 0), .ref ou]) ⟨hx, hb, hml, hown, hts⟩ (met_X5_append_x1 l hfl D cs o f xl g xk xn xd xe xv kl rxv kno) (cwV 1 hts gL_append_X5_append rfl rfl rfl (by decide +kernel) ⟨(Nat.le_of_ble_eq_true rfl), (Nat.le_of_ble_eq_true rfl)⟩) ⟨zPreX.blind, va_recv hK hP (ci := 5) (q0 := 0) rfl rfl, fun U hU hW => zp_X (hP.sub (ws' := [((o 0) 0, .inr (5, [.ref ((o 1) 0), .ref ((o 2) 0), .ref ((o 3) 0), .ref ((o 8) 0)])), ((o 8) 0, .inr (4, [.ref ((o 8) 1), .int (zI xl), .ref ((o 8) 2), .int (zI xk), .int (zI xn), .int (zI xd), .int (zI xe)])), ((o 8) 1, .inl (cs 1, 120, .inl (zA f))), ((o 8) 2, .inl (cs 0, 60, .inl (zA g)))]) [0, 1, 2, 3] rfl) hK (hD.sub (ws' := [((o 0) 0, .inr (5, [.ref ((o 1) 0), .ref ((o 2) 0), .ref ((o 3) 0), .ref ((o 8) 0)])), ((o 8) 0, .inr (4, [.ref ((o 8) 1), .int (zI xl), .ref ((o 8) 2), .int (zI xk), .int (zI xn), .int (zI xd), .int (zI xe)])), ((o 8) 1, .inl (cs 1, 120, .inl (zA f))), ((o 8) 2, .inl (cs 0, 60, .inl (zA g)))]) [0, 1, 2, 3] (by decide) rfl) hN hX hU hW⟩ rfl rfl hl.1 rfl (lv_room (Nat.le_of_ble_eq_true rfl)) dL_append_4 ⟨(Nat.le_of_ble_eq_true rfl), (Nat.le_of_ble_eq_true rfl)⟩) hS (fun _ _ h => h) (fun _ h => h) (fun _ _ h => h) ?_ (fun r u t H1 locs1 ht hvm hp9 _ _ _ _ => hp9.elim)
  intro E ce q9 u t H1 locs1 ht hvm hp9 hE hz hk hS1 hcell hv9 hcl
  have hE : E = "java/lang/IllegalArgumentException" := hE
  subst hE
  refine vx_catch (own := RL) (name := "java/lang/IllegalArgumentException") hown [] { startPc := 0, endPc := 9, handlerPc := 12, catchType := 13 } [{ startPc := 0, endPc := 9, handlerPc := 15, catchType := 77 }] ((vx_table (x := yL_append) B (hts _ List.mem_cons_self)).trans rfl) (fun z hz => by cases hz) (by decide) (by decide) (hts (.classLink RL 13 "java/lang/IllegalArgumentException") (by decide +kernel)) (va_Nw.use rfl (hX.1.1 (.castable "java/lang/IllegalArgumentException" "java/lang/IllegalArgumentException") (by decide +kernel))) hcell hv9 hcl ?_
  refine lv_astore_n (lv' := [(3, .ref q9), (0, .ref ((o 0) 0)), (1, .int (zI xv)), (2, .ref ou)]) hx hb dL_append_12 rfl hl (by decide) rfl (fun ls hl => ?_)
  refine zr_iconst hx hb dL_append_13 ?_
  refine vx_ret ?_
  exact W.iret hx hb hr (fun t ht hW => ⟨⟨_, (), rfl, rfl, trivial⟩, hS1.F ht⟩) hS1.2.2 dL_append_14
set_option maxHeartbeats 4000000 in
set_option maxRecDepth 100000 in
theorem met_L_append_x2 (l : Launch) (hfl : l.stackTraces = false) (D : va_G) (cs : Nat → ClassId) (o : Nat → Nat → Nat) (ou : Nat) (gu : Int → Int) (f : Int → Int) (xl : Int) (g : Int → Int) (xk xn xd xe : Int) (xv : Int) (kl : 0 ≤ xl ∧ xl ≤ 120) (rxv : -2147483648 ≤ xv ∧ xv ≤ 2147483647) (kno : (0 ≤ xv ∧ xv ≤ 127) ∧ ¬ xl < 120) : vx_Met l yL_append wsL_append ({ frames := 8, cells := 1, slots := 6, locals := 125 }) (va_Pc [.ref ((o 0) 0), .int (zI xv), .ref ou] (zPreU D (zTy cs) ([((o 0) 0, .inr (5, [.ref ((o 1) 0), .ref ((o 2) 0), .ref ((o 3) 0), .ref ((o 8) 0)])), ((o 8) 0, .inr (4, [.ref ((o 8) 1), .int (zI xl), .ref ((o 8) 2), .int (zI xk), .int (zI xn), .int (zI xd), .int (zI xe)])), ((o 8) 1, .inl (cs 1, 120, .inl (zA f))), ((o 8) 2, .inl (cs 0, 60, .inl (zA g))), (ou, .inl (cs 2, 1, .inr (.inl (zAL gu))))]))) (zQk 2) zXN 1 6 (fun _ => False) := by
  refine vx_ofWH (cc := cL_append) (maxL := 4) (ret := (some .int)) (hh := [(0, 9, 12, 13), (0, 9, 15, 77)]) (by decide +kernel) rfl ?_
  intro p e s m args below meth c s₁ B hml hv
  obtain ⟨rfl, ⟨⟨hP, hK, hD0, hN⟩, hX⟩, hC⟩ := hv
  have hx := B.exec
  have hb := B.bytes
  have hr := B.returns
  have hts := atoms_spec (ws := wsL_append) B.pre
  have hown : s.vm.findClass RL = some m.cls := findClass_of_methodNamed B.named
  have hlocks := B.notSynchronized
  have hX : zXF s s.heap := hX
  have hS : va_S (fun _ => False) s.heap s.heap [] := va_S.rf
  have hD := hD0
  have hP : va_P D vwCl ([((o 0) 0, .inr (5, [.ref ((o 1) 0), .ref ((o 2) 0), .ref ((o 3) 0), .ref ((o 8) 0)])), ((o 8) 0, .inr (4, [.ref ((o 8) 1), .int (zI xl), .ref ((o 8) 2), .int (zI xk), .int (zI xn), .int (zI xd), .int (zI xe)])), ((o 8) 1, .inl (cs 1, 120, .inl (zA f))), ((o 8) 2, .inl (cs 0, 60, .inl (zA g))), (ou, .inl (cs 2, 1, .inr (.inl (zAL gu))))]) s.heap := hP
  have hl := lv_entry ([.ref ((o 0) 0), .int (zI xv), .ref ou]) (n := 4) (Nat.le_of_ble_eq_true rfl)
  rw [lg_entry_eq]
  generalize (lg_sl ([.ref ((o 0) 0), .int (zI xv), .ref ou]) ++ List.replicate (4 - (lg_sl ([.ref ((o 0) 0), .int (zI xv), .ref ou])).length) Slot.unset).toArray = ls at hl ⊢
  have hl : lv_has ls 4 [(0, .ref ((o 0) 0)), (1, .int (zI xv)), (2, .ref ou)] := hl
  refine lv_aload_n hx hb dL_append_0 rfl (lv_at hl 2 rfl) ?_
  refine zr_iconst hx hb dL_append_1 ?_
  refine lv_aload_n hx hb dL_append_2 rfl (lv_at hl 0 rfl) ?_
  refine lv_iload_n hx hb dL_append_3 rfl (lv_at hl 1 rfl) ?_
  refine vx_calli (vx_runV (As := [.int (zI xv)]) (rest := [.int (zI 0), .ref ou]) ⟨hx, hb, hml, hown, hts⟩ (met_X5_append_x2 l hfl D cs o f xl g xk xn xd xe xv kl rxv kno) (cwV 1 hts gL_append_X5_append rfl rfl rfl (by decide +kernel) ⟨(Nat.le_of_ble_eq_true rfl), (Nat.le_of_ble_eq_true rfl)⟩) ⟨zPreX.blind, va_recv hK hP (ci := 5) (q0 := 0) rfl rfl, fun U hU hW => zp_X (hP.sub (ws' := [((o 0) 0, .inr (5, [.ref ((o 1) 0), .ref ((o 2) 0), .ref ((o 3) 0), .ref ((o 8) 0)])), ((o 8) 0, .inr (4, [.ref ((o 8) 1), .int (zI xl), .ref ((o 8) 2), .int (zI xk), .int (zI xn), .int (zI xd), .int (zI xe)])), ((o 8) 1, .inl (cs 1, 120, .inl (zA f))), ((o 8) 2, .inl (cs 0, 60, .inl (zA g)))]) [0, 1, 2, 3] rfl) hK (hD.sub (ws' := [((o 0) 0, .inr (5, [.ref ((o 1) 0), .ref ((o 2) 0), .ref ((o 3) 0), .ref ((o 8) 0)])), ((o 8) 0, .inr (4, [.ref ((o 8) 1), .int (zI xl), .ref ((o 8) 2), .int (zI xk), .int (zI xn), .int (zI xd), .int (zI xe)])), ((o 8) 1, .inl (cs 1, 120, .inl (zA f))), ((o 8) 2, .inl (cs 0, 60, .inl (zA g)))]) [0, 1, 2, 3] (by decide) rfl) hN hX hU hW⟩ rfl rfl hl.1 rfl (lv_room (Nat.le_of_ble_eq_true rfl)) dL_append_4 ⟨(Nat.le_of_ble_eq_true rfl), (Nat.le_of_ble_eq_true rfl)⟩) hS (fun _ _ h => h) (fun _ h => h) (fun _ _ h => h) ?_ (fun r u t H1 locs1 ht hvm hp9 _ _ _ _ => hp9.elim)
  intro E ce q9 u t H1 locs1 ht hvm hp9 hE hz hk hS1 hcell hv9 hcl
  have hE : E = "java/lang/IllegalStateException" := hE
  subst hE
  refine vx_catch (own := RL) (name := "java/lang/IllegalStateException") hown [{ startPc := 0, endPc := 9, handlerPc := 12, catchType := 13 }] { startPc := 0, endPc := 9, handlerPc := 15, catchType := 77 } [] ((vx_table (x := yL_append) B (hts _ List.mem_cons_self)).trans rfl) (fun z hz => by rw [List.mem_singleton.mp hz]; exact Or.inr ⟨by decide, "java/lang/IllegalArgumentException", (hts (.classLink RL 13 "java/lang/IllegalArgumentException") (by decide +kernel)), hC.2⟩) (by decide) (by decide) (hts (.classLink RL 77 "java/lang/IllegalStateException") (by decide +kernel)) (va_Nw.use rfl (hX.1.1 (.castable "java/lang/IllegalStateException" "java/lang/IllegalStateException") (by decide +kernel))) hcell hv9 hcl ?_
  refine lv_astore_n (lv' := [(3, .ref q9), (0, .ref ((o 0) 0)), (1, .int (zI xv)), (2, .ref ou)]) hx hb dL_append_15 rfl hl (by decide) rfl (fun ls hl => ?_)
  refine zr_iconst hx hb dL_append_16 ?_
  refine vx_ret ?_
  exact W.iret hx hb hr (fun t ht hW => ⟨⟨_, (), rfl, rfl, trivial⟩, hS1.F ht⟩) hS1.2.2 dL_append_17
set_option maxHeartbeats 4000000 in
set_option maxRecDepth 100000 in
theorem met_L_undo_ok (l : Launch) (D : va_G) (cs : Nat → ClassId) (o : Nat → Nat → Nat) (ou : Nat) (gu : Int → Int) (sz : Nat) (A S0 S1 S2 S3 : Int → Int) (xm : Int) (kxm : 0 ≤ xm ∧ xm ≤ 4) (k47 : 0 ≤ zr4 xm S0 S1 S2 S3 47 ∧ zr4 xm S0 S1 S2 S3 47 ≤ 1) (kok : 0 < xm) : vx_Met l yL_undo wsL_undo ({ frames := 5, cells := 0, slots := 0, locals := 102 }) (va_Pc [.ref ((o 0) 0), .ref ou] (zPreZ D (zTy cs) ([((o 0) 0, .inr (5, [.ref ((o 1) 0), .ref ((o 2) 0), .ref ((o 3) 0), .ref ((o 8) 0)]))] ++ (zbat cs (o 1) A ++ ([((o 3) 0, .inr (3, [.ref ((o 3) 1), .int (zI xm)])), ((o 3) 1, .inl (cs 3, 4, .inr (.inr (.inr (.inr (zR ((o 4) 0) ((o 5) 0) ((o 6) 0) ((o 7) 0)))))))] ++ (zbat cs (o 4) S0 ++ (zbat cs (o 5) S1 ++ (zbat cs (o 6) S2 ++ (zbat cs (o 7) S3 ++ [(ou, .inl (cs 2, 1, .inr (.inl (zAL gu))))]))))))) sz)) (zQi D ([((o 0) 0, .inr (5, [.ref ((o 1) 0), .ref ((o 2) 0), .ref ((o 3) 0), .ref ((o 8) 0)]))] ++ (zbat cs (o 1) A ++ ([((o 3) 0, .inr (3, [.ref ((o 3) 1), .int (zI xm)])), ((o 3) 1, .inl (cs 3, 4, .inr (.inr (.inr (.inr (zR ((o 4) 0) ((o 5) 0) ((o 6) 0) ((o 7) 0)))))))] ++ (zbat cs (o 4) S0 ++ (zbat cs (o 5) S1 ++ (zbat cs (o 6) S2 ++ (zbat cs (o 7) S3 ++ [(ou, .inl (cs 2, 1, .inr (.inl (zAL gu))))]))))))) sz (zI 0) ([((o 0) 0, .inr (5, [.ref ((o 1) 0), .ref ((o 2) 0), .ref ((o 3) 0), .ref ((o 8) 0)]))] ++ (zbat cs (o 1) (zr4 xm S0 S1 S2 S3) ++ ([((o 3) 0, .inr (3, [.ref ((o 3) 1), .int (zI (xm - 1))])), ((o 3) 1, .inl (cs 3, 4, .inr (.inr (.inr (.inr (zR ((o 4) 0) ((o 5) 0) ((o 6) 0) ((o 7) 0)))))))] ++ (zbat cs (o 4) S0 ++ (zbat cs (o 5) S1 ++ (zbat cs (o 6) S2 ++ (zbat cs (o 7) S3 ++ [(ou, .inl (cs 2, 1, .inr (.inl (zAL (zU gu 0 (zW (xm - 1)))))))])))))))) zXN 0 0 (va_A ([((o 0) 0, .inr (5, [.ref ((o 1) 0), .ref ((o 2) 0), .ref ((o 3) 0), .ref ((o 8) 0)]))] ++ (zbat cs (o 1) A ++ ([((o 3) 0, .inr (3, [.ref ((o 3) 1), .int (zI xm)])), ((o 3) 1, .inl (cs 3, 4, .inr (.inr (.inr (.inr (zR ((o 4) 0) ((o 5) 0) ((o 6) 0) ((o 7) 0)))))))] ++ (zbat cs (o 4) S0 ++ (zbat cs (o 5) S1 ++ (zbat cs (o 6) S2 ++ (zbat cs (o 7) S3 ++ [(ou, .inl (cs 2, 1, .inr (.inl (zAL gu))))]))))))) sz) := by
  refine vx_ofWH (cc := cL_undo) (maxL := 3) (ret := (some .int)) (hh := [(0, 8, 11, 77)]) (by decide +kernel) rfl ?_
  intro p e s m args below meth c s₁ B hml hv
  obtain ⟨rfl, hsz, hP, hK, hD0, hN⟩ := hv
  have hx := B.exec
  have hb := B.bytes
  have hr := B.returns
  have hts := atoms_spec (ws := wsL_undo) B.pre
  have hown : s.vm.findClass RL = some m.cls := findClass_of_methodNamed B.named
  have hlocks := B.notSynchronized
  subst hsz
  obtain ⟨A0, hAe⟩ : ∃ A0, A0 = va_A ([((o 0) 0, .inr (5, [.ref ((o 1) 0), .ref ((o 2) 0), .ref ((o 3) 0), .ref ((o 8) 0)]))] ++ (zbat cs (o 1) A ++ ([((o 3) 0, .inr (3, [.ref ((o 3) 1), .int (zI xm)])), ((o 3) 1, .inl (cs 3, 4, .inr (.inr (.inr (.inr (zR ((o 4) 0) ((o 5) 0) ((o 6) 0) ((o 7) 0)))))))] ++ (zbat cs (o 4) S0 ++ (zbat cs (o 5) S1 ++ (zbat cs (o 6) S2 ++ (zbat cs (o 7) S3 ++ [(ou, .inl (cs 2, 1, .inr (.inl (zAL gu))))]))))))) s.heap.size := ⟨_, rfl⟩
  have hD := hD0.self (sz := s.heap.size)
  rw [← hAe] at hD
  have hA : ∀ q : Nat, s.heap.size ≤ q → A0 q := fun q h => by rw [hAe]; exact Or.inr h
  have hS : va_S A0 s.heap s.heap [] := va_S.rf
  have hP : va_P D vwCl ([((o 0) 0, .inr (5, [.ref ((o 1) 0), .ref ((o 2) 0), .ref ((o 3) 0), .ref ((o 8) 0)]))] ++ (zbat cs (o 1) A ++ ([((o 3) 0, .inr (3, [.ref ((o 3) 1), .int (zI xm)])), ((o 3) 1, .inl (cs 3, 4, .inr (.inr (.inr (.inr (zR ((o 4) 0) ((o 5) 0) ((o 6) 0) ((o 7) 0)))))))] ++ (zbat cs (o 4) S0 ++ (zbat cs (o 5) S1 ++ (zbat cs (o 6) S2 ++ (zbat cs (o 7) S3 ++ [(ou, .inl (cs 2, 1, .inr (.inl (zAL gu))))]))))))) s.heap := hP
  have hl := lv_entry ([.ref ((o 0) 0), .ref ou]) (n := 3) (Nat.le_of_ble_eq_true rfl)
  rw [lg_entry_eq]
  generalize (lg_sl ([.ref ((o 0) 0), .ref ou]) ++ List.replicate (3 - (lg_sl ([.ref ((o 0) 0), .ref ou])).length) Slot.unset).toArray = ls at hl ⊢
  have hl : lv_has ls 3 [(0, .ref ((o 0) 0)), (1, .ref ou)] := hl
  refine lv_aload_n hx hb dL_undo_0 rfl (lv_at hl 1 rfl) ?_
  refine zr_iconst hx hb dL_undo_1 ?_
  refine lv_aload_n hx hb dL_undo_2 rfl (lv_at hl 0 rfl) ?_
  refine zc_ij (w := [((o 0) 0, .inr (5, [.ref ((o 1) 0), .ref ((o 2) 0), .ref ((o 3) 0), .ref ((o 8) 0)]))] ++ (zbat cs (o 1) A ++ ([((o 3) 0, .inr (3, [.ref ((o 3) 1), .int (zI xm)])), ((o 3) 1, .inl (cs 3, 4, .inr (.inr (.inr (.inr (zR ((o 4) 0) ((o 5) 0) ((o 6) 0) ((o 7) 0)))))))] ++ (zbat cs (o 4) S0 ++ (zbat cs (o 5) S1 ++ (zbat cs (o 6) S2 ++ zbat cs (o 7) S3)))))) (wr := [(ou, .inl (cs 2, 1, .inr (.inl (zAL gu))))]) (va_runV (As := []) (rest := [.int (zI 0), .ref ou]) ⟨hx, hb, hml, hown, hts⟩ (met_X5_undo_ok l D cs o s.heap.size A S0 S1 S2 S3 xm kxm k47 kok) (cwV 0 hts gL_undo_X5_undo rfl rfl rfl (by decide +kernel) ⟨(Nat.le_of_ble_eq_true rfl), (Nat.le_of_ble_eq_true rfl)⟩) ⟨zPreZ.blind, va_recv hK hP (ci := 5) (q0 := 0) rfl rfl, fun U hU hW => zp_Z (hP.sub (ws' := [((o 0) 0, .inr (5, [.ref ((o 1) 0), .ref ((o 2) 0), .ref ((o 3) 0), .ref ((o 8) 0)]))] ++ (zbat cs (o 1) A ++ ([((o 3) 0, .inr (3, [.ref ((o 3) 1), .int (zI xm)])), ((o 3) 1, .inl (cs 3, 4, .inr (.inr (.inr (.inr (zR ((o 4) 0) ((o 5) 0) ((o 6) 0) ((o 7) 0)))))))] ++ (zbat cs (o 4) S0 ++ (zbat cs (o 5) S1 ++ (zbat cs (o 6) S2 ++ zbat cs (o 7) S3)))))) [0, 1, 2, 3, 4, 5, 6, 7, 8, 9, 10, 11, 12, 13, 14, 15, 16, 17, 18, 19, 20, 21, 22, 23, 24, 25, 26, 27, 28, 29, 30, 31, 32, 33, 34, 35, 36, 37] rfl) hK (hD.sub (ws' := [((o 0) 0, .inr (5, [.ref ((o 1) 0), .ref ((o 2) 0), .ref ((o 3) 0), .ref ((o 8) 0)]))] ++ (zbat cs (o 1) A ++ ([((o 3) 0, .inr (3, [.ref ((o 3) 1), .int (zI xm)])), ((o 3) 1, .inl (cs 3, 4, .inr (.inr (.inr (.inr (zR ((o 4) 0) ((o 5) 0) ((o 6) 0) ((o 7) 0)))))))] ++ (zbat cs (o 4) S0 ++ (zbat cs (o 5) S1 ++ (zbat cs (o 6) S2 ++ zbat cs (o 7) S3)))))) [0, 1, 2, 3, 4, 5, 6, 7, 8, 9, 10, 11, 12, 13, 14, 15, 16, 17, 18, 19, 20, 21, 22, 23, 24, 25, 26, 27, 28, 29, 30, 31, 32, 33, 34, 35, 36, 37] (by decide) rfl) hN hU hW⟩ rfl rfl hl.1 rfl (lv_room (Nat.le_of_ble_eq_true rfl)) dL_undo_3 ⟨(Nat.le_of_ble_eq_true rfl), (Nat.le_of_ble_eq_true rfl)⟩) hS hP hD hA [0, 1, 2, 3, 4, 5, 6, 7, 8, 9, 10, 11, 12, 13, 14, 15, 16, 17, 18, 19, 20, 21, 22, 23, 24, 25, 26, 27, 28, 29, 30, 31, 32, 33, 34, 35, 36, 37] [38] rfl rfl (by decide) (by decide) (fun H locs hP hD hS => ?_)
  have hP : va_P D vwCl ([((o 0) 0, .inr (5, [.ref ((o 1) 0), .ref ((o 2) 0), .ref ((o 3) 0), .ref ((o 8) 0)]))] ++ (zbat cs (o 1) (zr4 xm S0 S1 S2 S3) ++ ([((o 3) 0, .inr (3, [.ref ((o 3) 1), .int (zI (xm - 1))])), ((o 3) 1, .inl (cs 3, 4, .inr (.inr (.inr (.inr (zR ((o 4) 0) ((o 5) 0) ((o 6) 0) ((o 7) 0)))))))] ++ (zbat cs (o 4) S0 ++ (zbat cs (o 5) S1 ++ (zbat cs (o 6) S2 ++ (zbat cs (o 7) S3 ++ [(ou, .inl (cs 2, 1, .inr (.inl (zAL gu))))]))))))) H := hP.sub (ws' := [((o 0) 0, .inr (5, [.ref ((o 1) 0), .ref ((o 2) 0), .ref ((o 3) 0), .ref ((o 8) 0)]))] ++ (zbat cs (o 1) (zr4 xm S0 S1 S2 S3) ++ ([((o 3) 0, .inr (3, [.ref ((o 3) 1), .int (zI (xm - 1))])), ((o 3) 1, .inl (cs 3, 4, .inr (.inr (.inr (.inr (zR ((o 4) 0) ((o 5) 0) ((o 6) 0) ((o 7) 0)))))))] ++ (zbat cs (o 4) S0 ++ (zbat cs (o 5) S1 ++ (zbat cs (o 6) S2 ++ (zbat cs (o 7) S3 ++ [(ou, .inl (cs 2, 1, .inr (.inl (zAL gu))))]))))))) [1, 2, 3, 4, 5, 6, 7, 8, 9, 10, 11, 12, 13, 14, 15, 16, 17, 18, 19, 20, 21, 22, 23, 24, 25, 26, 27, 28, 29, 30, 31, 32, 33, 34, 35, 36, 37, 38, 0] rfl
  have hD : va_D A0 ([((o 0) 0, .inr (5, [.ref ((o 1) 0), .ref ((o 2) 0), .ref ((o 3) 0), .ref ((o 8) 0)]))] ++ (zbat cs (o 1) (zr4 xm S0 S1 S2 S3) ++ ([((o 3) 0, .inr (3, [.ref ((o 3) 1), .int (zI (xm - 1))])), ((o 3) 1, .inl (cs 3, 4, .inr (.inr (.inr (.inr (zR ((o 4) 0) ((o 5) 0) ((o 6) 0) ((o 7) 0)))))))] ++ (zbat cs (o 4) S0 ++ (zbat cs (o 5) S1 ++ (zbat cs (o 6) S2 ++ (zbat cs (o 7) S3 ++ [(ou, .inl (cs 2, 1, .inr (.inl (zAL gu))))]))))))) := hD.sub (ws' := [((o 0) 0, .inr (5, [.ref ((o 1) 0), .ref ((o 2) 0), .ref ((o 3) 0), .ref ((o 8) 0)]))] ++ (zbat cs (o 1) (zr4 xm S0 S1 S2 S3) ++ ([((o 3) 0, .inr (3, [.ref ((o 3) 1), .int (zI (xm - 1))])), ((o 3) 1, .inl (cs 3, 4, .inr (.inr (.inr (.inr (zR ((o 4) 0) ((o 5) 0) ((o 6) 0) ((o 7) 0)))))))] ++ (zbat cs (o 4) S0 ++ (zbat cs (o 5) S1 ++ (zbat cs (o 6) S2 ++ (zbat cs (o 7) S3 ++ [(ou, .inl (cs 2, 1, .inr (.inl (zAL gu))))]))))))) [1, 2, 3, 4, 5, 6, 7, 8, 9, 10, 11, 12, 13, 14, 15, 16, 17, 18, 19, 20, 21, 22, 23, 24, 25, 26, 27, 28, 29, 30, 31, 32, 33, 34, 35, 36, 37, 38, 0] (by decide) rfl
  refine lv_i2l hx hb dL_undo_6 (zW_l (xm - 1)) ?_
  refine zr_last (D := D) (g := gu) hx hb hK hP hD hS 38 2 rfl rfl (by decide) (by decide) dL_undo_7 (fun H locs hP hD hS => ?_)
  have hP9 : va_P D vwCl ([((o 0) 0, .inr (5, [.ref ((o 1) 0), .ref ((o 2) 0), .ref ((o 3) 0), .ref ((o 8) 0)]))] ++ (zbat cs (o 1) (zr4 xm S0 S1 S2 S3) ++ ([((o 3) 0, .inr (3, [.ref ((o 3) 1), .int (zI (xm - 1))])), ((o 3) 1, .inl (cs 3, 4, .inr (.inr (.inr (.inr (zR ((o 4) 0) ((o 5) 0) ((o 6) 0) ((o 7) 0)))))))] ++ (zbat cs (o 4) S0 ++ (zbat cs (o 5) S1 ++ (zbat cs (o 6) S2 ++ (zbat cs (o 7) S3 ++ [(ou, .inl (cs 2, 1, .inr (.inl (zAL (zU gu 0 (zW (xm - 1)))))))]))))))) H := hP
  have hD9 : va_D A0 ([((o 0) 0, .inr (5, [.ref ((o 1) 0), .ref ((o 2) 0), .ref ((o 3) 0), .ref ((o 8) 0)]))] ++ (zbat cs (o 1) (zr4 xm S0 S1 S2 S3) ++ ([((o 3) 0, .inr (3, [.ref ((o 3) 1), .int (zI (xm - 1))])), ((o 3) 1, .inl (cs 3, 4, .inr (.inr (.inr (.inr (zR ((o 4) 0) ((o 5) 0) ((o 6) 0) ((o 7) 0)))))))] ++ (zbat cs (o 4) S0 ++ (zbat cs (o 5) S1 ++ (zbat cs (o 6) S2 ++ (zbat cs (o 7) S3 ++ [(ou, .inl (cs 2, 1, .inr (.inl (zAL (zU gu 0 (zW (xm - 1)))))))]))))))) := zD_addr hD rfl
  refine lv_goto (tgt := 14) hx hb dL_undo_8 (by decide) ?_
  refine zr_iconst hx hb dL_undo_14 ?_
  refine vx_ret ?_
  rw [hAe] at hD9 hS
  exact W.iret hx hb hr (fun t ht hW => ⟨⟨_, (), rfl, rfl, by rw [ht]; exact hP9, hD9⟩, hS.F ht⟩) hS.2.2 dL_undo_15
set_option maxHeartbeats 4000000 in
set_option maxRecDepth 100000 in
theorem met_L_undo_x (l : Launch) (hfl : l.stackTraces = false) (D : va_G) (cs : Nat → ClassId) (o : Nat → Nat → Nat) (ou : Nat) (gu : Int → Int) (A S0 S1 S2 S3 : Int → Int) (xm : Int) (kxm : 0 ≤ xm ∧ xm ≤ 4) (kno : ¬ 0 < xm) : vx_Met l yL_undo wsL_undo ({ frames := 7, cells := 1, slots := 6, locals := 102 }) (va_Pc [.ref ((o 0) 0), .ref ou] (zPreU D (zTy cs) ([((o 0) 0, .inr (5, [.ref ((o 1) 0), .ref ((o 2) 0), .ref ((o 3) 0), .ref ((o 8) 0)]))] ++ (zbat cs (o 1) A ++ ([((o 3) 0, .inr (3, [.ref ((o 3) 1), .int (zI xm)])), ((o 3) 1, .inl (cs 3, 4, .inr (.inr (.inr (.inr (zR ((o 4) 0) ((o 5) 0) ((o 6) 0) ((o 7) 0)))))))] ++ (zbat cs (o 4) S0 ++ (zbat cs (o 5) S1 ++ (zbat cs (o 6) S2 ++ (zbat cs (o 7) S3 ++ [(ou, .inl (cs 2, 1, .inr (.inl (zAL gu))))]))))))))) (zQk 1) zXN 1 6 (fun _ => False) := by
  refine vx_ofWH (cc := cL_undo) (maxL := 3) (ret := (some .int)) (hh := [(0, 8, 11, 77)]) (by decide +kernel) rfl ?_
  intro p e s m args below meth c s₁ B hml hv
  obtain ⟨rfl, ⟨⟨hP, hK, hD0, hN⟩, hX⟩, hC⟩ := hv
  have hx := B.exec
  have hb := B.bytes
  have hr := B.returns
  have hts := atoms_spec (ws := wsL_undo) B.pre
  have hown : s.vm.findClass RL = some m.cls := findClass_of_methodNamed B.named
  have hlocks := B.notSynchronized
  have hX : zXF s s.heap := hX
  have hS : va_S (fun _ => False) s.heap s.heap [] := va_S.rf
  have hD := hD0
  have hP : va_P D vwCl ([((o 0) 0, .inr (5, [.ref ((o 1) 0), .ref ((o 2) 0), .ref ((o 3) 0), .ref ((o 8) 0)]))] ++ (zbat cs (o 1) A ++ ([((o 3) 0, .inr (3, [.ref ((o 3) 1), .int (zI xm)])), ((o 3) 1, .inl (cs 3, 4, .inr (.inr (.inr (.inr (zR ((o 4) 0) ((o 5) 0) ((o 6) 0) ((o 7) 0)))))))] ++ (zbat cs (o 4) S0 ++ (zbat cs (o 5) S1 ++ (zbat cs (o 6) S2 ++ (zbat cs (o 7) S3 ++ [(ou, .inl (cs 2, 1, .inr (.inl (zAL gu))))]))))))) s.heap := hP
  have hl := lv_entry ([.ref ((o 0) 0), .ref ou]) (n := 3) (Nat.le_of_ble_eq_true rfl)
  rw [lg_entry_eq]
  generalize (lg_sl ([.ref ((o 0) 0), .ref ou]) ++ List.replicate (3 - (lg_sl ([.ref ((o 0) 0), .ref ou])).length) Slot.unset).toArray = ls at hl ⊢
  have hl : lv_has ls 3 [(0, .ref ((o 0) 0)), (1, .ref ou)] := hl
  refine lv_aload_n hx hb dL_undo_0 rfl (lv_at hl 1 rfl) ?_
  refine zr_iconst hx hb dL_undo_1 ?_
  refine lv_aload_n hx hb dL_undo_2 rfl (lv_at hl 0 rfl) ?_
  refine vx_calli (vx_runV (As := []) (rest := [.int (zI 0), .ref ou]) ⟨hx, hb, hml, hown, hts⟩ (met_X5_undo_x l hfl D cs o A S0 S1 S2 S3 xm kxm kno) (cwV 0 hts gL_undo_X5_undo rfl rfl rfl (by decide +kernel) ⟨(Nat.le_of_ble_eq_true rfl), (Nat.le_of_ble_eq_true rfl)⟩) ⟨zPreX.blind, va_recv hK hP (ci := 5) (q0 := 0) rfl rfl, fun U hU hW => zp_X (hP.sub (ws' := [((o 0) 0, .inr (5, [.ref ((o 1) 0), .ref ((o 2) 0), .ref ((o 3) 0), .ref ((o 8) 0)]))] ++ (zbat cs (o 1) A ++ ([((o 3) 0, .inr (3, [.ref ((o 3) 1), .int (zI xm)])), ((o 3) 1, .inl (cs 3, 4, .inr (.inr (.inr (.inr (zR ((o 4) 0) ((o 5) 0) ((o 6) 0) ((o 7) 0)))))))] ++ (zbat cs (o 4) S0 ++ (zbat cs (o 5) S1 ++ (zbat cs (o 6) S2 ++ zbat cs (o 7) S3)))))) [0, 1, 2, 3, 4, 5, 6, 7, 8, 9, 10, 11, 12, 13, 14, 15, 16, 17, 18, 19, 20, 21, 22, 23, 24, 25, 26, 27, 28, 29, 30, 31, 32, 33, 34, 35, 36, 37] rfl) hK (hD.sub (ws' := [((o 0) 0, .inr (5, [.ref ((o 1) 0), .ref ((o 2) 0), .ref ((o 3) 0), .ref ((o 8) 0)]))] ++ (zbat cs (o 1) A ++ ([((o 3) 0, .inr (3, [.ref ((o 3) 1), .int (zI xm)])), ((o 3) 1, .inl (cs 3, 4, .inr (.inr (.inr (.inr (zR ((o 4) 0) ((o 5) 0) ((o 6) 0) ((o 7) 0)))))))] ++ (zbat cs (o 4) S0 ++ (zbat cs (o 5) S1 ++ (zbat cs (o 6) S2 ++ zbat cs (o 7) S3)))))) [0, 1, 2, 3, 4, 5, 6, 7, 8, 9, 10, 11, 12, 13, 14, 15, 16, 17, 18, 19, 20, 21, 22, 23, 24, 25, 26, 27, 28, 29, 30, 31, 32, 33, 34, 35, 36, 37] (by decide) rfl) hN hX hU hW⟩ rfl rfl hl.1 rfl (lv_room (Nat.le_of_ble_eq_true rfl)) dL_undo_3 ⟨(Nat.le_of_ble_eq_true rfl), (Nat.le_of_ble_eq_true rfl)⟩) hS (fun _ _ h => h) (fun _ h => h) (fun _ _ h => h) ?_ (fun r u t H1 locs1 ht hvm hp9 _ _ _ _ => hp9.elim)
  intro E ce q9 u t H1 locs1 ht hvm hp9 hE hz hk hS1 hcell hv9 hcl
  have hE : E = "java/lang/IllegalStateException" := hE
  subst hE
  refine vx_catch (own := RL) (name := "java/lang/IllegalStateException") hown [] { startPc := 0, endPc := 8, handlerPc := 11, catchType := 77 } [] ((vx_table (x := yL_undo) B (hts _ List.mem_cons_self)).trans rfl) (fun z hz => by cases hz) (by decide) (by decide) (hts (.classLink RL 77 "java/lang/IllegalStateException") (by decide +kernel)) (va_Nw.use rfl (hX.1.1 (.castable "java/lang/IllegalStateException" "java/lang/IllegalStateException") (by decide +kernel))) hcell hv9 hcl ?_
  refine lv_astore_n (lv' := [(2, .ref q9), (0, .ref ((o 0) 0)), (1, .ref ou)]) hx hb dL_undo_11 rfl hl (by decide) rfl (fun ls hl => ?_)
  refine zr_iconst hx hb dL_undo_12 ?_
  refine vx_ret ?_
  exact W.iret hx hb hr (fun t ht hW => ⟨⟨_, (), rfl, rfl, trivial⟩, hS1.F ht⟩) hS1.2.2 dL_undo_13
