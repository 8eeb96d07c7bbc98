/-! the law: its wrappers -/
set_option maxHeartbeats 4000000 in
set_option maxRecDepth 100000 in
theorem met_L_measure_ok (l : Launch) (D : va_G) (cs : Nat → ClassId) (o : Nat → Nat → Nat) (ou : Nat) (gu : Int → Int) (sz : Nat) (A S0 S1 S2 S3 : Int → Int) (xm : Int) (n : Int) (xi : Int) (xv : Int) (xt : Int) (hI : zOK n A) (hn : 0 ≤ n ∧ n ≤ 3100000) (kn9 : n ≤ 3099900) (kxm : 0 ≤ xm ∧ xm ≤ 4) (rxi : -2147483648 ≤ xi ∧ xi ≤ 2147483647) (rxv : -2147483648 ≤ xv ∧ xv ≤ 2147483647) (rxt : -2147483648 ≤ xt ∧ xt ≤ 2147483647) (kok : (-50000 ≤ xi ∧ xi ≤ 50000) ∧ (0 ≤ xv ∧ xv ≤ 6000) ∧ 1 ≤ xt ∧ xt ≤ 600) : vx_Met l yL_measure wsL_measure ({ frames := 6, cells := 0, slots := 0, locals := 146 }) (va_Pc [.ref ((o 0) 0), .int (zI xi), .int (zI xv), .int (zI xt), .ref ou] (zPreZ D (zTy cs) ([((o 0) 0, .inr (5, [.ref ((o 1) 0), .ref ((o 2) 0), .ref ((o 3) 0), .ref ((o 8) 0)]))] ++ (zbat cs (o 1) A ++ ([((o 3) 0, .inr (3, [.ref ((o 3) 1), .int (zI xm)])), ((o 3) 1, .inl (cs 3, 4, .inr (.inr (.inr (.inr (zR ((o 4) 0) ((o 5) 0) ((o 6) 0) ((o 7) 0)))))))] ++ (zbat cs (o 4) S0 ++ (zbat cs (o 5) S1 ++ (zbat cs (o 6) S2 ++ (zbat cs (o 7) S3 ++ [(ou, .inl (cs 2, 1, .inr (.inl (zAL gu))))]))))))) sz)) (zQi D ([((o 0) 0, .inr (5, [.ref ((o 1) 0), .ref ((o 2) 0), .ref ((o 3) 0), .ref ((o 8) 0)]))] ++ (zbat cs (o 1) A ++ ([((o 3) 0, .inr (3, [.ref ((o 3) 1), .int (zI xm)])), ((o 3) 1, .inl (cs 3, 4, .inr (.inr (.inr (.inr (zR ((o 4) 0) ((o 5) 0) ((o 6) 0) ((o 7) 0)))))))] ++ (zbat cs (o 4) S0 ++ (zbat cs (o 5) S1 ++ (zbat cs (o 6) S2 ++ (zbat cs (o 7) S3 ++ [(ou, .inl (cs 2, 1, .inr (.inl (zAL gu))))]))))))) sz (zI 0) ([((o 0) 0, .inr (5, [.ref ((o 1) 0), .ref ((o 2) 0), .ref ((o 3) 0), .ref ((o 8) 0)]))] ++ (zbat cs (o 1) (zTr A xi xv xt) ++ ([((o 3) 0, .inr (3, [.ref ((o 3) 1), .int (zI (zm4 xm))])), ((o 3) 1, .inl (cs 3, 4, .inr (.inr (.inr (.inr (zR ((zq4 xm (o 5) (o 4)) 0) ((zq4 xm (o 6) (o 5)) 0) ((zq4 xm (o 7) (o 6)) 0) ((zq4 xm (o 4) (o 7)) 0)))))))] ++ (zbat cs (zq4 xm (o 5) (o 4)) (zs4 xm 0 A S0 S1) ++ (zbat cs (zq4 xm (o 6) (o 5)) (zs4 xm 1 A S1 S2) ++ (zbat cs (zq4 xm (o 7) (o 6)) (zs4 xm 2 A S2 S3) ++ (zbat cs (zq4 xm (o 4) (o 7)) (zs4 xm 3 A S3 A) ++ [(ou, .inl (cs 2, 1, .inr (.inl (zAL (zU gu 0 (zW (zBits A xi xv xt)))))))])))))))) zXN 0 0 (va_A ([((o 0) 0, .inr (5, [.ref ((o 1) 0), .ref ((o 2) 0), .ref ((o 3) 0), .ref ((o 8) 0)]))] ++ (zbat cs (o 1) A ++ ([((o 3) 0, .inr (3, [.ref ((o 3) 1), .int (zI xm)])), ((o 3) 1, .inl (cs 3, 4, .inr (.inr (.inr (.inr (zR ((o 4) 0) ((o 5) 0) ((o 6) 0) ((o 7) 0)))))))] ++ (zbat cs (o 4) S0 ++ (zbat cs (o 5) S1 ++ (zbat cs (o 6) S2 ++ (zbat cs (o 7) S3 ++ [(ou, .inl (cs 2, 1, .inr (.inl (zAL gu))))]))))))) sz) := by
  refine vx_ofWH (cc := cL_measure) (maxL := 6) (ret := (some .int)) (hh := [(0, 12, 15, 13)]) (by decide +kernel) rfl ?_
  intro p e s m args below meth c s₁ B hml hv
  obtain ⟨rfl, hsz, hP, hK, hD0, hN⟩ := hv
  have hx := B.exec
  have hb := B.bytes
  have hr := B.returns
  have hts := atoms_spec (ws := wsL_measure) B.pre
  have hown : s.vm.findClass RL = some m.cls := findClass_of_methodNamed B.named
  have hlocks := B.notSynchronized
  subst hsz
  obtain ⟨A0, hAe⟩ : ∃ A0, A0 = va_A ([((o 0) 0, .inr (5, [.ref ((o 1) 0), .ref ((o 2) 0), .ref ((o 3) 0), .ref ((o 8) 0)]))] ++ (zbat cs (o 1) A ++ ([((o 3) 0, .inr (3, [.ref ((o 3) 1), .int (zI xm)])), ((o 3) 1, .inl (cs 3, 4, .inr (.inr (.inr (.inr (zR ((o 4) 0) ((o 5) 0) ((o 6) 0) ((o 7) 0)))))))] ++ (zbat cs (o 4) S0 ++ (zbat cs (o 5) S1 ++ (zbat cs (o 6) S2 ++ (zbat cs (o 7) S3 ++ [(ou, .inl (cs 2, 1, .inr (.inl (zAL gu))))]))))))) s.heap.size := ⟨_, rfl⟩
  have hD := hD0.self (sz := s.heap.size)
  rw [← hAe] at hD
  have hA : ∀ q : Nat, s.heap.size ≤ q → A0 q := fun q h => by rw [hAe]; exact Or.inr h
  have hS : va_S A0 s.heap s.heap [] := va_S.rf
  have hP : va_P D vwCl ([((o 0) 0, .inr (5, [.ref ((o 1) 0), .ref ((o 2) 0), .ref ((o 3) 0), .ref ((o 8) 0)]))] ++ (zbat cs (o 1) A ++ ([((o 3) 0, .inr (3, [.ref ((o 3) 1), .int (zI xm)])), ((o 3) 1, .inl (cs 3, 4, .inr (.inr (.inr (.inr (zR ((o 4) 0) ((o 5) 0) ((o 6) 0) ((o 7) 0)))))))] ++ (zbat cs (o 4) S0 ++ (zbat cs (o 5) S1 ++ (zbat cs (o 6) S2 ++ (zbat cs (o 7) S3 ++ [(ou, .inl (cs 2, 1, .inr (.inl (zAL gu))))]))))))) s.heap := hP
  have hl := lv_entry ([.ref ((o 0) 0), .int (zI xi), .int (zI xv), .int (zI xt), .ref ou]) (n := 6) (Nat.le_of_ble_eq_true rfl)
  rw [lg_entry_eq]
  generalize (lg_sl ([.ref ((o 0) 0), .int (zI xi), .int (zI xv), .int (zI xt), .ref ou]) ++ List.replicate (6 - (lg_sl ([.ref ((o 0) 0), .int (zI xi), .int (zI xv), .int (zI xt), .ref ou])).length) Slot.unset).toArray = ls at hl ⊢
  have hl : lv_has ls 6 [(0, .ref ((o 0) 0)), (1, .int (zI xi)), (2, .int (zI xv)), (3, .int (zI xt)), (4, .ref ou)] := hl
  refine lv_aload hx hb dL_measure_0 (lv_at hl 4 rfl) ?_
  refine zr_iconst hx hb dL_measure_2 ?_
  refine lv_aload_n hx hb dL_measure_3 rfl (lv_at hl 0 rfl) ?_
  refine lv_iload_n hx hb dL_measure_4 rfl (lv_at hl 1 rfl) ?_
  refine lv_iload_n hx hb dL_measure_5 rfl (lv_at hl 2 rfl) ?_
  refine lv_iload_n hx hb dL_measure_6 rfl (lv_at hl 3 rfl) ?_
  refine zc_ij (w := [((o 0) 0, .inr (5, [.ref ((o 1) 0), .ref ((o 2) 0), .ref ((o 3) 0), .ref ((o 8) 0)]))] ++ (zbat cs (o 1) A ++ ([((o 3) 0, .inr (3, [.ref ((o 3) 1), .int (zI xm)])), ((o 3) 1, .inl (cs 3, 4, .inr (.inr (.inr (.inr (zR ((o 4) 0) ((o 5) 0) ((o 6) 0) ((o 7) 0)))))))] ++ (zbat cs (o 4) S0 ++ (zbat cs (o 5) S1 ++ (zbat cs (o 6) S2 ++ zbat cs (o 7) S3)))))) (wr := [(ou, .inl (cs 2, 1, .inr (.inl (zAL gu))))]) (va_runV (As := [.int (zI xi), .int (zI xv), .int (zI xt)]) (rest := [.int (zI 0), .ref ou]) ⟨hx, hb, hml, hown, hts⟩ (met_X5_measure_ok l D cs o s.heap.size A S0 S1 S2 S3 xm n xi xv xt hI hn kn9 kxm rxi rxv rxt kok) (cwV 3 hts gL_measure_X5_measure rfl rfl rfl (by decide +kernel) ⟨(Nat.le_of_ble_eq_true rfl), (Nat.le_of_ble_eq_true rfl)⟩) ⟨zPreZ.blind, va_recv hK hP (ci := 5) (q0 := 0) rfl rfl, fun U hU hW => zp_Z (hP.sub (ws' := [((o 0) 0, .inr (5, [.ref ((o 1) 0), .ref ((o 2) 0), .ref ((o 3) 0), .ref ((o 8) 0)]))] ++ (zbat cs (o 1) A ++ ([((o 3) 0, .inr (3, [.ref ((o 3) 1), .int (zI xm)])), ((o 3) 1, .inl (cs 3, 4, .inr (.inr (.inr (.inr (zR ((o 4) 0) ((o 5) 0) ((o 6) 0) ((o 7) 0)))))))] ++ (zbat cs (o 4) S0 ++ (zbat cs (o 5) S1 ++ (zbat cs (o 6) S2 ++ zbat cs (o 7) S3)))))) [0, 1, 2, 3, 4, 5, 6, 7, 8, 9, 10, 11, 12, 13, 14, 15, 16, 17, 18, 19, 20, 21, 22, 23, 24, 25, 26, 27, 28, 29, 30, 31, 32, 33, 34, 35, 36, 37] rfl) hK (hD.sub (ws' := [((o 0) 0, .inr (5, [.ref ((o 1) 0), .ref ((o 2) 0), .ref ((o 3) 0), .ref ((o 8) 0)]))] ++ (zbat cs (o 1) A ++ ([((o 3) 0, .inr (3, [.ref ((o 3) 1), .int (zI xm)])), ((o 3) 1, .inl (cs 3, 4, .inr (.inr (.inr (.inr (zR ((o 4) 0) ((o 5) 0) ((o 6) 0) ((o 7) 0)))))))] ++ (zbat cs (o 4) S0 ++ (zbat cs (o 5) S1 ++ (zbat cs (o 6) S2 ++ zbat cs (o 7) S3)))))) [0, 1, 2, 3, 4, 5, 6, 7, 8, 9, 10, 11, 12, 13, 14, 15, 16, 17, 18, 19, 20, 21, 22, 23, 24, 25, 26, 27, 28, 29, 30, 31, 32, 33, 34, 35, 36, 37] (by decide) rfl) hN hU hW⟩ rfl rfl hl.1 rfl (lv_room (Nat.le_of_ble_eq_true rfl)) dL_measure_7 ⟨(Nat.le_of_ble_eq_true rfl), (Nat.le_of_ble_eq_true rfl)⟩) hS hP hD hA [0, 1, 2, 3, 4, 5, 6, 7, 8, 9, 10, 11, 12, 13, 14, 15, 16, 17, 18, 19, 20, 21, 22, 23, 24, 25, 26, 27, 28, 29, 30, 31, 32, 33, 34, 35, 36, 37] [38] rfl rfl (by decide) (by decide) (fun H locs hP hD hS => ?_)
  have hP : va_P D vwCl ([((o 0) 0, .inr (5, [.ref ((o 1) 0), .ref ((o 2) 0), .ref ((o 3) 0), .ref ((o 8) 0)]))] ++ (zbat cs (o 1) (zTr A xi xv xt) ++ ([((o 3) 0, .inr (3, [.ref ((o 3) 1), .int (zI (zm4 xm))])), ((o 3) 1, .inl (cs 3, 4, .inr (.inr (.inr (.inr (zR ((zq4 xm (o 5) (o 4)) 0) ((zq4 xm (o 6) (o 5)) 0) ((zq4 xm (o 7) (o 6)) 0) ((zq4 xm (o 4) (o 7)) 0)))))))] ++ (zbat cs (zq4 xm (o 5) (o 4)) (zs4 xm 0 A S0 S1) ++ (zbat cs (zq4 xm (o 6) (o 5)) (zs4 xm 1 A S1 S2) ++ (zbat cs (zq4 xm (o 7) (o 6)) (zs4 xm 2 A S2 S3) ++ (zbat cs (zq4 xm (o 4) (o 7)) (zs4 xm 3 A S3 A) ++ [(ou, .inl (cs 2, 1, .inr (.inl (zAL gu))))]))))))) H := hP.sub (ws' := [((o 0) 0, .inr (5, [.ref ((o 1) 0), .ref ((o 2) 0), .ref ((o 3) 0), .ref ((o 8) 0)]))] ++ (zbat cs (o 1) (zTr A xi xv xt) ++ ([((o 3) 0, .inr (3, [.ref ((o 3) 1), .int (zI (zm4 xm))])), ((o 3) 1, .inl (cs 3, 4, .inr (.inr (.inr (.inr (zR ((zq4 xm (o 5) (o 4)) 0) ((zq4 xm (o 6) (o 5)) 0) ((zq4 xm (o 7) (o 6)) 0) ((zq4 xm (o 4) (o 7)) 0)))))))] ++ (zbat cs (zq4 xm (o 5) (o 4)) (zs4 xm 0 A S0 S1) ++ (zbat cs (zq4 xm (o 6) (o 5)) (zs4 xm 1 A S1 S2) ++ (zbat cs (zq4 xm (o 7) (o 6)) (zs4 xm 2 A S2 S3) ++ (zbat cs (zq4 xm (o 4) (o 7)) (zs4 xm 3 A S3 A) ++ [(ou, .inl (cs 2, 1, .inr (.inl (zAL gu))))]))))))) [1, 2, 3, 4, 5, 6, 7, 8, 9, 10, 11, 12, 13, 14, 15, 16, 17, 18, 19, 20, 21, 22, 23, 24, 25, 26, 27, 28, 29, 30, 31, 32, 33, 34, 35, 36, 37, 38, 0] rfl
  have hD : va_D A0 ([((o 0) 0, .inr (5, [.ref ((o 1) 0), .ref ((o 2) 0), .ref ((o 3) 0), .ref ((o 8) 0)]))] ++ (zbat cs (o 1) (zTr A xi xv xt) ++ ([((o 3) 0, .inr (3, [.ref ((o 3) 1), .int (zI (zm4 xm))])), ((o 3) 1, .inl (cs 3, 4, .inr (.inr (.inr (.inr (zR ((zq4 xm (o 5) (o 4)) 0) ((zq4 xm (o 6) (o 5)) 0) ((zq4 xm (o 7) (o 6)) 0) ((zq4 xm (o 4) (o 7)) 0)))))))] ++ (zbat cs (zq4 xm (o 5) (o 4)) (zs4 xm 0 A S0 S1) ++ (zbat cs (zq4 xm (o 6) (o 5)) (zs4 xm 1 A S1 S2) ++ (zbat cs (zq4 xm (o 7) (o 6)) (zs4 xm 2 A S2 S3) ++ (zbat cs (zq4 xm (o 4) (o 7)) (zs4 xm 3 A S3 A) ++ [(ou, .inl (cs 2, 1, .inr (.inl (zAL gu))))]))))))) := hD.sub (ws' := [((o 0) 0, .inr (5, [.ref ((o 1) 0), .ref ((o 2) 0), .ref ((o 3) 0), .ref ((o 8) 0)]))] ++ (zbat cs (o 1) (zTr A xi xv xt) ++ ([((o 3) 0, .inr (3, [.ref ((o 3) 1), .int (zI (zm4 xm))])), ((o 3) 1, .inl (cs 3, 4, .inr (.inr (.inr (.inr (zR ((zq4 xm (o 5) (o 4)) 0) ((zq4 xm (o 6) (o 5)) 0) ((zq4 xm (o 7) (o 6)) 0) ((zq4 xm (o 4) (o 7)) 0)))))))] ++ (zbat cs (zq4 xm (o 5) (o 4)) (zs4 xm 0 A S0 S1) ++ (zbat cs (zq4 xm (o 6) (o 5)) (zs4 xm 1 A S1 S2) ++ (zbat cs (zq4 xm (o 7) (o 6)) (zs4 xm 2 A S2 S3) ++ (zbat cs (zq4 xm (o 4) (o 7)) (zs4 xm 3 A S3 A) ++ [(ou, .inl (cs 2, 1, .inr (.inl (zAL gu))))]))))))) [1, 2, 3, 4, 5, 6, 7, 8, 9, 10, 11, 12, 13, 14, 15, 16, 17, 18, 19, 20, 21, 22, 23, 24, 25, 26, 27, 28, 29, 30, 31, 32, 33, 34, 35, 36, 37, 38, 0] (by decide) rfl
  refine lv_i2l hx hb dL_measure_10 (zW_l (zBits A xi xv xt)) ?_
  refine zr_last (D := D) (g := gu) hx hb hK hP hD hS 38 2 rfl rfl (by decide) (by decide) dL_measure_11 (fun H locs hP hD hS => ?_)
  have hP9 : va_P D vwCl ([((o 0) 0, .inr (5, [.ref ((o 1) 0), .ref ((o 2) 0), .ref ((o 3) 0), .ref ((o 8) 0)]))] ++ (zbat cs (o 1) (zTr A xi xv xt) ++ ([((o 3) 0, .inr (3, [.ref ((o 3) 1), .int (zI (zm4 xm))])), ((o 3) 1, .inl (cs 3, 4, .inr (.inr (.inr (.inr (zR ((zq4 xm (o 5) (o 4)) 0) ((zq4 xm (o 6) (o 5)) 0) ((zq4 xm (o 7) (o 6)) 0) ((zq4 xm (o 4) (o 7)) 0)))))))] ++ (zbat cs (zq4 xm (o 5) (o 4)) (zs4 xm 0 A S0 S1) ++ (zbat cs (zq4 xm (o 6) (o 5)) (zs4 xm 1 A S1 S2) ++ (zbat cs (zq4 xm (o 7) (o 6)) (zs4 xm 2 A S2 S3) ++ (zbat cs (zq4 xm (o 4) (o 7)) (zs4 xm 3 A S3 A) ++ [(ou, .inl (cs 2, 1, .inr (.inl (zAL (zU gu 0 (zW (zBits A xi xv xt)))))))]))))))) H := hP
  have hD9 : va_D A0 ([((o 0) 0, .inr (5, [.ref ((o 1) 0), .ref ((o 2) 0), .ref ((o 3) 0), .ref ((o 8) 0)]))] ++ (zbat cs (o 1) (zTr A xi xv xt) ++ ([((o 3) 0, .inr (3, [.ref ((o 3) 1), .int (zI (zm4 xm))])), ((o 3) 1, .inl (cs 3, 4, .inr (.inr (.inr (.inr (zR ((zq4 xm (o 5) (o 4)) 0) ((zq4 xm (o 6) (o 5)) 0) ((zq4 xm (o 7) (o 6)) 0) ((zq4 xm (o 4) (o 7)) 0)))))))] ++ (zbat cs (zq4 xm (o 5) (o 4)) (zs4 xm 0 A S0 S1) ++ (zbat cs (zq4 xm (o 6) (o 5)) (zs4 xm 1 A S1 S2) ++ (zbat cs (zq4 xm (o 7) (o 6)) (zs4 xm 2 A S2 S3) ++ (zbat cs (zq4 xm (o 4) (o 7)) (zs4 xm 3 A S3 A) ++ [(ou, .inl (cs 2, 1, .inr (.inl (zAL (zU gu 0 (zW (zBits A xi xv xt)))))))]))))))) := zD_addr hD rfl
  refine lv_goto (tgt := 19) hx hb dL_measure_12 (by decide) ?_
  refine zr_iconst hx hb dL_measure_19 ?_
  refine vx_ret ?_
  rw [hAe] at hD9 hS
  exact W.iret hx hb hr (fun t ht hW => ⟨⟨_, (), rfl, rfl, by rw [ht]; exact hP9, hD9⟩, hS.F ht⟩) hS.2.2 dL_measure_20
set_option maxHeartbeats 4000000 in
set_option maxRecDepth 100000 in
theorem met_L_measure_x (l : Launch) (hfl : l.stackTraces = false) (D : va_G) (cs : Nat → ClassId) (o : Nat → Nat → Nat) (ou : Nat) (gu : Int → Int) (A S0 S1 S2 S3 : Int → Int) (xm : Int) (xi : Int) (xv : Int) (xt : Int) (rxi : -2147483648 ≤ xi ∧ xi ≤ 2147483647) (rxv : -2147483648 ≤ xv ∧ xv ≤ 2147483647) (rxt : -2147483648 ≤ xt ∧ xt ≤ 2147483647) (kno : ¬ ((-50000 ≤ xi ∧ xi ≤ 50000) ∧ (0 ≤ xv ∧ xv ≤ 6000) ∧ 1 ≤ xt ∧ xt ≤ 600)) : vx_Met l yL_measure wsL_measure ({ frames := 8, cells := 1, slots := 6, locals := 127 }) (va_Pc [.ref ((o 0) 0), .int (zI xi), .int (zI xv), .int (zI xt), .ref ou] (zPreU D (zTy cs) ([((o 0) 0, .inr (5, [.ref ((o 1) 0), .ref ((o 2) 0), .ref ((o 3) 0), .ref ((o 8) 0)]))] ++ (zbat cs (o 1) A ++ ([((o 3) 0, .inr (3, [.ref ((o 3) 1), .int (zI xm)])), ((o 3) 1, .inl (cs 3, 4, .inr (.inr (.inr (.inr (zR ((o 4) 0) ((o 5) 0) ((o 6) 0) ((o 7) 0)))))))] ++ (zbat cs (o 4) S0 ++ (zbat cs (o 5) S1 ++ (zbat cs (o 6) S2 ++ (zbat cs (o 7) S3 ++ [(ou, .inl (cs 2, 1, .inr (.inl (zAL gu))))]))))))))) (zQk 1) zXN 1 6 (fun _ => False) := by
  refine vx_ofWH (cc := cL_measure) (maxL := 6) (ret := (some .int)) (hh := [(0, 12, 15, 13)]) (by decide +kernel) rfl ?_
  intro p e s m args below meth c s₁ B hml hv
  obtain ⟨rfl, ⟨⟨hP, hK, hD0, hN⟩, hX⟩, hC⟩ := hv
  have hx := B.exec
  have hb := B.bytes
  have hr := B.returns
  have hts := atoms_spec (ws := wsL_measure) B.pre
  have hown : s.vm.findClass RL = some m.cls := findClass_of_methodNamed B.named
  have hlocks := B.notSynchronized
  have hX : zXF s s.heap := hX
  have hS : va_S (fun _ => False) s.heap s.heap [] := va_S.rf
  have hD := hD0
  have hP : va_P D vwCl ([((o 0) 0, .inr (5, [.ref ((o 1) 0), .ref ((o 2) 0), .ref ((o 3) 0), .ref ((o 8) 0)]))] ++ (zbat cs (o 1) A ++ ([((o 3) 0, .inr (3, [.ref ((o 3) 1), .int (zI xm)])), ((o 3) 1, .inl (cs 3, 4, .inr (.inr (.inr (.inr (zR ((o 4) 0) ((o 5) 0) ((o 6) 0) ((o 7) 0)))))))] ++ (zbat cs (o 4) S0 ++ (zbat cs (o 5) S1 ++ (zbat cs (o 6) S2 ++ (zbat cs (o 7) S3 ++ [(ou, .inl (cs 2, 1, .inr (.inl (zAL gu))))]))))))) s.heap := hP
  have hl := lv_entry ([.ref ((o 0) 0), .int (zI xi), .int (zI xv), .int (zI xt), .ref ou]) (n := 6) (Nat.le_of_ble_eq_true rfl)
  rw [lg_entry_eq]
  generalize (lg_sl ([.ref ((o 0) 0), .int (zI xi), .int (zI xv), .int (zI xt), .ref ou]) ++ List.replicate (6 - (lg_sl ([.ref ((o 0) 0), .int (zI xi), .int (zI xv), .int (zI xt), .ref ou])).length) Slot.unset).toArray = ls at hl ⊢
  have hl : lv_has ls 6 [(0, .ref ((o 0) 0)), (1, .int (zI xi)), (2, .int (zI xv)), (3, .int (zI xt)), (4, .ref ou)] := hl
  refine lv_aload hx hb dL_measure_0 (lv_at hl 4 rfl) ?_
  refine zr_iconst hx hb dL_measure_2 ?_
  refine lv_aload_n hx hb dL_measure_3 rfl (lv_at hl 0 rfl) ?_
  refine lv_iload_n hx hb dL_measure_4 rfl (lv_at hl 1 rfl) ?_
  refine lv_iload_n hx hb dL_measure_5 rfl (lv_at hl 2 rfl) ?_
  refine lv_iload_n hx hb dL_measure_6 rfl (lv_at hl 3 rfl) ?_
  refine vx_calli (vx_runV (As := [.int (zI xi), .int (zI xv), .int (zI xt)]) (rest := [.int (zI 0), .ref ou]) ⟨hx, hb, hml, hown, hts⟩ (met_X5_measure_x l hfl D cs o A S0 S1 S2 S3 xm xi xv xt rxi rxv rxt kno) (cwV 3 hts gL_measure_X5_measure rfl rfl rfl (by decide +kernel) ⟨(Nat.le_of_ble_eq_true rfl), (Nat.le_of_ble_eq_true rfl)⟩) ⟨zPreX.blind, va_recv hK hP (ci := 5) (q0 := 0) rfl rfl, fun U hU hW => zp_X (hP.sub (ws' := [((o 0) 0, .inr (5, [.ref ((o 1) 0), .ref ((o 2) 0), .ref ((o 3) 0), .ref ((o 8) 0)]))] ++ (zbat cs (o 1) A ++ ([((o 3) 0, .inr (3, [.ref ((o 3) 1), .int (zI xm)])), ((o 3) 1, .inl (cs 3, 4, .inr (.inr (.inr (.inr (zR ((o 4) 0) ((o 5) 0) ((o 6) 0) ((o 7) 0)))))))] ++ (zbat cs (o 4) S0 ++ (zbat cs (o 5) S1 ++ (zbat cs (o 6) S2 ++ zbat cs (o 7) S3)))))) [0, 1, 2, 3, 4, 5, 6, 7, 8, 9, 10, 11, 12, 13, 14, 15, 16, 17, 18, 19, 20, 21, 22, 23, 24, 25, 26, 27, 28, 29, 30, 31, 32, 33, 34, 35, 36, 37] rfl) hK (hD.sub (ws' := [((o 0) 0, .inr (5, [.ref ((o 1) 0), .ref ((o 2) 0), .ref ((o 3) 0), .ref ((o 8) 0)]))] ++ (zbat cs (o 1) A ++ ([((o 3) 0, .inr (3, [.ref ((o 3) 1), .int (zI xm)])), ((o 3) 1, .inl (cs 3, 4, .inr (.inr (.inr (.inr (zR ((o 4) 0) ((o 5) 0) ((o 6) 0) ((o 7) 0)))))))] ++ (zbat cs (o 4) S0 ++ (zbat cs (o 5) S1 ++ (zbat cs (o 6) S2 ++ zbat cs (o 7) S3)))))) [0, 1, 2, 3, 4, 5, 6, 7, 8, 9, 10, 11, 12, 13, 14, 15, 16, 17, 18, 19, 20, 21, 22, 23, 24, 25, 26, 27, 28, 29, 30, 31, 32, 33, 34, 35, 36, 37] (by decide) rfl) hN hX hU hW⟩ rfl rfl hl.1 rfl (lv_room (Nat.le_of_ble_eq_true rfl)) dL_measure_7 ⟨(Nat.le_of_ble_eq_true rfl), (Nat.le_of_ble_eq_true rfl)⟩) hS (fun _ _ h => h) (fun _ h => h) (fun _ _ h => h) ?_ (fun r u t H1 locs1 ht hvm hp9 _ _ _ _ => hp9.elim)
  intro E ce q9 u t H1 locs1 ht hvm hp9 hE hz hk hS1 hcell hv9 hcl
  have hE : E = "java/lang/IllegalArgumentException" := hE
  subst hE
  refine vx_catch (own := RL) (name := "java/lang/IllegalArgumentException") hown [] { startPc := 0, endPc := 12, handlerPc := 15, catchType := 13 } [] ((vx_table (x := yL_measure) B (hts _ List.mem_cons_self)).trans rfl) (fun z hz => by cases hz) (by decide) (by decide) (hts (.classLink RL 13 "java/lang/IllegalArgumentException") (by decide +kernel)) (va_Nw.use rfl (hX.1.1 (.castable "java/lang/IllegalArgumentException" "java/lang/IllegalArgumentException") (by decide +kernel))) hcell hv9 hcl ?_
  refine lv_astore (lv' := [(5, .ref q9), (0, .ref ((o 0) 0)), (1, .int (zI xi)), (2, .int (zI xv)), (3, .int (zI xt)), (4, .ref ou)]) hx hb dL_measure_15 hl (by decide) rfl (fun ls hl => ?_)
  refine zr_iconst hx hb dL_measure_17 ?_
  refine vx_ret ?_
  exact W.iret hx hb hr (fun t ht hW => ⟨⟨_, (), rfl, rfl, trivial⟩, hS1.F ht⟩) hS1.2.2 dL_measure_18
set_option maxHeartbeats 4000000 in
set_option maxRecDepth 100000 in
theorem met_L_repeat_ok (l : Launch) (D : va_G) (cs : Nat → ClassId) (o : Nat → Nat → Nat) (ou : Nat) (gu : Int → Int) (sz : Nat) (A S0 S1 S2 S3 : Int → Int) (xm : Int) (n : Int) (xi : Int) (xv : Int) (xt : Int) (xn : Int) (hI : zOK n A) (hn : 0 ≤ n ∧ n ≤ 3100000) (kn6 : n ≤ 3090000) (kxm : 0 ≤ xm ∧ xm ≤ 4) (rxi : -2147483648 ≤ xi ∧ xi ≤ 2147483647) (rxv : -2147483648 ≤ xv ∧ xv ≤ 2147483647) (rxt : -2147483648 ≤ xt ∧ xt ≤ 2147483647) (rxn : -2147483648 ≤ xn ∧ xn ≤ 2147483647) (kok : ((-50000 ≤ xi ∧ xi ≤ 50000) ∧ (0 ≤ xv ∧ xv ≤ 6000) ∧ 1 ≤ xt ∧ xt ≤ 600) ∧ 0 ≤ xn ∧ xn ≤ 500) : vx_Met l yL_repeat wsL_repeat ({ frames := 6, cells := 0, slots := 0, locals := 149 }) (va_Pc [.ref ((o 0) 0), .int (zI xi), .int (zI xv), .int (zI xt), .int (zI xn), .ref ou] (zPreZ D (zTy cs) ([((o 0) 0, .inr (5, [.ref ((o 1) 0), .ref ((o 2) 0), .ref ((o 3) 0), .ref ((o 8) 0)]))] ++ (zbat cs (o 1) A ++ ([((o 3) 0, .inr (3, [.ref ((o 3) 1), .int (zI xm)])), ((o 3) 1, .inl (cs 3, 4, .inr (.inr (.inr (.inr (zR ((o 4) 0) ((o 5) 0) ((o 6) 0) ((o 7) 0)))))))] ++ (zbat cs (o 4) S0 ++ (zbat cs (o 5) S1 ++ (zbat cs (o 6) S2 ++ (zbat cs (o 7) S3 ++ [(ou, .inl (cs 2, 1, .inr (.inl (zAL gu))))]))))))) sz)) (zQi D ([((o 0) 0, .inr (5, [.ref ((o 1) 0), .ref ((o 2) 0), .ref ((o 3) 0), .ref ((o 8) 0)]))] ++ (zbat cs (o 1) A ++ ([((o 3) 0, .inr (3, [.ref ((o 3) 1), .int (zI xm)])), ((o 3) 1, .inl (cs 3, 4, .inr (.inr (.inr (.inr (zR ((o 4) 0) ((o 5) 0) ((o 6) 0) ((o 7) 0)))))))] ++ (zbat cs (o 4) S0 ++ (zbat cs (o 5) S1 ++ (zbat cs (o 6) S2 ++ (zbat cs (o 7) S3 ++ [(ou, .inl (cs 2, 1, .inr (.inl (zAL gu))))]))))))) sz (zI 0) ([((o 0) 0, .inr (5, [.ref ((o 1) 0), .ref ((o 2) 0), .ref ((o 3) 0), .ref ((o 8) 0)]))] ++ (zbat cs (o 1) (zRp A xi xv xt xn.toNat) ++ ([((o 3) 0, .inr (3, [.ref ((o 3) 1), .int (zI (zm4 xm))])), ((o 3) 1, .inl (cs 3, 4, .inr (.inr (.inr (.inr (zR ((zq4 xm (o 5) (o 4)) 0) ((zq4 xm (o 6) (o 5)) 0) ((zq4 xm (o 7) (o 6)) 0) ((zq4 xm (o 4) (o 7)) 0)))))))] ++ (zbat cs (zq4 xm (o 5) (o 4)) (zs4 xm 0 A S0 S1) ++ (zbat cs (zq4 xm (o 6) (o 5)) (zs4 xm 1 A S1 S2) ++ (zbat cs (zq4 xm (o 7) (o 6)) (zs4 xm 2 A S2 S3) ++ (zbat cs (zq4 xm (o 4) (o 7)) (zs4 xm 3 A S3 A) ++ [(ou, .inl (cs 2, 1, .inr (.inl (zAL (zU gu 0 (zW (zRc A xi xv xt xn.toNat)))))))])))))))) zXN 0 0 (va_A ([((o 0) 0, .inr (5, [.ref ((o 1) 0), .ref ((o 2) 0), .ref ((o 3) 0), .ref ((o 8) 0)]))] ++ (zbat cs (o 1) A ++ ([((o 3) 0, .inr (3, [.ref ((o 3) 1), .int (zI xm)])), ((o 3) 1, .inl (cs 3, 4, .inr (.inr (.inr (.inr (zR ((o 4) 0) ((o 5) 0) ((o 6) 0) ((o 7) 0)))))))] ++ (zbat cs (o 4) S0 ++ (zbat cs (o 5) S1 ++ (zbat cs (o 6) S2 ++ (zbat cs (o 7) S3 ++ [(ou, .inl (cs 2, 1, .inr (.inl (zAL gu))))]))))))) sz) := by
  refine vx_ofWH (cc := cL_repeat) (maxL := 7) (ret := (some .int)) (hh := [(0, 14, 17, 13)]) (by decide +kernel) rfl ?_
  intro p e s m args below meth c s₁ B hml hv
  obtain ⟨rfl, hsz, hP, hK, hD0, hN⟩ := hv
  have hx := B.exec
  have hb := B.bytes
  have hr := B.returns
  have hts := atoms_spec (ws := wsL_repeat) B.pre
  have hown : s.vm.findClass RL = some m.cls := findClass_of_methodNamed B.named
  have hlocks := B.notSynchronized
  subst hsz
  obtain ⟨A0, hAe⟩ : ∃ A0, A0 = va_A ([((o 0) 0, .inr (5, [.ref ((o 1) 0), .ref ((o 2) 0), .ref ((o 3) 0), .ref ((o 8) 0)]))] ++ (zbat cs (o 1) A ++ ([((o 3) 0, .inr (3, [.ref ((o 3) 1), .int (zI xm)])), ((o 3) 1, .inl (cs 3, 4, .inr (.inr (.inr (.inr (zR ((o 4) 0) ((o 5) 0) ((o 6) 0) ((o 7) 0)))))))] ++ (zbat cs (o 4) S0 ++ (zbat cs (o 5) S1 ++ (zbat cs (o 6) S2 ++ (zbat cs (o 7) S3 ++ [(ou, .inl (cs 2, 1, .inr (.inl (zAL gu))))]))))))) s.heap.size := ⟨_, rfl⟩
  have hD := hD0.self (sz := s.heap.size)
  rw [← hAe] at hD
  have hA : ∀ q : Nat, s.heap.size ≤ q → A0 q := fun q h => by rw [hAe]; exact Or.inr h
  have hS : va_S A0 s.heap s.heap [] := va_S.rf
  have hP : va_P D vwCl ([((o 0) 0, .inr (5, [.ref ((o 1) 0), .ref ((o 2) 0), .ref ((o 3) 0), .ref ((o 8) 0)]))] ++ (zbat cs (o 1) A ++ ([((o 3) 0, .inr (3, [.ref ((o 3) 1), .int (zI xm)])), ((o 3) 1, .inl (cs 3, 4, .inr (.inr (.inr (.inr (zR ((o 4) 0) ((o 5) 0) ((o 6) 0) ((o 7) 0)))))))] ++ (zbat cs (o 4) S0 ++ (zbat cs (o 5) S1 ++ (zbat cs (o 6) S2 ++ (zbat cs (o 7) S3 ++ [(ou, .inl (cs 2, 1, .inr (.inl (zAL gu))))]))))))) s.heap := hP
  have hl := lv_entry ([.ref ((o 0) 0), .int (zI xi), .int (zI xv), .int (zI xt), .int (zI xn), .ref ou]) (n := 7) (Nat.le_of_ble_eq_true rfl)
  rw [lg_entry_eq]
  generalize (lg_sl ([.ref ((o 0) 0), .int (zI xi), .int (zI xv), .int (zI xt), .int (zI xn), .ref ou]) ++ List.replicate (7 - (lg_sl ([.ref ((o 0) 0), .int (zI xi), .int (zI xv), .int (zI xt), .int (zI xn), .ref ou])).length) Slot.unset).toArray = ls at hl ⊢
  have hl : lv_has ls 7 [(0, .ref ((o 0) 0)), (1, .int (zI xi)), (2, .int (zI xv)), (3, .int (zI xt)), (4, .int (zI xn)), (5, .ref ou)] := hl
  refine lv_aload hx hb dL_repeat_0 (lv_at hl 5 rfl) ?_
  refine zr_iconst hx hb dL_repeat_2 ?_
  refine lv_aload_n hx hb dL_repeat_3 rfl (lv_at hl 0 rfl) ?_
  refine lv_iload_n hx hb dL_repeat_4 rfl (lv_at hl 1 rfl) ?_
  refine lv_iload_n hx hb dL_repeat_5 rfl (lv_at hl 2 rfl) ?_
  refine lv_iload_n hx hb dL_repeat_6 rfl (lv_at hl 3 rfl) ?_
  refine lv_iload hx hb dL_repeat_7 (lv_at hl 4 rfl) ?_
  refine zc_ij (w := [((o 0) 0, .inr (5, [.ref ((o 1) 0), .ref ((o 2) 0), .ref ((o 3) 0), .ref ((o 8) 0)]))] ++ (zbat cs (o 1) A ++ ([((o 3) 0, .inr (3, [.ref ((o 3) 1), .int (zI xm)])), ((o 3) 1, .inl (cs 3, 4, .inr (.inr (.inr (.inr (zR ((o 4) 0) ((o 5) 0) ((o 6) 0) ((o 7) 0)))))))] ++ (zbat cs (o 4) S0 ++ (zbat cs (o 5) S1 ++ (zbat cs (o 6) S2 ++ zbat cs (o 7) S3)))))) (wr := [(ou, .inl (cs 2, 1, .inr (.inl (zAL gu))))]) (va_runV (As := [.int (zI xi), .int (zI xv), .int (zI xt), .int (zI xn)]) (rest := [.int (zI 0), .ref ou]) ⟨hx, hb, hml, hown, hts⟩ (met_X5_repeat_ok l D cs o s.heap.size A S0 S1 S2 S3 xm n xi xv xt xn hI hn kn6 kxm rxi rxv rxt rxn kok) (cwV 4 hts gL_repeat_X5_repeat rfl rfl rfl (by decide +kernel) ⟨(Nat.le_of_ble_eq_true rfl), (Nat.le_of_ble_eq_true rfl)⟩) ⟨zPreZ.blind, va_recv hK hP (ci := 5) (q0 := 0) rfl rfl, fun U hU hW => zp_Z (hP.sub (ws' := [((o 0) 0, .inr (5, [.ref ((o 1) 0), .ref ((o 2) 0), .ref ((o 3) 0), .ref ((o 8) 0)]))] ++ (zbat cs (o 1) A ++ ([((o 3) 0, .inr (3, [.ref ((o 3) 1), .int (zI xm)])), ((o 3) 1, .inl (cs 3, 4, .inr (.inr (.inr (.inr (zR ((o 4) 0) ((o 5) 0) ((o 6) 0) ((o 7) 0)))))))] ++ (zbat cs (o 4) S0 ++ (zbat cs (o 5) S1 ++ (zbat cs (o 6) S2 ++ zbat cs (o 7) S3)))))) [0, 1, 2, 3, 4, 5, 6, 7, 8, 9, 10, 11, 12, 13, 14, 15, 16, 17, 18, 19, 20, 21, 22, 23, 24, 25, 26, 27, 28, 29, 30, 31, 32, 33, 34, 35, 36, 37] rfl) hK (hD.sub (ws' := [((o 0) 0, .inr (5, [.ref ((o 1) 0), .ref ((o 2) 0), .ref ((o 3) 0), .ref ((o 8) 0)]))] ++ (zbat cs (o 1) A ++ ([((o 3) 0, .inr (3, [.ref ((o 3) 1), .int (zI xm)])), ((o 3) 1, .inl (cs 3, 4, .inr (.inr (.inr (.inr (zR ((o 4) 0) ((o 5) 0) ((o 6) 0) ((o 7) 0)))))))] ++ (zbat cs (o 4) S0 ++ (zbat cs (o 5) S1 ++ (zbat cs (o 6) S2 ++ zbat cs (o 7) S3)))))) [0, 1, 2, 3, 4, 5, 6, 7, 8, 9, 10, 11, 12, 13, 14, 15, 16, 17, 18, 19, 20, 21, 22, 23, 24, 25, 26, 27, 28, 29, 30, 31, 32, 33, 34, 35, 36, 37] (by decide) rfl) hN hU hW⟩ rfl rfl hl.1 rfl (lv_room (Nat.le_of_ble_eq_true rfl)) dL_repeat_9 ⟨(Nat.le_of_ble_eq_true rfl), (Nat.le_of_ble_eq_true rfl)⟩) hS hP hD hA [0, 1, 2, 3, 4, 5, 6, 7, 8, 9, 10, 11, 12, 13, 14, 15, 16, 17, 18, 19, 20, 21, 22, 23, 24, 25, 26, 27, 28, 29, 30, 31, 32, 33, 34, 35, 36, 37] [38] rfl rfl (by decide) (by decide) (fun H locs hP hD hS => ?_)
  have hP : va_P D vwCl ([((o 0) 0, .inr (5, [.ref ((o 1) 0), .ref ((o 2) 0), .ref ((o 3) 0), .ref ((o 8) 0)]))] ++ (zbat cs (o 1) (zRp A xi xv xt xn.toNat) ++ ([((o 3) 0, .inr (3, [.ref ((o 3) 1), .int (zI (zm4 xm))])), ((o 3) 1, .inl (cs 3, 4, .inr (.inr (.inr (.inr (zR ((zq4 xm (o 5) (o 4)) 0) ((zq4 xm (o 6) (o 5)) 0) ((zq4 xm (o 7) (o 6)) 0) ((zq4 xm (o 4) (o 7)) 0)))))))] ++ (zbat cs (zq4 xm (o 5) (o 4)) (zs4 xm 0 A S0 S1) ++ (zbat cs (zq4 xm (o 6) (o 5)) (zs4 xm 1 A S1 S2) ++ (zbat cs (zq4 xm (o 7) (o 6)) (zs4 xm 2 A S2 S3) ++ (zbat cs (zq4 xm (o 4) (o 7)) (zs4 xm 3 A S3 A) ++ [(ou, .inl (cs 2, 1, .inr (.inl (zAL gu))))]))))))) H := hP.sub (ws' := [((o 0) 0, .inr (5, [.ref ((o 1) 0), .ref ((o 2) 0), .ref ((o 3) 0), .ref ((o 8) 0)]))] ++ (zbat cs (o 1) (zRp A xi xv xt xn.toNat) ++ ([((o 3) 0, .inr (3, [.ref ((o 3) 1), .int (zI (zm4 xm))])), ((o 3) 1, .inl (cs 3, 4, .inr (.inr (.inr (.inr (zR ((zq4 xm (o 5) (o 4)) 0) ((zq4 xm (o 6) (o 5)) 0) ((zq4 xm (o 7) (o 6)) 0) ((zq4 xm (o 4) (o 7)) 0)))))))] ++ (zbat cs (zq4 xm (o 5) (o 4)) (zs4 xm 0 A S0 S1) ++ (zbat cs (zq4 xm (o 6) (o 5)) (zs4 xm 1 A S1 S2) ++ (zbat cs (zq4 xm (o 7) (o 6)) (zs4 xm 2 A S2 S3) ++ (zbat cs (zq4 xm (o 4) (o 7)) (zs4 xm 3 A S3 A) ++ [(ou, .inl (cs 2, 1, .inr (.inl (zAL gu))))]))))))) [1, 2, 3, 4, 5, 6, 7, 8, 9, 10, 11, 12, 13, 14, 15, 16, 17, 18, 19, 20, 21, 22, 23, 24, 25, 26, 27, 28, 29, 30, 31, 32, 33, 34, 35, 36, 37, 38, 0] rfl
  have hD : va_D A0 ([((o 0) 0, .inr (5, [.ref ((o 1) 0), .ref ((o 2) 0), .ref ((o 3) 0), .ref ((o 8) 0)]))] ++ (zbat cs (o 1) (zRp A xi xv xt xn.toNat) ++ ([((o 3) 0, .inr (3, [.ref ((o 3) 1), .int (zI (zm4 xm))])), ((o 3) 1, .inl (cs 3, 4, .inr (.inr (.inr (.inr (zR ((zq4 xm (o 5) (o 4)) 0) ((zq4 xm (o 6) (o 5)) 0) ((zq4 xm (o 7) (o 6)) 0) ((zq4 xm (o 4) (o 7)) 0)))))))] ++ (zbat cs (zq4 xm (o 5) (o 4)) (zs4 xm 0 A S0 S1) ++ (zbat cs (zq4 xm (o 6) (o 5)) (zs4 xm 1 A S1 S2) ++ (zbat cs (zq4 xm (o 7) (o 6)) (zs4 xm 2 A S2 S3) ++ (zbat cs (zq4 xm (o 4) (o 7)) (zs4 xm 3 A S3 A) ++ [(ou, .inl (cs 2, 1, .inr (.inl (zAL gu))))]))))))) := hD.sub (ws' := [((o 0) 0, .inr (5, [.ref ((o 1) 0), .ref ((o 2) 0), .ref ((o 3) 0), .ref ((o 8) 0)]))] ++ (zbat cs (o 1) (zRp A xi xv xt xn.toNat) ++ ([((o 3) 0, .inr (3, [.ref ((o 3) 1), .int (zI (zm4 xm))])), ((o 3) 1, .inl (cs 3, 4, .inr (.inr (.inr (.inr (zR ((zq4 xm (o 5) (o 4)) 0) ((zq4 xm (o 6) (o 5)) 0) ((zq4 xm (o 7) (o 6)) 0) ((zq4 xm (o 4) (o 7)) 0)))))))] ++ (zbat cs (zq4 xm (o 5) (o 4)) (zs4 xm 0 A S0 S1) ++ (zbat cs (zq4 xm (o 6) (o 5)) (zs4 xm 1 A S1 S2) ++ (zbat cs (zq4 xm (o 7) (o 6)) (zs4 xm 2 A S2 S3) ++ (zbat cs (zq4 xm (o 4) (o 7)) (zs4 xm 3 A S3 A) ++ [(ou, .inl (cs 2, 1, .inr (.inl (zAL gu))))]))))))) [1, 2, 3, 4, 5, 6, 7, 8, 9, 10, 11, 12, 13, 14, 15, 16, 17, 18, 19, 20, 21, 22, 23, 24, 25, 26, 27, 28, 29, 30, 31, 32, 33, 34, 35, 36, 37, 38, 0] (by decide) rfl
  refine lv_i2l hx hb dL_repeat_12 (zW_l (zRc A xi xv xt xn.toNat)) ?_
  refine zr_last (D := D) (g := gu) hx hb hK hP hD hS 38 2 rfl rfl (by decide) (by decide) dL_repeat_13 (fun H locs hP hD hS => ?_)
  have hP9 : va_P D vwCl ([((o 0) 0, .inr (5, [.ref ((o 1) 0), .ref ((o 2) 0), .ref ((o 3) 0), .ref ((o 8) 0)]))] ++ (zbat cs (o 1) (zRp A xi xv xt xn.toNat) ++ ([((o 3) 0, .inr (3, [.ref ((o 3) 1), .int (zI (zm4 xm))])), ((o 3) 1, .inl (cs 3, 4, .inr (.inr (.inr (.inr (zR ((zq4 xm (o 5) (o 4)) 0) ((zq4 xm (o 6) (o 5)) 0) ((zq4 xm (o 7) (o 6)) 0) ((zq4 xm (o 4) (o 7)) 0)))))))] ++ (zbat cs (zq4 xm (o 5) (o 4)) (zs4 xm 0 A S0 S1) ++ (zbat cs (zq4 xm (o 6) (o 5)) (zs4 xm 1 A S1 S2) ++ (zbat cs (zq4 xm (o 7) (o 6)) (zs4 xm 2 A S2 S3) ++ (zbat cs (zq4 xm (o 4) (o 7)) (zs4 xm 3 A S3 A) ++ [(ou, .inl (cs 2, 1, .inr (.inl (zAL (zU gu 0 (zW (zRc A xi xv xt xn.toNat)))))))]))))))) H := hP
  have hD9 : va_D A0 ([((o 0) 0, .inr (5, [.ref ((o 1) 0), .ref ((o 2) 0), .ref ((o 3) 0), .ref ((o 8) 0)]))] ++ (zbat cs (o 1) (zRp A xi xv xt xn.toNat) ++ ([((o 3) 0, .inr (3, [.ref ((o 3) 1), .int (zI (zm4 xm))])), ((o 3) 1, .inl (cs 3, 4, .inr (.inr (.inr (.inr (zR ((zq4 xm (o 5) (o 4)) 0) ((zq4 xm (o 6) (o 5)) 0) ((zq4 xm (o 7) (o 6)) 0) ((zq4 xm (o 4) (o 7)) 0)))))))] ++ (zbat cs (zq4 xm (o 5) (o 4)) (zs4 xm 0 A S0 S1) ++ (zbat cs (zq4 xm (o 6) (o 5)) (zs4 xm 1 A S1 S2) ++ (zbat cs (zq4 xm (o 7) (o 6)) (zs4 xm 2 A S2 S3) ++ (zbat cs (zq4 xm (o 4) (o 7)) (zs4 xm 3 A S3 A) ++ [(ou, .inl (cs 2, 1, .inr (.inl (zAL (zU gu 0 (zW (zRc A xi xv xt xn.toNat)))))))]))))))) := zD_addr hD rfl
  refine lv_goto (tgt := 21) hx hb dL_repeat_14 (by decide) ?_
  refine zr_iconst hx hb dL_repeat_21 ?_
  refine vx_ret ?_
  rw [hAe] at hD9 hS
  exact W.iret hx hb hr (fun t ht hW => ⟨⟨_, (), rfl, rfl, by rw [ht]; exact hP9, hD9⟩, hS.F ht⟩) hS.2.2 dL_repeat_22
set_option maxHeartbeats 4000000 in
set_option maxRecDepth 100000 in
theorem met_L_repeat_x (l : Launch) (hfl : l.stackTraces = false) (D : va_G) (cs : Nat → ClassId) (o : Nat → Nat → Nat) (ou : Nat) (gu : Int → Int) (A S0 S1 S2 S3 : Int → Int) (xm : Int) (xi : Int) (xv : Int) (xt : Int) (xn : Int) (rxi : -2147483648 ≤ xi ∧ xi ≤ 2147483647) (rxv : -2147483648 ≤ xv ∧ xv ≤ 2147483647) (rxt : -2147483648 ≤ xt ∧ xt ≤ 2147483647) (rxn : -2147483648 ≤ xn ∧ xn ≤ 2147483647) (kno : ¬ (((-50000 ≤ xi ∧ xi ≤ 50000) ∧ (0 ≤ xv ∧ xv ≤ 6000) ∧ 1 ≤ xt ∧ xt ≤ 600) ∧ 0 ≤ xn ∧ xn ≤ 500)) : vx_Met l yL_repeat wsL_repeat ({ frames := 8, cells := 1, slots := 6, locals := 130 }) (va_Pc [.ref ((o 0) 0), .int (zI xi), .int (zI xv), .int (zI xt), .int (zI xn), .ref ou] (zPreU D (zTy cs) ([((o 0) 0, .inr (5, [.ref ((o 1) 0), .ref ((o 2) 0), .ref ((o 3) 0), .ref ((o 8) 0)]))] ++ (zbat cs (o 1) A ++ ([((o 3) 0, .inr (3, [.ref ((o 3) 1), .int (zI xm)])), ((o 3) 1, .inl (cs 3, 4, .inr (.inr (.inr (.inr (zR ((o 4) 0) ((o 5) 0) ((o 6) 0) ((o 7) 0)))))))] ++ (zbat cs (o 4) S0 ++ (zbat cs (o 5) S1 ++ (zbat cs (o 6) S2 ++ (zbat cs (o 7) S3 ++ [(ou, .inl (cs 2, 1, .inr (.inl (zAL gu))))]))))))))) (zQk 1) zXN 1 6 (fun _ => False) := by
  refine vx_ofWH (cc := cL_repeat) (maxL := 7) (ret := (some .int)) (hh := [(0, 14, 17, 13)]) (by decide +kernel) rfl ?_
  intro p e s m args below meth c s₁ B hml hv
  obtain ⟨rfl, ⟨⟨hP, hK, hD0, hN⟩, hX⟩, hC⟩ := hv
  have hx := B.exec
  have hb := B.bytes
  have hr := B.returns
  have hts := atoms_spec (ws := wsL_repeat) B.pre
  have hown : s.vm.findClass RL = some m.cls := findClass_of_methodNamed B.named
  have hlocks := B.notSynchronized
  have hX : zXF s s.heap := hX
  have hS : va_S (fun _ => False) s.heap s.heap [] := va_S.rf
  have hD := hD0
  have hP : va_P D vwCl ([((o 0) 0, .inr (5, [.ref ((o 1) 0), .ref ((o 2) 0), .ref ((o 3) 0), .ref ((o 8) 0)]))] ++ (zbat cs (o 1) A ++ ([((o 3) 0, .inr (3, [.ref ((o 3) 1), .int (zI xm)])), ((o 3) 1, .inl (cs 3, 4, .inr (.inr (.inr (.inr (zR ((o 4) 0) ((o 5) 0) ((o 6) 0) ((o 7) 0)))))))] ++ (zbat cs (o 4) S0 ++ (zbat cs (o 5) S1 ++ (zbat cs (o 6) S2 ++ (zbat cs (o 7) S3 ++ [(ou, .inl (cs 2, 1, .inr (.inl (zAL gu))))]))))))) s.heap := hP
  have hl := lv_entry ([.ref ((o 0) 0), .int (zI xi), .int (zI xv), .int (zI xt), .int (zI xn), .ref ou]) (n := 7) (Nat.le_of_ble_eq_true rfl)
  rw [lg_entry_eq]
  generalize (lg_sl ([.ref ((o 0) 0), .int (zI xi), .int (zI xv), .int (zI xt), .int (zI xn), .ref ou]) ++ List.replicate (7 - (lg_sl ([.ref ((o 0) 0), .int (zI xi), .int (zI xv), .int (zI xt), .int (zI xn), .ref ou])).length) Slot.unset).toArray = ls at hl ⊢
  have hl : lv_has ls 7 [(0, .ref ((o 0) 0)), (1, .int (zI xi)), (2, .int (zI xv)), (3, .int (zI xt)), (4, .int (zI xn)), (5, .ref ou)] := hl
  refine lv_aload hx hb dL_repeat_0 (lv_at hl 5 rfl) ?_
  refine zr_iconst hx hb dL_repeat_2 ?_
  refine lv_aload_n hx hb dL_repeat_3 rfl (lv_at hl 0 rfl) ?_
  refine lv_iload_n hx hb dL_repeat_4 rfl (lv_at hl 1 rfl) ?_
  refine lv_iload_n hx hb dL_repeat_5 rfl (lv_at hl 2 rfl) ?_
  refine lv_iload_n hx hb dL_repeat_6 rfl (lv_at hl 3 rfl) ?_
  refine lv_iload hx hb dL_repeat_7 (lv_at hl 4 rfl) ?_
  refine vx_calli (vx_runV (As := [.int (zI xi), .int (zI xv), .int (zI xt), .int (zI xn)]) (rest := [.int (zI 0), .ref ou]) ⟨hx, hb, hml, hown, hts⟩ (met_X5_repeat_x l hfl D cs o A S0 S1 S2 S3 xm xi xv xt xn rxi rxv rxt rxn kno) (cwV 4 hts gL_repeat_X5_repeat rfl rfl rfl (by decide +kernel) ⟨(Nat.le_of_ble_eq_true rfl), (Nat.le_of_ble_eq_true rfl)⟩) ⟨zPreX.blind, va_recv hK hP (ci := 5) (q0 := 0) rfl rfl, fun U hU hW => zp_X (hP.sub (ws' := [((o 0) 0, .inr (5, [.ref ((o 1) 0), .ref ((o 2) 0), .ref ((o 3) 0), .ref ((o 8) 0)]))] ++ (zbat cs (o 1) A ++ ([((o 3) 0, .inr (3, [.ref ((o 3) 1), .int (zI xm)])), ((o 3) 1, .inl (cs 3, 4, .inr (.inr (.inr (.inr (zR ((o 4) 0) ((o 5) 0) ((o 6) 0) ((o 7) 0)))))))] ++ (zbat cs (o 4) S0 ++ (zbat cs (o 5) S1 ++ (zbat cs (o 6) S2 ++ zbat cs (o 7) S3)))))) [0, 1, 2, 3, 4, 5, 6, 7, 8, 9, 10, 11, 12, 13, 14, 15, 16, 17, 18, 19, 20, 21, 22, 23, 24, 25, 26, 27, 28, 29, 30, 31, 32, 33, 34, 35, 36, 37] rfl) hK (hD.sub (ws' := [((o 0) 0, .inr (5, [.ref ((o 1) 0), .ref ((o 2) 0), .ref ((o 3) 0), .ref ((o 8) 0)]))] ++ (zbat cs (o 1) A ++ ([((o 3) 0, .inr (3, [.ref ((o 3) 1), .int (zI xm)])), ((o 3) 1, .inl (cs 3, 4, .inr (.inr (.inr (.inr (zR ((o 4) 0) ((o 5) 0) ((o 6) 0) ((o 7) 0)))))))] ++ (zbat cs (o 4) S0 ++ (zbat cs (o 5) S1 ++ (zbat cs (o 6) S2 ++ zbat cs (o 7) S3)))))) [0, 1, 2, 3, 4, 5, 6, 7, 8, 9, 10, 11, 12, 13, 14, 15, 16, 17, 18, 19, 20, 21, 22, 23, 24, 25, 26, 27, 28, 29, 30, 31, 32, 33, 34, 35, 36, 37] (by decide) rfl) hN hX hU hW⟩ rfl rfl hl.1 rfl (lv_room (Nat.le_of_ble_eq_true rfl)) dL_repeat_9 ⟨(Nat.le_of_ble_eq_true rfl), (Nat.le_of_ble_eq_true rfl)⟩) hS (fun _ _ h => h) (fun _ h => h) (fun _ _ h => h) ?_ (fun r u t H1 locs1 ht hvm hp9 _ _ _ _ => hp9.elim)
  intro E ce q9 u t H1 locs1 ht hvm hp9 hE hz hk hS1 hcell hv9 hcl
  have hE : E = "java/lang/IllegalArgumentException" := hE
  subst hE
  refine vx_catch (own := RL) (name := "java/lang/IllegalArgumentException") hown [] { startPc := 0, endPc := 14, handlerPc := 17, catchType := 13 } [] ((vx_table (x := yL_repeat) B (hts _ List.mem_cons_self)).trans rfl) (fun z hz => by cases hz) (by decide) (by decide) (hts (.classLink RL 13 "java/lang/IllegalArgumentException") (by decide +kernel)) (va_Nw.use rfl (hX.1.1 (.castable "java/lang/IllegalArgumentException" "java/lang/IllegalArgumentException") (by decide +kernel))) hcell hv9 hcl ?_
  refine lv_astore (lv' := [(6, .ref q9), (0, .ref ((o 0) 0)), (1, .int (zI xi)), (2, .int (zI xv)), (3, .int (zI xt)), (4, .int (zI xn)), (5, .ref ou)]) hx hb dL_repeat_17 hl (by decide) rfl (fun ls hl => ?_)
  refine zr_iconst hx hb dL_repeat_19 ?_
  refine vx_ret ?_
  exact W.iret hx hb hr (fun t ht hW => ⟨⟨_, (), rfl, rfl, trivial⟩, hS1.F ht⟩) hS1.2.2 dL_repeat_20
set_option maxHeartbeats 4000000 in
set_option maxRecDepth 100000 in
theorem met_L_simulate_ok (l : Launch) (D : va_G) (cs : Nat → ClassId) (o : Nat → Nat → Nat) (ou : Nat) (gu : Int → Int) (sz : Nat) (A S0 S1 S2 S3 : Int → Int) (xm : Int) (n : Int) (xi : Int) (xt : Int) (xr : Int) (xn : Int) (hI : zOK n A) (hn : 0 ≤ n ∧ n ≤ 3100000) (kn6 : n ≤ 3090000) (kxm : 0 ≤ xm ∧ xm ≤ 4) (rxi : -2147483648 ≤ xi ∧ xi ≤ 2147483647) (rxt : -2147483648 ≤ xt ∧ xt ≤ 2147483647) (rxr : -2147483648 ≤ xr ∧ xr ≤ 2147483647) (rxn : -2147483648 ≤ xn ∧ xn ≤ 2147483647) (kok : ((-50000 ≤ xi ∧ xi ≤ 50000) ∧ (0 ≤ (0 : Int) ∧ (0 : Int) ≤ 6000) ∧ 1 ≤ xt ∧ xt ≤ 600) ∧ (0 ≤ xr ∧ xr ≤ 1000) ∧ 0 ≤ xn ∧ xn ≤ 500) : vx_Met l yL_simulate wsL_simulate ({ frames := 6, cells := 0, slots := 0, locals := 150 }) (va_Pc [.ref ((o 0) 0), .int (zI xi), .int (zI xt), .int (zI xr), .int (zI xn), .ref ou] (zPreZ D (zTy cs) ([((o 0) 0, .inr (5, [.ref ((o 1) 0), .ref ((o 2) 0), .ref ((o 3) 0), .ref ((o 8) 0)]))] ++ (zbat cs (o 1) A ++ ([((o 3) 0, .inr (3, [.ref ((o 3) 1), .int (zI xm)])), ((o 3) 1, .inl (cs 3, 4, .inr (.inr (.inr (.inr (zR ((o 4) 0) ((o 5) 0) ((o 6) 0) ((o 7) 0)))))))] ++ (zbat cs (o 4) S0 ++ (zbat cs (o 5) S1 ++ (zbat cs (o 6) S2 ++ (zbat cs (o 7) S3 ++ [(ou, .inl (cs 2, 1, .inr (.inl (zAL gu))))]))))))) sz)) (zQi D ([((o 0) 0, .inr (5, [.ref ((o 1) 0), .ref ((o 2) 0), .ref ((o 3) 0), .ref ((o 8) 0)]))] ++ (zbat cs (o 1) A ++ ([((o 3) 0, .inr (3, [.ref ((o 3) 1), .int (zI xm)])), ((o 3) 1, .inl (cs 3, 4, .inr (.inr (.inr (.inr (zR ((o 4) 0) ((o 5) 0) ((o 6) 0) ((o 7) 0)))))))] ++ (zbat cs (o 4) S0 ++ (zbat cs (o 5) S1 ++ (zbat cs (o 6) S2 ++ (zbat cs (o 7) S3 ++ [(ou, .inl (cs 2, 1, .inr (.inl (zAL gu))))]))))))) sz (zI 0) ([((o 0) 0, .inr (5, [.ref ((o 1) 0), .ref ((o 2) 0), .ref ((o 3) 0), .ref ((o 8) 0)]))] ++ (zbat cs (o 1) (zMp A xi xt xr xn.toNat) ++ ([((o 3) 0, .inr (3, [.ref ((o 3) 1), .int (zI (zm4 xm))])), ((o 3) 1, .inl (cs 3, 4, .inr (.inr (.inr (.inr (zR ((zq4 xm (o 5) (o 4)) 0) ((zq4 xm (o 6) (o 5)) 0) ((zq4 xm (o 7) (o 6)) 0) ((zq4 xm (o 4) (o 7)) 0)))))))] ++ (zbat cs (zq4 xm (o 5) (o 4)) (zs4 xm 0 A S0 S1) ++ (zbat cs (zq4 xm (o 6) (o 5)) (zs4 xm 1 A S1 S2) ++ (zbat cs (zq4 xm (o 7) (o 6)) (zs4 xm 2 A S2 S3) ++ (zbat cs (zq4 xm (o 4) (o 7)) (zs4 xm 3 A S3 A) ++ [(ou, .inl (cs 2, 1, .inr (.inl (zAL (zU gu 0 (zW (zMc A xi xt xr xn.toNat)))))))])))))))) zXN 0 0 (va_A ([((o 0) 0, .inr (5, [.ref ((o 1) 0), .ref ((o 2) 0), .ref ((o 3) 0), .ref ((o 8) 0)]))] ++ (zbat cs (o 1) A ++ ([((o 3) 0, .inr (3, [.ref ((o 3) 1), .int (zI xm)])), ((o 3) 1, .inl (cs 3, 4, .inr (.inr (.inr (.inr (zR ((o 4) 0) ((o 5) 0) ((o 6) 0) ((o 7) 0)))))))] ++ (zbat cs (o 4) S0 ++ (zbat cs (o 5) S1 ++ (zbat cs (o 6) S2 ++ (zbat cs (o 7) S3 ++ [(ou, .inl (cs 2, 1, .inr (.inl (zAL gu))))]))))))) sz) := by
  refine vx_ofWH (cc := cL_simulate) (maxL := 7) (ret := (some .int)) (hh := [(0, 14, 17, 13)]) (by decide +kernel) rfl ?_
  intro p e s m args below meth c s₁ B hml hv
  obtain ⟨rfl, hsz, hP, hK, hD0, hN⟩ := hv
  have hx := B.exec
  have hb := B.bytes
  have hr := B.returns
  have hts := atoms_spec (ws := wsL_simulate) B.pre
  have hown : s.vm.findClass RL = some m.cls := findClass_of_methodNamed B.named
  have hlocks := B.notSynchronized
  subst hsz
  obtain ⟨A0, hAe⟩ : ∃ A0, A0 = va_A ([((o 0) 0, .inr (5, [.ref ((o 1) 0), .ref ((o 2) 0), .ref ((o 3) 0), .ref ((o 8) 0)]))] ++ (zbat cs (o 1) A ++ ([((o 3) 0, .inr (3, [.ref ((o 3) 1), .int (zI xm)])), ((o 3) 1, .inl (cs 3, 4, .inr (.inr (.inr (.inr (zR ((o 4) 0) ((o 5) 0) ((o 6) 0) ((o 7) 0)))))))] ++ (zbat cs (o 4) S0 ++ (zbat cs (o 5) S1 ++ (zbat cs (o 6) S2 ++ (zbat cs (o 7) S3 ++ [(ou, .inl (cs 2, 1, .inr (.inl (zAL gu))))]))))))) s.heap.size := ⟨_, rfl⟩
  have hD := hD0.self (sz := s.heap.size)
  rw [← hAe] at hD
  have hA : ∀ q : Nat, s.heap.size ≤ q → A0 q := fun q h => by rw [hAe]; exact Or.inr h
  have hS : va_S A0 s.heap s.heap [] := va_S.rf
  have hP : va_P D vwCl ([((o 0) 0, .inr (5, [.ref ((o 1) 0), .ref ((o 2) 0), .ref ((o 3) 0), .ref ((o 8) 0)]))] ++ (zbat cs (o 1) A ++ ([((o 3) 0, .inr (3, [.ref ((o 3) 1), .int (zI xm)])), ((o 3) 1, .inl (cs 3, 4, .inr (.inr (.inr (.inr (zR ((o 4) 0) ((o 5) 0) ((o 6) 0) ((o 7) 0)))))))] ++ (zbat cs (o 4) S0 ++ (zbat cs (o 5) S1 ++ (zbat cs (o 6) S2 ++ (zbat cs (o 7) S3 ++ [(ou, .inl (cs 2, 1, .inr (.inl (zAL gu))))]))))))) s.heap := hP
  have hl := lv_entry ([.ref ((o 0) 0), .int (zI xi), .int (zI xt), .int (zI xr), .int (zI xn), .ref ou]) (n := 7) (Nat.le_of_ble_eq_true rfl)
  rw [lg_entry_eq]
  generalize (lg_sl ([.ref ((o 0) 0), .int (zI xi), .int (zI xt), .int (zI xr), .int (zI xn), .ref ou]) ++ List.replicate (7 - (lg_sl ([.ref ((o 0) 0), .int (zI xi), .int (zI xt), .int (zI xr), .int (zI xn), .ref ou])).length) Slot.unset).toArray = ls at hl ⊢
  have hl : lv_has ls 7 [(0, .ref ((o 0) 0)), (1, .int (zI xi)), (2, .int (zI xt)), (3, .int (zI xr)), (4, .int (zI xn)), (5, .ref ou)] := hl
  refine lv_aload hx hb dL_simulate_0 (lv_at hl 5 rfl) ?_
  refine zr_iconst hx hb dL_simulate_2 ?_
  refine lv_aload_n hx hb dL_simulate_3 rfl (lv_at hl 0 rfl) ?_
  refine lv_iload_n hx hb dL_simulate_4 rfl (lv_at hl 1 rfl) ?_
  refine lv_iload_n hx hb dL_simulate_5 rfl (lv_at hl 2 rfl) ?_
  refine lv_iload_n hx hb dL_simulate_6 rfl (lv_at hl 3 rfl) ?_
  refine lv_iload hx hb dL_simulate_7 (lv_at hl 4 rfl) ?_
  refine zc_ij (w := [((o 0) 0, .inr (5, [.ref ((o 1) 0), .ref ((o 2) 0), .ref ((o 3) 0), .ref ((o 8) 0)]))] ++ (zbat cs (o 1) A ++ ([((o 3) 0, .inr (3, [.ref ((o 3) 1), .int (zI xm)])), ((o 3) 1, .inl (cs 3, 4, .inr (.inr (.inr (.inr (zR ((o 4) 0) ((o 5) 0) ((o 6) 0) ((o 7) 0)))))))] ++ (zbat cs (o 4) S0 ++ (zbat cs (o 5) S1 ++ (zbat cs (o 6) S2 ++ zbat cs (o 7) S3)))))) (wr := [(ou, .inl (cs 2, 1, .inr (.inl (zAL gu))))]) (va_runV (As := [.int (zI xi), .int (zI xt), .int (zI xr), .int (zI xn)]) (rest := [.int (zI 0), .ref ou]) ⟨hx, hb, hml, hown, hts⟩ (met_X5_simulate_ok l D cs o s.heap.size A S0 S1 S2 S3 xm n xi xt xr xn hI hn kn6 kxm rxi rxt rxr rxn kok) (cwV 4 hts gL_simulate_X5_simulate rfl rfl rfl (by decide +kernel) ⟨(Nat.le_of_ble_eq_true rfl), (Nat.le_of_ble_eq_true rfl)⟩) ⟨zPreZ.blind, va_recv hK hP (ci := 5) (q0 := 0) rfl rfl, fun U hU hW => zp_Z (hP.sub (ws' := [((o 0) 0, .inr (5, [.ref ((o 1) 0), .ref ((o 2) 0), .ref ((o 3) 0), .ref ((o 8) 0)]))] ++ (zbat cs (o 1) A ++ ([((o 3) 0, .inr (3, [.ref ((o 3) 1), .int (zI xm)])), ((o 3) 1, .inl (cs 3, 4, .inr (.inr (.inr (.inr (zR ((o 4) 0) ((o 5) 0) ((o 6) 0) ((o 7) 0)))))))] ++ (zbat cs (o 4) S0 ++ (zbat cs (o 5) S1 ++ (zbat cs (o 6) S2 ++ zbat cs (o 7) S3)))))) [0, 1, 2, 3, 4, 5, 6, 7, 8, 9, 10, 11, 12, 13, 14, 15, 16, 17, 18, 19, 20, 21, 22, 23, 24, 25, 26, 27, 28, 29, 30, 31, 32, 33, 34, 35, 36, 37] rfl) hK (hD.sub (ws' := [((o 0) 0, .inr (5, [.ref ((o 1) 0), .ref ((o 2) 0), .ref ((o 3) 0), .ref ((o 8) 0)]))] ++ (zbat cs (o 1) A ++ ([((o 3) 0, .inr (3, [.ref ((o 3) 1), .int (zI xm)])), ((o 3) 1, .inl (cs 3, 4, .inr (.inr (.inr (.inr (zR ((o 4) 0) ((o 5) 0) ((o 6) 0) ((o 7) 0)))))))] ++ (zbat cs (o 4) S0 ++ (zbat cs (o 5) S1 ++ (zbat cs (o 6) S2 ++ zbat cs (o 7) S3)))))) [0, 1, 2, 3, 4, 5, 6, 7, 8, 9, 10, 11, 12, 13, 14, 15, 16, 17, 18, 19, 20, 21, 22, 23, 24, 25, 26, 27, 28, 29, 30, 31, 32, 33, 34, 35, 36, 37] (by decide) rfl) hN hU hW⟩ rfl rfl hl.1 rfl (lv_room (Nat.le_of_ble_eq_true rfl)) dL_simulate_9 ⟨(Nat.le_of_ble_eq_true rfl), (Nat.le_of_ble_eq_true rfl)⟩) hS hP hD hA [0, 1, 2, 3, 4, 5, 6, 7, 8, 9, 10, 11, 12, 13, 14, 15, 16, 17, 18, 19, 20, 21, 22, 23, 24, 25, 26, 27, 28, 29, 30, 31, 32, 33, 34, 35, 36, 37] [38] rfl rfl (by decide) (by decide) (fun H locs hP hD hS => ?_)
  have hP : va_P D vwCl ([((o 0) 0, .inr (5, [.ref ((o 1) 0), .ref ((o 2) 0), .ref ((o 3) 0), .ref ((o 8) 0)]))] ++ (zbat cs (o 1) (zMp A xi xt xr xn.toNat) ++ ([((o 3) 0, .inr (3, [.ref ((o 3) 1), .int (zI (zm4 xm))])), ((o 3) 1, .inl (cs 3, 4, .inr (.inr (.inr (.inr (zR ((zq4 xm (o 5) (o 4)) 0) ((zq4 xm (o 6) (o 5)) 0) ((zq4 xm (o 7) (o 6)) 0) ((zq4 xm (o 4) (o 7)) 0)))))))] ++ (zbat cs (zq4 xm (o 5) (o 4)) (zs4 xm 0 A S0 S1) ++ (zbat cs (zq4 xm (o 6) (o 5)) (zs4 xm 1 A S1 S2) ++ (zbat cs (zq4 xm (o 7) (o 6)) (zs4 xm 2 A S2 S3) ++ (zbat cs (zq4 xm (o 4) (o 7)) (zs4 xm 3 A S3 A) ++ [(ou, .inl (cs 2, 1, .inr (.inl (zAL gu))))]))))))) H := hP.sub (ws' := [((o 0) 0, .inr (5, [.ref ((o 1) 0), .ref ((o 2) 0), .ref ((o 3) 0), .ref ((o 8) 0)]))] ++ (zbat cs (o 1) (zMp A xi xt xr xn.toNat) ++ ([((o 3) 0, .inr (3, [.ref ((o 3) 1), .int (zI (zm4 xm))])), ((o 3) 1, .inl (cs 3, 4, .inr (.inr (.inr (.inr (zR ((zq4 xm (o 5) (o 4)) 0) ((zq4 xm (o 6) (o 5)) 0) ((zq4 xm (o 7) (o 6)) 0) ((zq4 xm (o 4) (o 7)) 0)))))))] ++ (zbat cs (zq4 xm (o 5) (o 4)) (zs4 xm 0 A S0 S1) ++ (zbat cs (zq4 xm (o 6) (o 5)) (zs4 xm 1 A S1 S2) ++ (zbat cs (zq4 xm (o 7) (o 6)) (zs4 xm 2 A S2 S3) ++ (zbat cs (zq4 xm (o 4) (o 7)) (zs4 xm 3 A S3 A) ++ [(ou, .inl (cs 2, 1, .inr (.inl (zAL gu))))]))))))) [1, 2, 3, 4, 5, 6, 7, 8, 9, 10, 11, 12, 13, 14, 15, 16, 17, 18, 19, 20, 21, 22, 23, 24, 25, 26, 27, 28, 29, 30, 31, 32, 33, 34, 35, 36, 37, 38, 0] rfl
  have hD : va_D A0 ([((o 0) 0, .inr (5, [.ref ((o 1) 0), .ref ((o 2) 0), .ref ((o 3) 0), .ref ((o 8) 0)]))] ++ (zbat cs (o 1) (zMp A xi xt xr xn.toNat) ++ ([((o 3) 0, .inr (3, [.ref ((o 3) 1), .int (zI (zm4 xm))])), ((o 3) 1, .inl (cs 3, 4, .inr (.inr (.inr (.inr (zR ((zq4 xm (o 5) (o 4)) 0) ((zq4 xm (o 6) (o 5)) 0) ((zq4 xm (o 7) (o 6)) 0) ((zq4 xm (o 4) (o 7)) 0)))))))] ++ (zbat cs (zq4 xm (o 5) (o 4)) (zs4 xm 0 A S0 S1) ++ (zbat cs (zq4 xm (o 6) (o 5)) (zs4 xm 1 A S1 S2) ++ (zbat cs (zq4 xm (o 7) (o 6)) (zs4 xm 2 A S2 S3) ++ (zbat cs (zq4 xm (o 4) (o 7)) (zs4 xm 3 A S3 A) ++ [(ou, .inl (cs 2, 1, .inr (.inl (zAL gu))))]))))))) := hD.sub (ws' := [((o 0) 0, .inr (5, [.ref ((o 1) 0), .ref ((o 2) 0), .ref ((o 3) 0), .ref ((o 8) 0)]))] ++ (zbat cs (o 1) (zMp A xi xt xr xn.toNat) ++ ([((o 3) 0, .inr (3, [.ref ((o 3) 1), .int (zI (zm4 xm))])), ((o 3) 1, .inl (cs 3, 4, .inr (.inr (.inr (.inr (zR ((zq4 xm (o 5) (o 4)) 0) ((zq4 xm (o 6) (o 5)) 0) ((zq4 xm (o 7) (o 6)) 0) ((zq4 xm (o 4) (o 7)) 0)))))))] ++ (zbat cs (zq4 xm (o 5) (o 4)) (zs4 xm 0 A S0 S1) ++ (zbat cs (zq4 xm (o 6) (o 5)) (zs4 xm 1 A S1 S2) ++ (zbat cs (zq4 xm (o 7) (o 6)) (zs4 xm 2 A S2 S3) ++ (zbat cs (zq4 xm (o 4) (o 7)) (zs4 xm 3 A S3 A) ++ [(ou, .inl (cs 2, 1, .inr (.inl (zAL gu))))]))))))) [1, 2, 3, 4, 5, 6, 7, 8, 9, 10, 11, 12, 13, 14, 15, 16, 17, 18, 19, 20, 21, 22, 23, 24, 25, 26, 27, 28, 29, 30, 31, 32, 33, 34, 35, 36, 37, 38, 0] (by decide) rfl
  refine lv_i2l hx hb dL_simulate_12 (zW_l (zMc A xi xt xr xn.toNat)) ?_
  refine zr_last (D := D) (g := gu) hx hb hK hP hD hS 38 2 rfl rfl (by decide) (by decide) dL_simulate_13 (fun H locs hP hD hS => ?_)
  have hP9 : va_P D vwCl ([((o 0) 0, .inr (5, [.ref ((o 1) 0), .ref ((o 2) 0), .ref ((o 3) 0), .ref ((o 8) 0)]))] ++ (zbat cs (o 1) (zMp A xi xt xr xn.toNat) ++ ([((o 3) 0, .inr (3, [.ref ((o 3) 1), .int (zI (zm4 xm))])), ((o 3) 1, .inl (cs 3, 4, .inr (.inr (.inr (.inr (zR ((zq4 xm (o 5) (o 4)) 0) ((zq4 xm (o 6) (o 5)) 0) ((zq4 xm (o 7) (o 6)) 0) ((zq4 xm (o 4) (o 7)) 0)))))))] ++ (zbat cs (zq4 xm (o 5) (o 4)) (zs4 xm 0 A S0 S1) ++ (zbat cs (zq4 xm (o 6) (o 5)) (zs4 xm 1 A S1 S2) ++ (zbat cs (zq4 xm (o 7) (o 6)) (zs4 xm 2 A S2 S3) ++ (zbat cs (zq4 xm (o 4) (o 7)) (zs4 xm 3 A S3 A) ++ [(ou, .inl (cs 2, 1, .inr (.inl (zAL (zU gu 0 (zW (zMc A xi xt xr xn.toNat)))))))]))))))) H := hP
  have hD9 : va_D A0 ([((o 0) 0, .inr (5, [.ref ((o 1) 0), .ref ((o 2) 0), .ref ((o 3) 0), .ref ((o 8) 0)]))] ++ (zbat cs (o 1) (zMp A xi xt xr xn.toNat) ++ ([((o 3) 0, .inr (3, [.ref ((o 3) 1), .int (zI (zm4 xm))])), ((o 3) 1, .inl (cs 3, 4, .inr (.inr (.inr (.inr (zR ((zq4 xm (o 5) (o 4)) 0) ((zq4 xm (o 6) (o 5)) 0) ((zq4 xm (o 7) (o 6)) 0) ((zq4 xm (o 4) (o 7)) 0)))))))] ++ (zbat cs (zq4 xm (o 5) (o 4)) (zs4 xm 0 A S0 S1) ++ (zbat cs (zq4 xm (o 6) (o 5)) (zs4 xm 1 A S1 S2) ++ (zbat cs (zq4 xm (o 7) (o 6)) (zs4 xm 2 A S2 S3) ++ (zbat cs (zq4 xm (o 4) (o 7)) (zs4 xm 3 A S3 A) ++ [(ou, .inl (cs 2, 1, .inr (.inl (zAL (zU gu 0 (zW (zMc A xi xt xr xn.toNat)))))))]))))))) := zD_addr hD rfl
  refine lv_goto (tgt := 21) hx hb dL_simulate_14 (by decide) ?_
  refine zr_iconst hx hb dL_simulate_21 ?_
  refine vx_ret ?_
  rw [hAe] at hD9 hS
  exact W.iret hx hb hr (fun t ht hW => ⟨⟨_, (), rfl, rfl, by rw [ht]; exact hP9, hD9⟩, hS.F ht⟩) hS.2.2 dL_simulate_22
set_option maxHeartbeats 4000000 in
set_option maxRecDepth 100000 in
theorem met_L_simulate_x (l : Launch) (hfl : l.stackTraces = false) (D : va_G) (cs : Nat → ClassId) (o : Nat → Nat → Nat) (ou : Nat) (gu : Int → Int) (A S0 S1 S2 S3 : Int → Int) (xm : Int) (xi : Int) (xt : Int) (xr : Int) (xn : Int) (rxi : -2147483648 ≤ xi ∧ xi ≤ 2147483647) (rxt : -2147483648 ≤ xt ∧ xt ≤ 2147483647) (rxr : -2147483648 ≤ xr ∧ xr ≤ 2147483647) (rxn : -2147483648 ≤ xn ∧ xn ≤ 2147483647) (kno : ¬ (((-50000 ≤ xi ∧ xi ≤ 50000) ∧ (0 ≤ (0 : Int) ∧ (0 : Int) ≤ 6000) ∧ 1 ≤ xt ∧ xt ≤ 600) ∧ (0 ≤ xr ∧ xr ≤ 1000) ∧ 0 ≤ xn ∧ xn ≤ 500)) : vx_Met l yL_simulate wsL_simulate ({ frames := 9, cells := 1, slots := 6, locals := 154 }) (va_Pc [.ref ((o 0) 0), .int (zI xi), .int (zI xt), .int (zI xr), .int (zI xn), .ref ou] (zPreU D (zTy cs) ([((o 0) 0, .inr (5, [.ref ((o 1) 0), .ref ((o 2) 0), .ref ((o 3) 0), .ref ((o 8) 0)]))] ++ (zbat cs (o 1) A ++ ([((o 3) 0, .inr (3, [.ref ((o 3) 1), .int (zI xm)])), ((o 3) 1, .inl (cs 3, 4, .inr (.inr (.inr (.inr (zR ((o 4) 0) ((o 5) 0) ((o 6) 0) ((o 7) 0)))))))] ++ (zbat cs (o 4) S0 ++ (zbat cs (o 5) S1 ++ (zbat cs (o 6) S2 ++ (zbat cs (o 7) S3 ++ [(ou, .inl (cs 2, 1, .inr (.inl (zAL gu))))]))))))))) (zQk 1) zXN 1 6 (fun _ => False) := by
  refine vx_ofWH (cc := cL_simulate) (maxL := 7) (ret := (some .int)) (hh := [(0, 14, 17, 13)]) (by decide +kernel) rfl ?_
  intro p e s m args below meth c s₁ B hml hv
  obtain ⟨rfl, ⟨⟨hP, hK, hD0, hN⟩, hX⟩, hC⟩ := hv
  have hx := B.exec
  have hb := B.bytes
  have hr := B.returns
  have hts := atoms_spec (ws := wsL_simulate) B.pre
  have hown : s.vm.findClass RL = some m.cls := findClass_of_methodNamed B.named
  have hlocks := B.notSynchronized
  have hX : zXF s s.heap := hX
  have hS : va_S (fun _ => False) s.heap s.heap [] := va_S.rf
  have hD := hD0
  have hP : va_P D vwCl ([((o 0) 0, .inr (5, [.ref ((o 1) 0), .ref ((o 2) 0), .ref ((o 3) 0), .ref ((o 8) 0)]))] ++ (zbat cs (o 1) A ++ ([((o 3) 0, .inr (3, [.ref ((o 3) 1), .int (zI xm)])), ((o 3) 1, .inl (cs 3, 4, .inr (.inr (.inr (.inr (zR ((o 4) 0) ((o 5) 0) ((o 6) 0) ((o 7) 0)))))))] ++ (zbat cs (o 4) S0 ++ (zbat cs (o 5) S1 ++ (zbat cs (o 6) S2 ++ (zbat cs (o 7) S3 ++ [(ou, .inl (cs 2, 1, .inr (.inl (zAL gu))))]))))))) s.heap := hP
  have hl := lv_entry ([.ref ((o 0) 0), .int (zI xi), .int (zI xt), .int (zI xr), .int (zI xn), .ref ou]) (n := 7) (Nat.le_of_ble_eq_true rfl)
  rw [lg_entry_eq]
  generalize (lg_sl ([.ref ((o 0) 0), .int (zI xi), .int (zI xt), .int (zI xr), .int (zI xn), .ref ou]) ++ List.replicate (7 - (lg_sl ([.ref ((o 0) 0), .int (zI xi), .int (zI xt), .int (zI xr), .int (zI xn), .ref ou])).length) Slot.unset).toArray = ls at hl ⊢
  have hl : lv_has ls 7 [(0, .ref ((o 0) 0)), (1, .int (zI xi)), (2, .int (zI xt)), (3, .int (zI xr)), (4, .int (zI xn)), (5, .ref ou)] := hl
  refine lv_aload hx hb dL_simulate_0 (lv_at hl 5 rfl) ?_
  refine zr_iconst hx hb dL_simulate_2 ?_
  refine lv_aload_n hx hb dL_simulate_3 rfl (lv_at hl 0 rfl) ?_
  refine lv_iload_n hx hb dL_simulate_4 rfl (lv_at hl 1 rfl) ?_
  refine lv_iload_n hx hb dL_simulate_5 rfl (lv_at hl 2 rfl) ?_
  refine lv_iload_n hx hb dL_simulate_6 rfl (lv_at hl 3 rfl) ?_
  refine lv_iload hx hb dL_simulate_7 (lv_at hl 4 rfl) ?_
  refine vx_calli (vx_runV (As := [.int (zI xi), .int (zI xt), .int (zI xr), .int (zI xn)]) (rest := [.int (zI 0), .ref ou]) ⟨hx, hb, hml, hown, hts⟩ (met_X5_simulate_x l hfl D cs o A S0 S1 S2 S3 xm xi xt xr xn rxi rxt rxr rxn kno) (cwV 4 hts gL_simulate_X5_simulate rfl rfl rfl (by decide +kernel) ⟨(Nat.le_of_ble_eq_true rfl), (Nat.le_of_ble_eq_true rfl)⟩) ⟨zPreX.blind, va_recv hK hP (ci := 5) (q0 := 0) rfl rfl, fun U hU hW => zp_X (hP.sub (ws' := [((o 0) 0, .inr (5, [.ref ((o 1) 0), .ref ((o 2) 0), .ref ((o 3) 0), .ref ((o 8) 0)]))] ++ (zbat cs (o 1) A ++ ([((o 3) 0, .inr (3, [.ref ((o 3) 1), .int (zI xm)])), ((o 3) 1, .inl (cs 3, 4, .inr (.inr (.inr (.inr (zR ((o 4) 0) ((o 5) 0) ((o 6) 0) ((o 7) 0)))))))] ++ (zbat cs (o 4) S0 ++ (zbat cs (o 5) S1 ++ (zbat cs (o 6) S2 ++ zbat cs (o 7) S3)))))) [0, 1, 2, 3, 4, 5, 6, 7, 8, 9, 10, 11, 12, 13, 14, 15, 16, 17, 18, 19, 20, 21, 22, 23, 24, 25, 26, 27, 28, 29, 30, 31, 32, 33, 34, 35, 36, 37] rfl) hK (hD.sub (ws' := [((o 0) 0, .inr (5, [.ref ((o 1) 0), .ref ((o 2) 0), .ref ((o 3) 0), .ref ((o 8) 0)]))] ++ (zbat cs (o 1) A ++ ([((o 3) 0, .inr (3, [.ref ((o 3) 1), .int (zI xm)])), ((o 3) 1, .inl (cs 3, 4, .inr (.inr (.inr (.inr (zR ((o 4) 0) ((o 5) 0) ((o 6) 0) ((o 7) 0)))))))] ++ (zbat cs (o 4) S0 ++ (zbat cs (o 5) S1 ++ (zbat cs (o 6) S2 ++ zbat cs (o 7) S3)))))) [0, 1, 2, 3, 4, 5, 6, 7, 8, 9, 10, 11, 12, 13, 14, 15, 16, 17, 18, 19, 20, 21, 22, 23, 24, 25, 26, 27, 28, 29, 30, 31, 32, 33, 34, 35, 36, 37] (by decide) rfl) hN hX hU hW⟩ rfl rfl hl.1 rfl (lv_room (Nat.le_of_ble_eq_true rfl)) dL_simulate_9 ⟨(Nat.le_of_ble_eq_true rfl), (Nat.le_of_ble_eq_true rfl)⟩) hS (fun _ _ h => h) (fun _ h => h) (fun _ _ h => h) ?_ (fun r u t H1 locs1 ht hvm hp9 _ _ _ _ => hp9.elim)
  intro E ce q9 u t H1 locs1 ht hvm hp9 hE hz hk hS1 hcell hv9 hcl
  have hE : E = "java/lang/IllegalArgumentException" := hE
  subst hE
  refine vx_catch (own := RL) (name := "java/lang/IllegalArgumentException") hown [] { startPc := 0, endPc := 14, handlerPc := 17, catchType := 13 } [] ((vx_table (x := yL_simulate) B (hts _ List.mem_cons_self)).trans rfl) (fun z hz => by cases hz) (by decide) (by decide) (hts (.classLink RL 13 "java/lang/IllegalArgumentException") (by decide +kernel)) (va_Nw.use rfl (hX.1.1 (.castable "java/lang/IllegalArgumentException" "java/lang/IllegalArgumentException") (by decide +kernel))) hcell hv9 hcl ?_
  refine lv_astore (lv' := [(6, .ref q9), (0, .ref ((o 0) 0)), (1, .int (zI xi)), (2, .int (zI xt)), (3, .int (zI xr)), (4, .int (zI xn)), (5, .ref ou)]) hx hb dL_simulate_17 hl (by decide) rfl (fun ls hl => ?_)
  refine zr_iconst hx hb dL_simulate_19 ?_
  refine vx_ret ?_
  exact W.iret hx hb hr (fun t ht hW => ⟨⟨_, (), rfl, rfl, trivial⟩, hS1.F ht⟩) hS1.2.2 dL_simulate_20
set_option maxHeartbeats 4000000 in
set_option maxRecDepth 100000 in
theorem met_L_charge_ok (l : Launch) (D : va_G) (cs : Nat → ClassId) (o : Nat → Nat → Nat) (ou : Nat) (gu : Int → Int) (sz : Nat) (A : Int → Int) (xw : Int) (rxw : -2147483648 ≤ xw ∧ xw ≤ 2147483647) (kok : 0 ≤ xw ∧ xw ≤ 6) : vx_Met l yL_charge wsL_charge ({ frames := 3, cells := 0, slots := 0, locals := 65 }) (va_Pc [.ref ((o 0) 0), .int (zI xw), .ref ou] (zPreZ D (zTy cs) ([((o 0) 0, .inr (5, [.ref ((o 1) 0), .ref ((o 2) 0), .ref ((o 3) 0), .ref ((o 8) 0)]))] ++ (zbat cs (o 1) A ++ [(ou, .inl (cs 2, 1, .inr (.inl (zAL gu))))])) sz)) (zQi D ([((o 0) 0, .inr (5, [.ref ((o 1) 0), .ref ((o 2) 0), .ref ((o 3) 0), .ref ((o 8) 0)]))] ++ (zbat cs (o 1) A ++ [(ou, .inl (cs 2, 1, .inr (.inl (zAL gu))))])) sz (zI 0) ([((o 0) 0, .inr (5, [.ref ((o 1) 0), .ref ((o 2) 0), .ref ((o 3) 0), .ref ((o 8) 0)]))] ++ (zbat cs (o 1) A ++ [(ou, .inl (cs 2, 1, .inr (.inl (zAL (zU gu 0 (A (34 + xw)))))))]))) zXN 0 0 (va_A ([((o 0) 0, .inr (5, [.ref ((o 1) 0), .ref ((o 2) 0), .ref ((o 3) 0), .ref ((o 8) 0)]))] ++ (zbat cs (o 1) A ++ [(ou, .inl (cs 2, 1, .inr (.inl (zAL gu))))])) sz) := by
  refine vx_ofWH (cc := cL_charge) (maxL := 4) (ret := (some .int)) (hh := [(0, 8, 11, 13)]) (by decide +kernel) rfl ?_
  intro p e s m args below meth c s₁ B hml hv
  obtain ⟨rfl, hsz, hP, hK, hD0, hN⟩ := hv
  have hx := B.exec
  have hb := B.bytes
  have hr := B.returns
  have hts := atoms_spec (ws := wsL_charge) B.pre
  have hown : s.vm.findClass RL = some m.cls := findClass_of_methodNamed B.named
  have hlocks := B.notSynchronized
  subst hsz
  obtain ⟨A0, hAe⟩ : ∃ A0, A0 = va_A ([((o 0) 0, .inr (5, [.ref ((o 1) 0), .ref ((o 2) 0), .ref ((o 3) 0), .ref ((o 8) 0)]))] ++ (zbat cs (o 1) A ++ [(ou, .inl (cs 2, 1, .inr (.inl (zAL gu))))])) s.heap.size := ⟨_, rfl⟩
  have hD := hD0.self (sz := s.heap.size)
  rw [← hAe] at hD
  have hA : ∀ q : Nat, s.heap.size ≤ q → A0 q := fun q h => by rw [hAe]; exact Or.inr h
  have hS : va_S A0 s.heap s.heap [] := va_S.rf
  have hP : va_P D vwCl ([((o 0) 0, .inr (5, [.ref ((o 1) 0), .ref ((o 2) 0), .ref ((o 3) 0), .ref ((o 8) 0)]))] ++ (zbat cs (o 1) A ++ [(ou, .inl (cs 2, 1, .inr (.inl (zAL gu))))])) s.heap := hP
  have hl := lv_entry ([.ref ((o 0) 0), .int (zI xw), .ref ou]) (n := 4) (Nat.le_of_ble_eq_true rfl)
  rw [lg_entry_eq]
  generalize (lg_sl ([.ref ((o 0) 0), .int (zI xw), .ref ou]) ++ List.replicate (4 - (lg_sl ([.ref ((o 0) 0), .int (zI xw), .ref ou])).length) Slot.unset).toArray = ls at hl ⊢
  have hl : lv_has ls 4 [(0, .ref ((o 0) 0)), (1, .int (zI xw)), (2, .ref ou)] := hl
  refine lv_aload_n hx hb dL_charge_0 rfl (lv_at hl 2 rfl) ?_
  refine zr_iconst hx hb dL_charge_1 ?_
  refine lv_aload_n hx hb dL_charge_2 rfl (lv_at hl 0 rfl) ?_
  refine lv_iload_n hx hb dL_charge_3 rfl (lv_at hl 1 rfl) ?_
  refine zc_rl (va_runV (As := [.int (zI xw)]) (rest := [.int (zI 0), .ref ou]) ⟨hx, hb, hml, hown, hts⟩ (met_X5_charge_ok l D cs o A xw rxw kok) (cwV 1 hts gL_charge_X5_charge rfl rfl rfl (by decide +kernel) ⟨(Nat.le_of_ble_eq_true rfl), (Nat.le_of_ble_eq_true rfl)⟩) ⟨zPre.blind, va_recv hK hP (ci := 5) (q0 := 0) rfl rfl, fun U hU hW => zp_R (hP.sub (ws' := [((o 0) 0, .inr (5, [.ref ((o 1) 0), .ref ((o 2) 0), .ref ((o 3) 0), .ref ((o 8) 0)]))] ++ zbat cs (o 1) A) [0, 1, 2, 3, 4, 5, 6, 7] rfl) hK (hD.sub (ws' := [((o 0) 0, .inr (5, [.ref ((o 1) 0), .ref ((o 2) 0), .ref ((o 3) 0), .ref ((o 8) 0)]))] ++ zbat cs (o 1) A) [0, 1, 2, 3, 4, 5, 6, 7] (by decide) rfl) hN hU hW⟩ rfl rfl hl.1 rfl (lv_room (Nat.le_of_ble_eq_true rfl)) dL_charge_4 ⟨(Nat.le_of_ble_eq_true rfl), (Nat.le_of_ble_eq_true rfl)⟩) ?_
  refine zr_last (D := D) (g := gu) hx hb hK hP hD hS 8 2 rfl rfl (by decide) (by decide) dL_charge_7 (fun H locs hP hD hS => ?_)
  have hP9 : va_P D vwCl ([((o 0) 0, .inr (5, [.ref ((o 1) 0), .ref ((o 2) 0), .ref ((o 3) 0), .ref ((o 8) 0)]))] ++ (zbat cs (o 1) A ++ [(ou, .inl (cs 2, 1, .inr (.inl (zAL (zU gu 0 (A (34 + xw)))))))])) H := hP
  have hD9 : va_D A0 ([((o 0) 0, .inr (5, [.ref ((o 1) 0), .ref ((o 2) 0), .ref ((o 3) 0), .ref ((o 8) 0)]))] ++ (zbat cs (o 1) A ++ [(ou, .inl (cs 2, 1, .inr (.inl (zAL (zU gu 0 (A (34 + xw)))))))])) := zD_addr hD rfl
  refine lv_goto (tgt := 14) hx hb dL_charge_8 (by decide) ?_
  refine zr_iconst hx hb dL_charge_14 ?_
  refine vx_ret ?_
  rw [hAe] at hD9 hS
  exact W.iret hx hb hr (fun t ht hW => ⟨⟨_, (), rfl, rfl, by rw [ht]; exact hP9, hD9⟩, hS.F ht⟩) hS.2.2 dL_charge_15
set_option maxHeartbeats 4000000 in
set_option maxRecDepth 100000 in
theorem met_L_charge_x (l : Launch) (hfl : l.stackTraces = false) (D : va_G) (cs : Nat → ClassId) (o : Nat → Nat → Nat) (ou : Nat) (gu : Int → Int) (A : Int → Int) (xw : Int) (rxw : -2147483648 ≤ xw ∧ xw ≤ 2147483647) (kno : ¬ (0 ≤ xw ∧ xw ≤ 6)) : vx_Met l yL_charge wsL_charge ({ frames := 8, cells := 1, slots := 6, locals := 125 }) (va_Pc [.ref ((o 0) 0), .int (zI xw), .ref ou] (zPreU D (zTy cs) ([((o 0) 0, .inr (5, [.ref ((o 1) 0), .ref ((o 2) 0), .ref ((o 3) 0), .ref ((o 8) 0)]))] ++ (zbat cs (o 1) A ++ [(ou, .inl (cs 2, 1, .inr (.inl (zAL gu))))])))) (zQk 1) zXN 1 6 (fun _ => False) := by
  refine vx_ofWH (cc := cL_charge) (maxL := 4) (ret := (some .int)) (hh := [(0, 8, 11, 13)]) (by decide +kernel) rfl ?_
  intro p e s m args below meth c s₁ B hml hv
  obtain ⟨rfl, ⟨⟨hP, hK, hD0, hN⟩, hX⟩, hC⟩ := hv
  have hx := B.exec
  have hb := B.bytes
  have hr := B.returns
  have hts := atoms_spec (ws := wsL_charge) B.pre
  have hown : s.vm.findClass RL = some m.cls := findClass_of_methodNamed B.named
  have hlocks := B.notSynchronized
  have hX : zXF s s.heap := hX
  have hS : va_S (fun _ => False) s.heap s.heap [] := va_S.rf
  have hD := hD0
  have hP : va_P D vwCl ([((o 0) 0, .inr (5, [.ref ((o 1) 0), .ref ((o 2) 0), .ref ((o 3) 0), .ref ((o 8) 0)]))] ++ (zbat cs (o 1) A ++ [(ou, .inl (cs 2, 1, .inr (.inl (zAL gu))))])) s.heap := hP
  have hl := lv_entry ([.ref ((o 0) 0), .int (zI xw), .ref ou]) (n := 4) (Nat.le_of_ble_eq_true rfl)
  rw [lg_entry_eq]
  generalize (lg_sl ([.ref ((o 0) 0), .int (zI xw), .ref ou]) ++ List.replicate (4 - (lg_sl ([.ref ((o 0) 0), .int (zI xw), .ref ou])).length) Slot.unset).toArray = ls at hl ⊢
  have hl : lv_has ls 4 [(0, .ref ((o 0) 0)), (1, .int (zI xw)), (2, .ref ou)] := hl
  refine lv_aload_n hx hb dL_charge_0 rfl (lv_at hl 2 rfl) ?_
  refine zr_iconst hx hb dL_charge_1 ?_
  refine lv_aload_n hx hb dL_charge_2 rfl (lv_at hl 0 rfl) ?_
  refine lv_iload_n hx hb dL_charge_3 rfl (lv_at hl 1 rfl) ?_
  refine vx_calll (vx_runV (As := [.int (zI xw)]) (rest := [.int (zI 0), .ref ou]) ⟨hx, hb, hml, hown, hts⟩ (met_X5_charge_x l hfl D cs o A xw rxw kno) (cwV 1 hts gL_charge_X5_charge rfl rfl rfl (by decide +kernel) ⟨(Nat.le_of_ble_eq_true rfl), (Nat.le_of_ble_eq_true rfl)⟩) ⟨zPreX.blind, va_recv hK hP (ci := 5) (q0 := 0) rfl rfl, fun U hU hW => zp_X (hP.sub (ws' := [((o 0) 0, .inr (5, [.ref ((o 1) 0), .ref ((o 2) 0), .ref ((o 3) 0), .ref ((o 8) 0)]))] ++ zbat cs (o 1) A) [0, 1, 2, 3, 4, 5, 6, 7] rfl) hK (hD.sub (ws' := [((o 0) 0, .inr (5, [.ref ((o 1) 0), .ref ((o 2) 0), .ref ((o 3) 0), .ref ((o 8) 0)]))] ++ zbat cs (o 1) A) [0, 1, 2, 3, 4, 5, 6, 7] (by decide) rfl) hN hX hU hW⟩ rfl rfl hl.1 rfl (lv_room (Nat.le_of_ble_eq_true rfl)) dL_charge_4 ⟨(Nat.le_of_ble_eq_true rfl), (Nat.le_of_ble_eq_true rfl)⟩) hS (fun _ _ h => h) (fun _ h => h) (fun _ _ h => h) ?_ (fun r u t H1 locs1 ht hvm hp9 _ _ _ _ => hp9.elim)
  intro E ce q9 u t H1 locs1 ht hvm hp9 hE hz hk hS1 hcell hv9 hcl
  have hE : E = "java/lang/IllegalArgumentException" := hE
  subst hE
  refine vx_catch (own := RL) (name := "java/lang/IllegalArgumentException") hown [] { startPc := 0, endPc := 8, handlerPc := 11, catchType := 13 } [] ((vx_table (x := yL_charge) B (hts _ List.mem_cons_self)).trans rfl) (fun z hz => by cases hz) (by decide) (by decide) (hts (.classLink RL 13 "java/lang/IllegalArgumentException") (by decide +kernel)) (va_Nw.use rfl (hX.1.1 (.castable "java/lang/IllegalArgumentException" "java/lang/IllegalArgumentException") (by decide +kernel))) hcell hv9 hcl ?_
  refine lv_astore_n (lv' := [(3, .ref q9), (0, .ref ((o 0) 0)), (1, .int (zI xw)), (2, .ref ou)]) hx hb dL_charge_11 rfl hl (by decide) rfl (fun ls hl => ?_)
  refine zr_iconst hx hb dL_charge_12 ?_
  refine vx_ret ?_
  exact W.iret hx hb hr (fun t ht hW => ⟨⟨_, (), rfl, rfl, trivial⟩, hS1.F ht⟩) hS1.2.2 dL_charge_13
set_option maxHeartbeats 4000000 in
set_option maxRecDepth 100000 in
theorem met_L_soc_ok (l : Launch) (D : va_G) (cs : Nat → ClassId) (o : Nat → Nat → Nat) (ou : Nat) (gu : Int → Int) (sz : Nat) (A : Int → Int) (n : Int) (xw : Int) (hI : zOK n A) (hn : 0 ≤ n ∧ n ≤ 3100000) (rxw : -2147483648 ≤ xw ∧ xw ≤ 2147483647) (kok : 0 ≤ xw ∧ xw ≤ 2) : vx_Met l yL_soc wsL_soc ({ frames := 3, cells := 0, slots := 0, locals := 65 }) (va_Pc [.ref ((o 0) 0), .int (zI xw), .ref ou] (zPreZ D (zTy cs) ([((o 0) 0, .inr (5, [.ref ((o 1) 0), .ref ((o 2) 0), .ref ((o 3) 0), .ref ((o 8) 0)]))] ++ (zbat cs (o 1) A ++ [(ou, .inl (cs 2, 1, .inr (.inl (zAL gu))))])) sz)) (zQi D ([((o 0) 0, .inr (5, [.ref ((o 1) 0), .ref ((o 2) 0), .ref ((o 3) 0), .ref ((o 8) 0)]))] ++ (zbat cs (o 1) A ++ [(ou, .inl (cs 2, 1, .inr (.inl (zAL gu))))])) sz (zI 0) ([((o 0) 0, .inr (5, [.ref ((o 1) 0), .ref ((o 2) 0), .ref ((o 3) 0), .ref ((o 8) 0)]))] ++ (zbat cs (o 1) A ++ [(ou, .inl (cs 2, 1, .inr (.inl (zAL (zU gu 0 (zW (A (34 + xw) * 10000 / A 37)))))))]))) zXN 0 0 (va_A ([((o 0) 0, .inr (5, [.ref ((o 1) 0), .ref ((o 2) 0), .ref ((o 3) 0), .ref ((o 8) 0)]))] ++ (zbat cs (o 1) A ++ [(ou, .inl (cs 2, 1, .inr (.inl (zAL gu))))])) sz) := by
  refine vx_ofWH (cc := cL_soc) (maxL := 4) (ret := (some .int)) (hh := [(0, 9, 12, 13)]) (by decide +kernel) rfl ?_
  intro p e s m args below meth c s₁ B hml hv
  obtain ⟨rfl, hsz, hP, hK, hD0, hN⟩ := hv
  have hx := B.exec
  have hb := B.bytes
  have hr := B.returns
  have hts := atoms_spec (ws := wsL_soc) B.pre
  have hown : s.vm.findClass RL = some m.cls := findClass_of_methodNamed B.named
  have hlocks := B.notSynchronized
  subst hsz
  obtain ⟨A0, hAe⟩ : ∃ A0, A0 = va_A ([((o 0) 0, .inr (5, [.ref ((o 1) 0), .ref ((o 2) 0), .ref ((o 3) 0), .ref ((o 8) 0)]))] ++ (zbat cs (o 1) A ++ [(ou, .inl (cs 2, 1, .inr (.inl (zAL gu))))])) s.heap.size := ⟨_, rfl⟩
  have hD := hD0.self (sz := s.heap.size)
  rw [← hAe] at hD
  have hA : ∀ q : Nat, s.heap.size ≤ q → A0 q := fun q h => by rw [hAe]; exact Or.inr h
  have hS : va_S A0 s.heap s.heap [] := va_S.rf
  have hP : va_P D vwCl ([((o 0) 0, .inr (5, [.ref ((o 1) 0), .ref ((o 2) 0), .ref ((o 3) 0), .ref ((o 8) 0)]))] ++ (zbat cs (o 1) A ++ [(ou, .inl (cs 2, 1, .inr (.inl (zAL gu))))])) s.heap := hP
  have hl := lv_entry ([.ref ((o 0) 0), .int (zI xw), .ref ou]) (n := 4) (Nat.le_of_ble_eq_true rfl)
  rw [lg_entry_eq]
  generalize (lg_sl ([.ref ((o 0) 0), .int (zI xw), .ref ou]) ++ List.replicate (4 - (lg_sl ([.ref ((o 0) 0), .int (zI xw), .ref ou])).length) Slot.unset).toArray = ls at hl ⊢
  have hl : lv_has ls 4 [(0, .ref ((o 0) 0)), (1, .int (zI xw)), (2, .ref ou)] := hl
  refine lv_aload_n hx hb dL_soc_0 rfl (lv_at hl 2 rfl) ?_
  refine zr_iconst hx hb dL_soc_1 ?_
  refine lv_aload_n hx hb dL_soc_2 rfl (lv_at hl 0 rfl) ?_
  refine lv_iload_n hx hb dL_soc_3 rfl (lv_at hl 1 rfl) ?_
  refine zc_ri (va_runV (As := [.int (zI xw)]) (rest := [.int (zI 0), .ref ou]) ⟨hx, hb, hml, hown, hts⟩ (met_X5_soc_ok l D cs o A n xw hI hn rxw kok) (cwV 1 hts gL_soc_X5_soc rfl rfl rfl (by decide +kernel) ⟨(Nat.le_of_ble_eq_true rfl), (Nat.le_of_ble_eq_true rfl)⟩) ⟨zPre.blind, va_recv hK hP (ci := 5) (q0 := 0) rfl rfl, fun U hU hW => zp_R (hP.sub (ws' := [((o 0) 0, .inr (5, [.ref ((o 1) 0), .ref ((o 2) 0), .ref ((o 3) 0), .ref ((o 8) 0)]))] ++ zbat cs (o 1) A) [0, 1, 2, 3, 4, 5, 6, 7] rfl) hK (hD.sub (ws' := [((o 0) 0, .inr (5, [.ref ((o 1) 0), .ref ((o 2) 0), .ref ((o 3) 0), .ref ((o 8) 0)]))] ++ zbat cs (o 1) A) [0, 1, 2, 3, 4, 5, 6, 7] (by decide) rfl) hN hU hW⟩ rfl rfl hl.1 rfl (lv_room (Nat.le_of_ble_eq_true rfl)) dL_soc_4 ⟨(Nat.le_of_ble_eq_true rfl), (Nat.le_of_ble_eq_true rfl)⟩) ?_
  refine lv_i2l hx hb dL_soc_7 (zW_l (A (34 + xw) * 10000 / A 37)) ?_
  refine zr_last (D := D) (g := gu) hx hb hK hP hD hS 8 2 rfl rfl (by decide) (by decide) dL_soc_8 (fun H locs hP hD hS => ?_)
  have hP9 : va_P D vwCl ([((o 0) 0, .inr (5, [.ref ((o 1) 0), .ref ((o 2) 0), .ref ((o 3) 0), .ref ((o 8) 0)]))] ++ (zbat cs (o 1) A ++ [(ou, .inl (cs 2, 1, .inr (.inl (zAL (zU gu 0 (zW (A (34 + xw) * 10000 / A 37)))))))])) H := hP
  have hD9 : va_D A0 ([((o 0) 0, .inr (5, [.ref ((o 1) 0), .ref ((o 2) 0), .ref ((o 3) 0), .ref ((o 8) 0)]))] ++ (zbat cs (o 1) A ++ [(ou, .inl (cs 2, 1, .inr (.inl (zAL (zU gu 0 (zW (A (34 + xw) * 10000 / A 37)))))))])) := zD_addr hD rfl
  refine lv_goto (tgt := 15) hx hb dL_soc_9 (by decide) ?_
  refine zr_iconst hx hb dL_soc_15 ?_
  refine vx_ret ?_
  rw [hAe] at hD9 hS
  exact W.iret hx hb hr (fun t ht hW => ⟨⟨_, (), rfl, rfl, by rw [ht]; exact hP9, hD9⟩, hS.F ht⟩) hS.2.2 dL_soc_16
set_option maxHeartbeats 4000000 in
set_option maxRecDepth 100000 in
theorem met_L_soc_x (l : Launch) (hfl : l.stackTraces = false) (D : va_G) (cs : Nat → ClassId) (o : Nat → Nat → Nat) (ou : Nat) (gu : Int → Int) (A : Int → Int) (xw : Int) (rxw : -2147483648 ≤ xw ∧ xw ≤ 2147483647) (kno : ¬ (0 ≤ xw ∧ xw ≤ 2)) : vx_Met l yL_soc wsL_soc ({ frames := 8, cells := 1, slots := 6, locals := 125 }) (va_Pc [.ref ((o 0) 0), .int (zI xw), .ref ou] (zPreU D (zTy cs) ([((o 0) 0, .inr (5, [.ref ((o 1) 0), .ref ((o 2) 0), .ref ((o 3) 0), .ref ((o 8) 0)]))] ++ (zbat cs (o 1) A ++ [(ou, .inl (cs 2, 1, .inr (.inl (zAL gu))))])))) (zQk 1) zXN 1 6 (fun _ => False) := by
  refine vx_ofWH (cc := cL_soc) (maxL := 4) (ret := (some .int)) (hh := [(0, 9, 12, 13)]) (by decide +kernel) rfl ?_
  intro p e s m args below meth c s₁ B hml hv
  obtain ⟨rfl, ⟨⟨hP, hK, hD0, hN⟩, hX⟩, hC⟩ := hv
  have hx := B.exec
  have hb := B.bytes
  have hr := B.returns
  have hts := atoms_spec (ws := wsL_soc) B.pre
  have hown : s.vm.findClass RL = some m.cls := findClass_of_methodNamed B.named
  have hlocks := B.notSynchronized
  have hX : zXF s s.heap := hX
  have hS : va_S (fun _ => False) s.heap s.heap [] := va_S.rf
  have hD := hD0
  have hP : va_P D vwCl ([((o 0) 0, .inr (5, [.ref ((o 1) 0), .ref ((o 2) 0), .ref ((o 3) 0), .ref ((o 8) 0)]))] ++ (zbat cs (o 1) A ++ [(ou, .inl (cs 2, 1, .inr (.inl (zAL gu))))])) s.heap := hP
  have hl := lv_entry ([.ref ((o 0) 0), .int (zI xw), .ref ou]) (n := 4) (Nat.le_of_ble_eq_true rfl)
  rw [lg_entry_eq]
  generalize (lg_sl ([.ref ((o 0) 0), .int (zI xw), .ref ou]) ++ List.replicate (4 - (lg_sl ([.ref ((o 0) 0), .int (zI xw), .ref ou])).length) Slot.unset).toArray = ls at hl ⊢
  have hl : lv_has ls 4 [(0, .ref ((o 0) 0)), (1, .int (zI xw)), (2, .ref ou)] := hl
  refine lv_aload_n hx hb dL_soc_0 rfl (lv_at hl 2 rfl) ?_
  refine zr_iconst hx hb dL_soc_1 ?_
  refine lv_aload_n hx hb dL_soc_2 rfl (lv_at hl 0 rfl) ?_
  refine lv_iload_n hx hb dL_soc_3 rfl (lv_at hl 1 rfl) ?_
  refine vx_calli (vx_runV (As := [.int (zI xw)]) (rest := [.int (zI 0), .ref ou]) ⟨hx, hb, hml, hown, hts⟩ (met_X5_soc_x l hfl D cs o A xw rxw kno) (cwV 1 hts gL_soc_X5_soc rfl rfl rfl (by decide +kernel) ⟨(Nat.le_of_ble_eq_true rfl), (Nat.le_of_ble_eq_true rfl)⟩) ⟨zPreX.blind, va_recv hK hP (ci := 5) (q0 := 0) rfl rfl, fun U hU hW => zp_X (hP.sub (ws' := [((o 0) 0, .inr (5, [.ref ((o 1) 0), .ref ((o 2) 0), .ref ((o 3) 0), .ref ((o 8) 0)]))] ++ zbat cs (o 1) A) [0, 1, 2, 3, 4, 5, 6, 7] rfl) hK (hD.sub (ws' := [((o 0) 0, .inr (5, [.ref ((o 1) 0), .ref ((o 2) 0), .ref ((o 3) 0), .ref ((o 8) 0)]))] ++ zbat cs (o 1) A) [0, 1, 2, 3, 4, 5, 6, 7] (by decide) rfl) hN hX hU hW⟩ rfl rfl hl.1 rfl (lv_room (Nat.le_of_ble_eq_true rfl)) dL_soc_4 ⟨(Nat.le_of_ble_eq_true rfl), (Nat.le_of_ble_eq_true rfl)⟩) hS (fun _ _ h => h) (fun _ h => h) (fun _ _ h => h) ?_ (fun r u t H1 locs1 ht hvm hp9 _ _ _ _ => hp9.elim)
  intro E ce q9 u t H1 locs1 ht hvm hp9 hE hz hk hS1 hcell hv9 hcl
  have hE : E = "java/lang/IllegalArgumentException" := hE
  subst hE
  refine vx_catch (own := RL) (name := "java/lang/IllegalArgumentException") hown [] { startPc := 0, endPc := 9, handlerPc := 12, catchType := 13 } [] ((vx_table (x := yL_soc) B (hts _ List.mem_cons_self)).trans rfl) (fun z hz => by cases hz) (by decide) (by decide) (hts (.classLink RL 13 "java/lang/IllegalArgumentException") (by decide +kernel)) (va_Nw.use rfl (hX.1.1 (.castable "java/lang/IllegalArgumentException" "java/lang/IllegalArgumentException") (by decide +kernel))) hcell hv9 hcl ?_
  refine lv_astore_n (lv' := [(3, .ref q9), (0, .ref ((o 0) 0)), (1, .int (zI xw)), (2, .ref ou)]) hx hb dL_soc_12 rfl hl (by decide) rfl (fun ls hl => ?_)
  refine zr_iconst hx hb dL_soc_13 ?_
  refine vx_ret ?_
  exact W.iret hx hb hr (fun t ht hW => ⟨⟨_, (), rfl, rfl, trivial⟩, hS1.F ht⟩) hS1.2.2 dL_soc_14
set_option maxHeartbeats 4000000 in
set_option maxRecDepth 100000 in
theorem met_L_status_ok (l : Launch) (D : va_G) (cs : Nat → ClassId) (o : Nat → Nat → Nat) (ou : Nat) (gu : Int → Int) (sz : Nat) (A : Int → Int) (n : Int) (xw : Int) (hI : zOK n A) (hn : 0 ≤ n ∧ n ≤ 3100000) (rxw : -2147483648 ≤ xw ∧ xw ≤ 2147483647) (kok : 0 ≤ xw ∧ xw ≤ 5) : vx_Met l yL_status wsL_status ({ frames := 4, cells := 0, slots := 0, locals := 84 }) (va_Pc [.ref ((o 0) 0), .int (zI xw), .ref ou] (zPreZ D (zTy cs) ([((o 0) 0, .inr (5, [.ref ((o 1) 0), .ref ((o 2) 0), .ref ((o 3) 0), .ref ((o 8) 0)]))] ++ (zbat cs (o 1) A ++ [(ou, .inl (cs 2, 1, .inr (.inl (zAL gu))))])) sz)) (zQi D ([((o 0) 0, .inr (5, [.ref ((o 1) 0), .ref ((o 2) 0), .ref ((o 3) 0), .ref ((o 8) 0)]))] ++ (zbat cs (o 1) A ++ [(ou, .inl (cs 2, 1, .inr (.inl (zAL gu))))])) sz (zI 0) ([((o 0) 0, .inr (5, [.ref ((o 1) 0), .ref ((o 2) 0), .ref ((o 3) 0), .ref ((o 8) 0)]))] ++ (zbat cs (o 1) A ++ [(ou, .inl (cs 2, 1, .inr (.inl (zAL (zU gu 0 (zW (zStt A xw)))))))]))) zXN 0 0 (va_A ([((o 0) 0, .inr (5, [.ref ((o 1) 0), .ref ((o 2) 0), .ref ((o 3) 0), .ref ((o 8) 0)]))] ++ (zbat cs (o 1) A ++ [(ou, .inl (cs 2, 1, .inr (.inl (zAL gu))))])) sz) := by
  refine vx_ofWH (cc := cL_status) (maxL := 4) (ret := (some .int)) (hh := [(0, 9, 12, 13)]) (by decide +kernel) rfl ?_
  intro p e s m args below meth c s₁ B hml hv
  obtain ⟨rfl, hsz, hP, hK, hD0, hN⟩ := hv
  have hx := B.exec
  have hb := B.bytes
  have hr := B.returns
  have hts := atoms_spec (ws := wsL_status) B.pre
  have hown : s.vm.findClass RL = some m.cls := findClass_of_methodNamed B.named
  have hlocks := B.notSynchronized
  subst hsz
  obtain ⟨A0, hAe⟩ : ∃ A0, A0 = va_A ([((o 0) 0, .inr (5, [.ref ((o 1) 0), .ref ((o 2) 0), .ref ((o 3) 0), .ref ((o 8) 0)]))] ++ (zbat cs (o 1) A ++ [(ou, .inl (cs 2, 1, .inr (.inl (zAL gu))))])) s.heap.size := ⟨_, rfl⟩
  have hD := hD0.self (sz := s.heap.size)
  rw [← hAe] at hD
  have hA : ∀ q : Nat, s.heap.size ≤ q → A0 q := fun q h => by rw [hAe]; exact Or.inr h
  have hS : va_S A0 s.heap s.heap [] := va_S.rf
  have hP : va_P D vwCl ([((o 0) 0, .inr (5, [.ref ((o 1) 0), .ref ((o 2) 0), .ref ((o 3) 0), .ref ((o 8) 0)]))] ++ (zbat cs (o 1) A ++ [(ou, .inl (cs 2, 1, .inr (.inl (zAL gu))))])) s.heap := hP
  have hl := lv_entry ([.ref ((o 0) 0), .int (zI xw), .ref ou]) (n := 4) (Nat.le_of_ble_eq_true rfl)
  rw [lg_entry_eq]
  generalize (lg_sl ([.ref ((o 0) 0), .int (zI xw), .ref ou]) ++ List.replicate (4 - (lg_sl ([.ref ((o 0) 0), .int (zI xw), .ref ou])).length) Slot.unset).toArray = ls at hl ⊢
  have hl : lv_has ls 4 [(0, .ref ((o 0) 0)), (1, .int (zI xw)), (2, .ref ou)] := hl
  refine lv_aload_n hx hb dL_status_0 rfl (lv_at hl 2 rfl) ?_
  refine zr_iconst hx hb dL_status_1 ?_
  refine lv_aload_n hx hb dL_status_2 rfl (lv_at hl 0 rfl) ?_
  refine lv_iload_n hx hb dL_status_3 rfl (lv_at hl 1 rfl) ?_
  refine zc_ri (va_runV (As := [.int (zI xw)]) (rest := [.int (zI 0), .ref ou]) ⟨hx, hb, hml, hown, hts⟩ (met_X5_status_ok l D cs o A n xw hI hn rxw kok) (cwV 1 hts gL_status_X5_status rfl rfl rfl (by decide +kernel) ⟨(Nat.le_of_ble_eq_true rfl), (Nat.le_of_ble_eq_true rfl)⟩) ⟨zPre.blind, va_recv hK hP (ci := 5) (q0 := 0) rfl rfl, fun U hU hW => zp_R (hP.sub (ws' := [((o 0) 0, .inr (5, [.ref ((o 1) 0), .ref ((o 2) 0), .ref ((o 3) 0), .ref ((o 8) 0)]))] ++ zbat cs (o 1) A) [0, 1, 2, 3, 4, 5, 6, 7] rfl) hK (hD.sub (ws' := [((o 0) 0, .inr (5, [.ref ((o 1) 0), .ref ((o 2) 0), .ref ((o 3) 0), .ref ((o 8) 0)]))] ++ zbat cs (o 1) A) [0, 1, 2, 3, 4, 5, 6, 7] (by decide) rfl) hN hU hW⟩ rfl rfl hl.1 rfl (lv_room (Nat.le_of_ble_eq_true rfl)) dL_status_4 ⟨(Nat.le_of_ble_eq_true rfl), (Nat.le_of_ble_eq_true rfl)⟩) ?_
  refine lv_i2l hx hb dL_status_7 (zW_l (zStt A xw)) ?_
  refine zr_last (D := D) (g := gu) hx hb hK hP hD hS 8 2 rfl rfl (by decide) (by decide) dL_status_8 (fun H locs hP hD hS => ?_)
  have hP9 : va_P D vwCl ([((o 0) 0, .inr (5, [.ref ((o 1) 0), .ref ((o 2) 0), .ref ((o 3) 0), .ref ((o 8) 0)]))] ++ (zbat cs (o 1) A ++ [(ou, .inl (cs 2, 1, .inr (.inl (zAL (zU gu 0 (zW (zStt A xw)))))))])) H := hP
  have hD9 : va_D A0 ([((o 0) 0, .inr (5, [.ref ((o 1) 0), .ref ((o 2) 0), .ref ((o 3) 0), .ref ((o 8) 0)]))] ++ (zbat cs (o 1) A ++ [(ou, .inl (cs 2, 1, .inr (.inl (zAL (zU gu 0 (zW (zStt A xw)))))))])) := zD_addr hD rfl
  refine lv_goto (tgt := 15) hx hb dL_status_9 (by decide) ?_
  refine zr_iconst hx hb dL_status_15 ?_
  refine vx_ret ?_
  rw [hAe] at hD9 hS
  exact W.iret hx hb hr (fun t ht hW => ⟨⟨_, (), rfl, rfl, by rw [ht]; exact hP9, hD9⟩, hS.F ht⟩) hS.2.2 dL_status_16
