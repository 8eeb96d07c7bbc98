/-! the law: its wrappers -/
def zW (v : Int) : Int := (zI v).toInt
theorem zW_l (v : Int) : (zI v).toInt64 = zL (zW v) := by
  unfold zW zL
  rw [Int64.ofInt_int32ToInt]
theorem zW_r (v : Int) : -2147483648 ≤ zW v ∧ zW v ≤ 2147483647 := by
  unfold zW
  have h1 := Int32.le_toInt (zI v)
  have h2 := Int32.toInt_lt (zI v)
  omega
def zNcP (U : State) : Prop := va_Nc "java/lang/IllegalArgumentException" "java/lang/IndexOutOfBoundsException" U ∧ va_Nc "java/lang/IllegalStateException" "java/lang/IllegalArgumentException" U
def zPreU (D : va_G) (tys : List (ClassId × FieldType)) (w : va_W) (U : State) : Prop := zPreX D tys w U ∧ zNcP U
theorem zPreU.blind {D : va_G} {tys : List (ClassId × FieldType)} {w : va_W} {av : List Value} : FrameBlind (va_Pc av (zPreU D tys w)) := fun a U g mk ⟨h0, h1, h2, h3⟩ => ⟨h0, (zPreX.blind (av := av) a U g mk ⟨h0, h1⟩).2, va_Nc.moved (u := U) (U := U.calling g mk a) (Vm.Alike.refl U.vm) h2, va_Nc.moved (u := U) (U := U.calling g mk a) (Vm.Alike.refl U.vm) h3⟩
theorem zp_U {D : va_G} {tys : List (ClassId × FieldType)} {w : va_W} {s U : State} {H : Heap} {av : List Value} {A : Nat → Prop} (hP : va_P D vwCl w H) (hK : va_K D vwCl tys s) (hD : va_D A w) (hN : zNW s) (hX : zXF s H) (hC : zNcP s) (hU : U.heap = H) (hW : s.WarmedH U.vm) : va_Pc av (zPreU D tys w) av.toArray U := ⟨rfl, (zp_X (av := av) hP hK hD hN hX hU hW).2, va_Nc.moved hW.alike hC.1, va_Nc.moved hW.alike hC.2⟩
/-- it never throws -/
def zXN : String → State → State → Prop := vx_X (fun _ : Unit => False) (fun _ _ _ => True) (fun _ => False)
/-- it answers v, and nothing that was there has changed -/
def zQk (v : Int) : Array Value → State → Outcome → State → Prop := va_Qi (fun r (_ : Unit) => r = zI v) (fun _ _ => True) (fun _ => False)
set_option maxHeartbeats 4000000 in
set_option maxRecDepth 100000 in
theorem met_L_begin_ok (l : Launch) (D : va_G) (cs : Nat → ClassId) (o : Nat → Nat → Nat) (ou : Nat) (gu : Int → Int) (sz : Nat) (A S0 S1 S2 S3 : Int → Int) (xm : Int) (n : Int) (xc : Int) (xh : Int) (hI : zOK n A) (hn : 0 ≤ n ∧ n ≤ 3100000) (kxm : 0 ≤ xm ∧ xm ≤ 4) (rxc : -2147483648 ≤ xc ∧ xc ≤ 2147483647) (rxh : -2147483648 ≤ xh ∧ xh ≤ 2147483647) (kok : (100 ≤ xc ∧ xc ≤ 20000) ∧ -1 ≤ xh ∧ xh ≤ 10000) : vx_Met l yL_begin wsL_begin ({ frames := 5, cells := 0, slots := 0, locals := 105 }) (va_Pc [.ref ((o 0) 0), .int (zI xc), .int (zI xh), .ref ou] (zPreZ D (zTy cs) ([((o 0) 0, .inr (5, [.ref ((o 1) 0), .ref ((o 2) 0), .ref ((o 3) 0), .ref ((o 8) 0)]))] ++ (zbat cs (o 1) A ++ ([((o 3) 0, .inr (3, [.ref ((o 3) 1), .int (zI xm)])), ((o 3) 1, .inl (cs 3, 4, .inr (.inr (.inr (.inr (zR ((o 4) 0) ((o 5) 0) ((o 6) 0) ((o 7) 0)))))))] ++ (zbat cs (o 4) S0 ++ (zbat cs (o 5) S1 ++ (zbat cs (o 6) S2 ++ (zbat cs (o 7) S3 ++ [(ou, .inl (cs 2, 1, .inr (.inl (zAL gu))))]))))))) sz)) (zQi D ([((o 0) 0, .inr (5, [.ref ((o 1) 0), .ref ((o 2) 0), .ref ((o 3) 0), .ref ((o 8) 0)]))] ++ (zbat cs (o 1) A ++ ([((o 3) 0, .inr (3, [.ref ((o 3) 1), .int (zI xm)])), ((o 3) 1, .inl (cs 3, 4, .inr (.inr (.inr (.inr (zR ((o 4) 0) ((o 5) 0) ((o 6) 0) ((o 7) 0)))))))] ++ (zbat cs (o 4) S0 ++ (zbat cs (o 5) S1 ++ (zbat cs (o 6) S2 ++ (zbat cs (o 7) S3 ++ [(ou, .inl (cs 2, 1, .inr (.inl (zAL gu))))]))))))) sz (zI 0) ([((o 0) 0, .inr (5, [.ref ((o 1) 0), .ref ((o 2) 0), .ref ((o 3) 0), .ref ((o 8) 0)]))] ++ (zbat cs (o 1) (zBeg A xc xh) ++ ([((o 3) 0, .inr (3, [.ref ((o 3) 1), .int (zI (zm4 xm))])), ((o 3) 1, .inl (cs 3, 4, .inr (.inr (.inr (.inr (zR ((zq4 xm (o 5) (o 4)) 0) ((zq4 xm (o 6) (o 5)) 0) ((zq4 xm (o 7) (o 6)) 0) ((zq4 xm (o 4) (o 7)) 0)))))))] ++ (zbat cs (zq4 xm (o 5) (o 4)) (zs4 xm 0 A S0 S1) ++ (zbat cs (zq4 xm (o 6) (o 5)) (zs4 xm 1 A S1 S2) ++ (zbat cs (zq4 xm (o 7) (o 6)) (zs4 xm 2 A S2 S3) ++ (zbat cs (zq4 xm (o 4) (o 7)) (zs4 xm 3 A S3 A) ++ [(ou, .inl (cs 2, 1, .inr (.inl (zAL (zU gu 0 (zW (A 52)))))))])))))))) zXN 0 0 (va_A ([((o 0) 0, .inr (5, [.ref ((o 1) 0), .ref ((o 2) 0), .ref ((o 3) 0), .ref ((o 8) 0)]))] ++ (zbat cs (o 1) A ++ ([((o 3) 0, .inr (3, [.ref ((o 3) 1), .int (zI xm)])), ((o 3) 1, .inl (cs 3, 4, .inr (.inr (.inr (.inr (zR ((o 4) 0) ((o 5) 0) ((o 6) 0) ((o 7) 0)))))))] ++ (zbat cs (o 4) S0 ++ (zbat cs (o 5) S1 ++ (zbat cs (o 6) S2 ++ (zbat cs (o 7) S3 ++ [(ou, .inl (cs 2, 1, .inr (.inl (zAL gu))))]))))))) sz) := by
  refine vx_ofWH (cc := cL_begin) (maxL := 5) (ret := (some .int)) (hh := [(0, 10, 13, 13)]) (by decide +kernel) rfl ?_
  intro p e s m args below meth c s₁ B hml hv
  obtain ⟨rfl, hsz, hP, hK, hD0, hN⟩ := hv
  have hx := B.exec
  have hb := B.bytes
  have hr := B.returns
  have hts := atoms_spec (ws := wsL_begin) B.pre
  have hown : s.vm.findClass RL = some m.cls := findClass_of_methodNamed B.named
  have hlocks := B.notSynchronized
  subst hsz
  obtain ⟨A0, hAe⟩ : ∃ A0, A0 = va_A ([((o 0) 0, .inr (5, [.ref ((o 1) 0), .ref ((o 2) 0), .ref ((o 3) 0), .ref ((o 8) 0)]))] ++ (zbat cs (o 1) A ++ ([((o 3) 0, .inr (3, [.ref ((o 3) 1), .int (zI xm)])), ((o 3) 1, .inl (cs 3, 4, .inr (.inr (.inr (.inr (zR ((o 4) 0) ((o 5) 0) ((o 6) 0) ((o 7) 0)))))))] ++ (zbat cs (o 4) S0 ++ (zbat cs (o 5) S1 ++ (zbat cs (o 6) S2 ++ (zbat cs (o 7) S3 ++ [(ou, .inl (cs 2, 1, .inr (.inl (zAL gu))))]))))))) s.heap.size := ⟨_, rfl⟩
  have hD := hD0.self (sz := s.heap.size)
  rw [← hAe] at hD
  have hA : ∀ q : Nat, s.heap.size ≤ q → A0 q := fun q h => by rw [hAe]; exact Or.inr h
  have hS : va_S A0 s.heap s.heap [] := va_S.rf
  have hP : va_P D vwCl ([((o 0) 0, .inr (5, [.ref ((o 1) 0), .ref ((o 2) 0), .ref ((o 3) 0), .ref ((o 8) 0)]))] ++ (zbat cs (o 1) A ++ ([((o 3) 0, .inr (3, [.ref ((o 3) 1), .int (zI xm)])), ((o 3) 1, .inl (cs 3, 4, .inr (.inr (.inr (.inr (zR ((o 4) 0) ((o 5) 0) ((o 6) 0) ((o 7) 0)))))))] ++ (zbat cs (o 4) S0 ++ (zbat cs (o 5) S1 ++ (zbat cs (o 6) S2 ++ (zbat cs (o 7) S3 ++ [(ou, .inl (cs 2, 1, .inr (.inl (zAL gu))))]))))))) s.heap := hP
  have hl := lv_entry ([.ref ((o 0) 0), .int (zI xc), .int (zI xh), .ref ou]) (n := 5) (Nat.le_of_ble_eq_true rfl)
  rw [lg_entry_eq]
  generalize (lg_sl ([.ref ((o 0) 0), .int (zI xc), .int (zI xh), .ref ou]) ++ List.replicate (5 - (lg_sl ([.ref ((o 0) 0), .int (zI xc), .int (zI xh), .ref ou])).length) Slot.unset).toArray = ls at hl ⊢
  have hl : lv_has ls 5 [(0, .ref ((o 0) 0)), (1, .int (zI xc)), (2, .int (zI xh)), (3, .ref ou)] := hl
  refine lv_aload_n hx hb dL_begin_0 rfl (lv_at hl 3 rfl) ?_
  refine zr_iconst hx hb dL_begin_1 ?_
  refine lv_aload_n hx hb dL_begin_2 rfl (lv_at hl 0 rfl) ?_
  refine lv_iload_n hx hb dL_begin_3 rfl (lv_at hl 1 rfl) ?_
  refine lv_iload_n hx hb dL_begin_4 rfl (lv_at hl 2 rfl) ?_
  refine zc_ij (w := [((o 0) 0, .inr (5, [.ref ((o 1) 0), .ref ((o 2) 0), .ref ((o 3) 0), .ref ((o 8) 0)]))] ++ (zbat cs (o 1) A ++ ([((o 3) 0, .inr (3, [.ref ((o 3) 1), .int (zI xm)])), ((o 3) 1, .inl (cs 3, 4, .inr (.inr (.inr (.inr (zR ((o 4) 0) ((o 5) 0) ((o 6) 0) ((o 7) 0)))))))] ++ (zbat cs (o 4) S0 ++ (zbat cs (o 5) S1 ++ (zbat cs (o 6) S2 ++ zbat cs (o 7) S3)))))) (wr := [(ou, .inl (cs 2, 1, .inr (.inl (zAL gu))))]) (va_runV (As := [.int (zI xc), .int (zI xh)]) (rest := [.int (zI 0), .ref ou]) ⟨hx, hb, hml, hown, hts⟩ (met_X5_begin_ok l D cs o s.heap.size A S0 S1 S2 S3 xm n xc xh hI hn kxm rxc rxh kok) (cwV 2 hts gL_begin_X5_begin rfl rfl rfl (by decide +kernel) ⟨(Nat.le_of_ble_eq_true rfl), (Nat.le_of_ble_eq_true rfl)⟩) ⟨zPreZ.blind, va_recv hK hP (ci := 5) (q0 := 0) rfl rfl, fun U hU hW => zp_Z (hP.sub (ws' := [((o 0) 0, .inr (5, [.ref ((o 1) 0), .ref ((o 2) 0), .ref ((o 3) 0), .ref ((o 8) 0)]))] ++ (zbat cs (o 1) A ++ ([((o 3) 0, .inr (3, [.ref ((o 3) 1), .int (zI xm)])), ((o 3) 1, .inl (cs 3, 4, .inr (.inr (.inr (.inr (zR ((o 4) 0) ((o 5) 0) ((o 6) 0) ((o 7) 0)))))))] ++ (zbat cs (o 4) S0 ++ (zbat cs (o 5) S1 ++ (zbat cs (o 6) S2 ++ zbat cs (o 7) S3)))))) [0, 1, 2, 3, 4, 5, 6, 7, 8, 9, 10, 11, 12, 13, 14, 15, 16, 17, 18, 19, 20, 21, 22, 23, 24, 25, 26, 27, 28, 29, 30, 31, 32, 33, 34, 35, 36, 37] rfl) hK (hD.sub (ws' := [((o 0) 0, .inr (5, [.ref ((o 1) 0), .ref ((o 2) 0), .ref ((o 3) 0), .ref ((o 8) 0)]))] ++ (zbat cs (o 1) A ++ ([((o 3) 0, .inr (3, [.ref ((o 3) 1), .int (zI xm)])), ((o 3) 1, .inl (cs 3, 4, .inr (.inr (.inr (.inr (zR ((o 4) 0) ((o 5) 0) ((o 6) 0) ((o 7) 0)))))))] ++ (zbat cs (o 4) S0 ++ (zbat cs (o 5) S1 ++ (zbat cs (o 6) S2 ++ zbat cs (o 7) S3)))))) [0, 1, 2, 3, 4, 5, 6, 7, 8, 9, 10, 11, 12, 13, 14, 15, 16, 17, 18, 19, 20, 21, 22, 23, 24, 25, 26, 27, 28, 29, 30, 31, 32, 33, 34, 35, 36, 37] (by decide) rfl) hN hU hW⟩ rfl rfl hl.1 rfl (lv_room (Nat.le_of_ble_eq_true rfl)) dL_begin_5 ⟨(Nat.le_of_ble_eq_true rfl), (Nat.le_of_ble_eq_true rfl)⟩) hS hP hD hA [0, 1, 2, 3, 4, 5, 6, 7, 8, 9, 10, 11, 12, 13, 14, 15, 16, 17, 18, 19, 20, 21, 22, 23, 24, 25, 26, 27, 28, 29, 30, 31, 32, 33, 34, 35, 36, 37] [38] rfl rfl (by decide) (by decide) (fun H locs hP hD hS => ?_)
  have hP : va_P D vwCl ([((o 0) 0, .inr (5, [.ref ((o 1) 0), .ref ((o 2) 0), .ref ((o 3) 0), .ref ((o 8) 0)]))] ++ (zbat cs (o 1) (zBeg A xc xh) ++ ([((o 3) 0, .inr (3, [.ref ((o 3) 1), .int (zI (zm4 xm))])), ((o 3) 1, .inl (cs 3, 4, .inr (.inr (.inr (.inr (zR ((zq4 xm (o 5) (o 4)) 0) ((zq4 xm (o 6) (o 5)) 0) ((zq4 xm (o 7) (o 6)) 0) ((zq4 xm (o 4) (o 7)) 0)))))))] ++ (zbat cs (zq4 xm (o 5) (o 4)) (zs4 xm 0 A S0 S1) ++ (zbat cs (zq4 xm (o 6) (o 5)) (zs4 xm 1 A S1 S2) ++ (zbat cs (zq4 xm (o 7) (o 6)) (zs4 xm 2 A S2 S3) ++ (zbat cs (zq4 xm (o 4) (o 7)) (zs4 xm 3 A S3 A) ++ [(ou, .inl (cs 2, 1, .inr (.inl (zAL gu))))]))))))) H := hP.sub (ws' := [((o 0) 0, .inr (5, [.ref ((o 1) 0), .ref ((o 2) 0), .ref ((o 3) 0), .ref ((o 8) 0)]))] ++ (zbat cs (o 1) (zBeg A xc xh) ++ ([((o 3) 0, .inr (3, [.ref ((o 3) 1), .int (zI (zm4 xm))])), ((o 3) 1, .inl (cs 3, 4, .inr (.inr (.inr (.inr (zR ((zq4 xm (o 5) (o 4)) 0) ((zq4 xm (o 6) (o 5)) 0) ((zq4 xm (o 7) (o 6)) 0) ((zq4 xm (o 4) (o 7)) 0)))))))] ++ (zbat cs (zq4 xm (o 5) (o 4)) (zs4 xm 0 A S0 S1) ++ (zbat cs (zq4 xm (o 6) (o 5)) (zs4 xm 1 A S1 S2) ++ (zbat cs (zq4 xm (o 7) (o 6)) (zs4 xm 2 A S2 S3) ++ (zbat cs (zq4 xm (o 4) (o 7)) (zs4 xm 3 A S3 A) ++ [(ou, .inl (cs 2, 1, .inr (.inl (zAL gu))))]))))))) [1, 2, 3, 4, 5, 6, 7, 8, 9, 10, 11, 12, 13, 14, 15, 16, 17, 18, 19, 20, 21, 22, 23, 24, 25, 26, 27, 28, 29, 30, 31, 32, 33, 34, 35, 36, 37, 38, 0] rfl
  have hD : va_D A0 ([((o 0) 0, .inr (5, [.ref ((o 1) 0), .ref ((o 2) 0), .ref ((o 3) 0), .ref ((o 8) 0)]))] ++ (zbat cs (o 1) (zBeg A xc xh) ++ ([((o 3) 0, .inr (3, [.ref ((o 3) 1), .int (zI (zm4 xm))])), ((o 3) 1, .inl (cs 3, 4, .inr (.inr (.inr (.inr (zR ((zq4 xm (o 5) (o 4)) 0) ((zq4 xm (o 6) (o 5)) 0) ((zq4 xm (o 7) (o 6)) 0) ((zq4 xm (o 4) (o 7)) 0)))))))] ++ (zbat cs (zq4 xm (o 5) (o 4)) (zs4 xm 0 A S0 S1) ++ (zbat cs (zq4 xm (o 6) (o 5)) (zs4 xm 1 A S1 S2) ++ (zbat cs (zq4 xm (o 7) (o 6)) (zs4 xm 2 A S2 S3) ++ (zbat cs (zq4 xm (o 4) (o 7)) (zs4 xm 3 A S3 A) ++ [(ou, .inl (cs 2, 1, .inr (.inl (zAL gu))))]))))))) := hD.sub (ws' := [((o 0) 0, .inr (5, [.ref ((o 1) 0), .ref ((o 2) 0), .ref ((o 3) 0), .ref ((o 8) 0)]))] ++ (zbat cs (o 1) (zBeg A xc xh) ++ ([((o 3) 0, .inr (3, [.ref ((o 3) 1), .int (zI (zm4 xm))])), ((o 3) 1, .inl (cs 3, 4, .inr (.inr (.inr (.inr (zR ((zq4 xm (o 5) (o 4)) 0) ((zq4 xm (o 6) (o 5)) 0) ((zq4 xm (o 7) (o 6)) 0) ((zq4 xm (o 4) (o 7)) 0)))))))] ++ (zbat cs (zq4 xm (o 5) (o 4)) (zs4 xm 0 A S0 S1) ++ (zbat cs (zq4 xm (o 6) (o 5)) (zs4 xm 1 A S1 S2) ++ (zbat cs (zq4 xm (o 7) (o 6)) (zs4 xm 2 A S2 S3) ++ (zbat cs (zq4 xm (o 4) (o 7)) (zs4 xm 3 A S3 A) ++ [(ou, .inl (cs 2, 1, .inr (.inl (zAL gu))))]))))))) [1, 2, 3, 4, 5, 6, 7, 8, 9, 10, 11, 12, 13, 14, 15, 16, 17, 18, 19, 20, 21, 22, 23, 24, 25, 26, 27, 28, 29, 30, 31, 32, 33, 34, 35, 36, 37, 38, 0] (by decide) rfl
  refine lv_i2l hx hb dL_begin_8 (zW_l (A 52)) ?_
  refine zr_last (D := D) (g := gu) hx hb hK hP hD hS 38 2 rfl rfl (by decide) (by decide) dL_begin_9 (fun H locs hP hD hS => ?_)
  have hP9 : va_P D vwCl ([((o 0) 0, .inr (5, [.ref ((o 1) 0), .ref ((o 2) 0), .ref ((o 3) 0), .ref ((o 8) 0)]))] ++ (zbat cs (o 1) (zBeg A xc xh) ++ ([((o 3) 0, .inr (3, [.ref ((o 3) 1), .int (zI (zm4 xm))])), ((o 3) 1, .inl (cs 3, 4, .inr (.inr (.inr (.inr (zR ((zq4 xm (o 5) (o 4)) 0) ((zq4 xm (o 6) (o 5)) 0) ((zq4 xm (o 7) (o 6)) 0) ((zq4 xm (o 4) (o 7)) 0)))))))] ++ (zbat cs (zq4 xm (o 5) (o 4)) (zs4 xm 0 A S0 S1) ++ (zbat cs (zq4 xm (o 6) (o 5)) (zs4 xm 1 A S1 S2) ++ (zbat cs (zq4 xm (o 7) (o 6)) (zs4 xm 2 A S2 S3) ++ (zbat cs (zq4 xm (o 4) (o 7)) (zs4 xm 3 A S3 A) ++ [(ou, .inl (cs 2, 1, .inr (.inl (zAL (zU gu 0 (zW (A 52)))))))]))))))) H := hP
  have hD9 : va_D A0 ([((o 0) 0, .inr (5, [.ref ((o 1) 0), .ref ((o 2) 0), .ref ((o 3) 0), .ref ((o 8) 0)]))] ++ (zbat cs (o 1) (zBeg A xc xh) ++ ([((o 3) 0, .inr (3, [.ref ((o 3) 1), .int (zI (zm4 xm))])), ((o 3) 1, .inl (cs 3, 4, .inr (.inr (.inr (.inr (zR ((zq4 xm (o 5) (o 4)) 0) ((zq4 xm (o 6) (o 5)) 0) ((zq4 xm (o 7) (o 6)) 0) ((zq4 xm (o 4) (o 7)) 0)))))))] ++ (zbat cs (zq4 xm (o 5) (o 4)) (zs4 xm 0 A S0 S1) ++ (zbat cs (zq4 xm (o 6) (o 5)) (zs4 xm 1 A S1 S2) ++ (zbat cs (zq4 xm (o 7) (o 6)) (zs4 xm 2 A S2 S3) ++ (zbat cs (zq4 xm (o 4) (o 7)) (zs4 xm 3 A S3 A) ++ [(ou, .inl (cs 2, 1, .inr (.inl (zAL (zU gu 0 (zW (A 52)))))))]))))))) := zD_addr hD rfl
  refine lv_goto (tgt := 17) hx hb dL_begin_10 (by decide) ?_
  refine zr_iconst hx hb dL_begin_17 ?_
  refine vx_ret ?_
  rw [hAe] at hD9 hS
  exact W.iret hx hb hr (fun t ht hW => ⟨⟨_, (), rfl, rfl, by rw [ht]; exact hP9, hD9⟩, hS.F ht⟩) hS.2.2 dL_begin_18
set_option maxHeartbeats 4000000 in
set_option maxRecDepth 100000 in
theorem met_L_begin_x (l : Launch) (hfl : l.stackTraces = false) (D : va_G) (cs : Nat → ClassId) (o : Nat → Nat → Nat) (ou : Nat) (gu : Int → Int) (A S0 S1 S2 S3 : Int → Int) (xm : Int) (xc : Int) (xh : Int) (rxc : -2147483648 ≤ xc ∧ xc ≤ 2147483647) (rxh : -2147483648 ≤ xh ∧ xh ≤ 2147483647) (kno : ¬ ((100 ≤ xc ∧ xc ≤ 20000) ∧ -1 ≤ xh ∧ xh ≤ 10000)) : vx_Met l yL_begin wsL_begin ({ frames := 8, cells := 1, slots := 6, locals := 127 }) (va_Pc [.ref ((o 0) 0), .int (zI xc), .int (zI xh), .ref ou] (zPreU D (zTy cs) ([((o 0) 0, .inr (5, [.ref ((o 1) 0), .ref ((o 2) 0), .ref ((o 3) 0), .ref ((o 8) 0)]))] ++ (zbat cs (o 1) A ++ ([((o 3) 0, .inr (3, [.ref ((o 3) 1), .int (zI xm)])), ((o 3) 1, .inl (cs 3, 4, .inr (.inr (.inr (.inr (zR ((o 4) 0) ((o 5) 0) ((o 6) 0) ((o 7) 0)))))))] ++ (zbat cs (o 4) S0 ++ (zbat cs (o 5) S1 ++ (zbat cs (o 6) S2 ++ (zbat cs (o 7) S3 ++ [(ou, .inl (cs 2, 1, .inr (.inl (zAL gu))))]))))))))) (zQk 1) zXN 1 6 (fun _ => False) := by
  refine vx_ofWH (cc := cL_begin) (maxL := 5) (ret := (some .int)) (hh := [(0, 10, 13, 13)]) (by decide +kernel) rfl ?_
  intro p e s m args below meth c s₁ B hml hv
  obtain ⟨rfl, ⟨⟨hP, hK, hD0, hN⟩, hX⟩, hC⟩ := hv
  have hx := B.exec
  have hb := B.bytes
  have hr := B.returns
  have hts := atoms_spec (ws := wsL_begin) B.pre
  have hown : s.vm.findClass RL = some m.cls := findClass_of_methodNamed B.named
  have hlocks := B.notSynchronized
  have hX : zXF s s.heap := hX
  have hS : va_S (fun _ => False) s.heap s.heap [] := va_S.rf
  have hD := hD0
  have hP : va_P D vwCl ([((o 0) 0, .inr (5, [.ref ((o 1) 0), .ref ((o 2) 0), .ref ((o 3) 0), .ref ((o 8) 0)]))] ++ (zbat cs (o 1) A ++ ([((o 3) 0, .inr (3, [.ref ((o 3) 1), .int (zI xm)])), ((o 3) 1, .inl (cs 3, 4, .inr (.inr (.inr (.inr (zR ((o 4) 0) ((o 5) 0) ((o 6) 0) ((o 7) 0)))))))] ++ (zbat cs (o 4) S0 ++ (zbat cs (o 5) S1 ++ (zbat cs (o 6) S2 ++ (zbat cs (o 7) S3 ++ [(ou, .inl (cs 2, 1, .inr (.inl (zAL gu))))]))))))) s.heap := hP
  have hl := lv_entry ([.ref ((o 0) 0), .int (zI xc), .int (zI xh), .ref ou]) (n := 5) (Nat.le_of_ble_eq_true rfl)
  rw [lg_entry_eq]
  generalize (lg_sl ([.ref ((o 0) 0), .int (zI xc), .int (zI xh), .ref ou]) ++ List.replicate (5 - (lg_sl ([.ref ((o 0) 0), .int (zI xc), .int (zI xh), .ref ou])).length) Slot.unset).toArray = ls at hl ⊢
  have hl : lv_has ls 5 [(0, .ref ((o 0) 0)), (1, .int (zI xc)), (2, .int (zI xh)), (3, .ref ou)] := hl
  refine lv_aload_n hx hb dL_begin_0 rfl (lv_at hl 3 rfl) ?_
  refine zr_iconst hx hb dL_begin_1 ?_
  refine lv_aload_n hx hb dL_begin_2 rfl (lv_at hl 0 rfl) ?_
  refine lv_iload_n hx hb dL_begin_3 rfl (lv_at hl 1 rfl) ?_
  refine lv_iload_n hx hb dL_begin_4 rfl (lv_at hl 2 rfl) ?_
  refine vx_calli (vx_runV (As := [.int (zI xc), .int (zI xh)]) (rest := [.int (zI 0), .ref ou]) ⟨hx, hb, hml, hown, hts⟩ (met_X5_begin_x l hfl D cs o A S0 S1 S2 S3 xm xc xh rxc rxh kno) (cwV 2 hts gL_begin_X5_begin rfl rfl rfl (by decide +kernel) ⟨(Nat.le_of_ble_eq_true rfl), (Nat.le_of_ble_eq_true rfl)⟩) ⟨zPreX.blind, va_recv hK hP (ci := 5) (q0 := 0) rfl rfl, fun U hU hW => zp_X (hP.sub (ws' := [((o 0) 0, .inr (5, [.ref ((o 1) 0), .ref ((o 2) 0), .ref ((o 3) 0), .ref ((o 8) 0)]))] ++ (zbat cs (o 1) A ++ ([((o 3) 0, .inr (3, [.ref ((o 3) 1), .int (zI xm)])), ((o 3) 1, .inl (cs 3, 4, .inr (.inr (.inr (.inr (zR ((o 4) 0) ((o 5) 0) ((o 6) 0) ((o 7) 0)))))))] ++ (zbat cs (o 4) S0 ++ (zbat cs (o 5) S1 ++ (zbat cs (o 6) S2 ++ zbat cs (o 7) S3)))))) [0, 1, 2, 3, 4, 5, 6, 7, 8, 9, 10, 11, 12, 13, 14, 15, 16, 17, 18, 19, 20, 21, 22, 23, 24, 25, 26, 27, 28, 29, 30, 31, 32, 33, 34, 35, 36, 37] rfl) hK (hD.sub (ws' := [((o 0) 0, .inr (5, [.ref ((o 1) 0), .ref ((o 2) 0), .ref ((o 3) 0), .ref ((o 8) 0)]))] ++ (zbat cs (o 1) A ++ ([((o 3) 0, .inr (3, [.ref ((o 3) 1), .int (zI xm)])), ((o 3) 1, .inl (cs 3, 4, .inr (.inr (.inr (.inr (zR ((o 4) 0) ((o 5) 0) ((o 6) 0) ((o 7) 0)))))))] ++ (zbat cs (o 4) S0 ++ (zbat cs (o 5) S1 ++ (zbat cs (o 6) S2 ++ zbat cs (o 7) S3)))))) [0, 1, 2, 3, 4, 5, 6, 7, 8, 9, 10, 11, 12, 13, 14, 15, 16, 17, 18, 19, 20, 21, 22, 23, 24, 25, 26, 27, 28, 29, 30, 31, 32, 33, 34, 35, 36, 37] (by decide) rfl) hN hX hU hW⟩ rfl rfl hl.1 rfl (lv_room (Nat.le_of_ble_eq_true rfl)) dL_begin_5 ⟨(Nat.le_of_ble_eq_true rfl), (Nat.le_of_ble_eq_true rfl)⟩) hS (fun _ _ h => h) (fun _ h => h) (fun _ _ h => h) ?_ (fun r u t H1 locs1 ht hvm hp9 _ _ _ _ => hp9.elim)
  intro E ce q9 u t H1 locs1 ht hvm hp9 hE hz hk hS1 hcell hv9 hcl
  have hE : E = "java/lang/IllegalArgumentException" := hE
  subst hE
  refine vx_catch (own := RL) (name := "java/lang/IllegalArgumentException") hown [] { startPc := 0, endPc := 10, handlerPc := 13, catchType := 13 } [] ((vx_table (x := yL_begin) B (hts _ List.mem_cons_self)).trans rfl) (fun z hz => by cases hz) (by decide) (by decide) (hts (.classLink RL 13 "java/lang/IllegalArgumentException") (by decide +kernel)) (va_Nw.use rfl (hX.1.1 (.castable "java/lang/IllegalArgumentException" "java/lang/IllegalArgumentException") (by decide +kernel))) hcell hv9 hcl ?_
  refine lv_astore (lv' := [(4, .ref q9), (0, .ref ((o 0) 0)), (1, .int (zI xc)), (2, .int (zI xh)), (3, .ref ou)]) hx hb dL_begin_13 hl (by decide) rfl (fun ls hl => ?_)
  refine zr_iconst hx hb dL_begin_15 ?_
  refine vx_ret ?_
  exact W.iret hx hb hr (fun t ht hW => ⟨⟨_, (), rfl, rfl, trivial⟩, hS1.F ht⟩) hS1.2.2 dL_begin_16
set_option maxHeartbeats 4000000 in
set_option maxRecDepth 100000 in
theorem met_L_set_ok (l : Launch) (D : va_G) (cs : Nat → ClassId) (o : Nat → Nat → Nat) (ou : Nat) (gu : Int → Int) (sz : Nat) (A S0 S1 S2 S3 : Int → Int) (xm : Int) (n : Int) (xw : Int) (xv : Int) (hI : zOK n A) (hn : 0 ≤ n ∧ n ≤ 3100000) (kxm : 0 ≤ xm ∧ xm ≤ 4) (rxw : -2147483648 ≤ xw ∧ xw ≤ 2147483647) (rxv : -2147483648 ≤ xv ∧ xv ≤ 2147483647) (kok : (0 ≤ xw ∧ xw ≤ 11) ∧ (zLoS xw ≤ xv ∧ xv ≤ zHiS xw)) : vx_Met l yL_set wsL_set ({ frames := 5, cells := 0, slots := 0, locals := 104 }) (va_Pc [.ref ((o 0) 0), .int (zI xw), .int (zI xv), .ref ou] (zPreN D (zTy cs) ([((o 0) 0, .inr (5, [.ref ((o 1) 0), .ref ((o 2) 0), .ref ((o 3) 0), .ref ((o 8) 0)]))] ++ (zbat cs (o 1) A ++ ([((o 3) 0, .inr (3, [.ref ((o 3) 1), .int (zI xm)])), ((o 3) 1, .inl (cs 3, 4, .inr (.inr (.inr (.inr (zR ((o 4) 0) ((o 5) 0) ((o 6) 0) ((o 7) 0)))))))] ++ (zbat cs (o 4) S0 ++ (zbat cs (o 5) S1 ++ (zbat cs (o 6) S2 ++ (zbat cs (o 7) S3 ++ [(ou, .inl (cs 2, 1, .inr (.inl (zAL gu))))]))))))) sz)) (zQi D ([((o 0) 0, .inr (5, [.ref ((o 1) 0), .ref ((o 2) 0), .ref ((o 3) 0), .ref ((o 8) 0)]))] ++ (zbat cs (o 1) A ++ ([((o 3) 0, .inr (3, [.ref ((o 3) 1), .int (zI xm)])), ((o 3) 1, .inl (cs 3, 4, .inr (.inr (.inr (.inr (zR ((o 4) 0) ((o 5) 0) ((o 6) 0) ((o 7) 0)))))))] ++ (zbat cs (o 4) S0 ++ (zbat cs (o 5) S1 ++ (zbat cs (o 6) S2 ++ (zbat cs (o 7) S3 ++ [(ou, .inl (cs 2, 1, .inr (.inl (zAL gu))))]))))))) sz (zI 0) ([((o 0) 0, .inr (5, [.ref ((o 1) 0), .ref ((o 2) 0), .ref ((o 3) 0), .ref ((o 8) 0)]))] ++ (zbat cs (o 1) (zSet A xw xv) ++ ([((o 3) 0, .inr (3, [.ref ((o 3) 1), .int (zI (zm4 xm))])), ((o 3) 1, .inl (cs 3, 4, .inr (.inr (.inr (.inr (zR ((zq4 xm (o 5) (o 4)) 0) ((zq4 xm (o 6) (o 5)) 0) ((zq4 xm (o 7) (o 6)) 0) ((zq4 xm (o 4) (o 7)) 0)))))))] ++ (zbat cs (zq4 xm (o 5) (o 4)) (zs4 xm 0 A S0 S1) ++ (zbat cs (zq4 xm (o 6) (o 5)) (zs4 xm 1 A S1 S2) ++ (zbat cs (zq4 xm (o 7) (o 6)) (zs4 xm 2 A S2 S3) ++ (zbat cs (zq4 xm (o 4) (o 7)) (zs4 xm 3 A S3 A) ++ [(ou, .inl (cs 2, 1, .inr (.inl (zAL (zU gu 0 (zW (A xw)))))))])))))))) zXN 0 0 (va_A ([((o 0) 0, .inr (5, [.ref ((o 1) 0), .ref ((o 2) 0), .ref ((o 3) 0), .ref ((o 8) 0)]))] ++ (zbat cs (o 1) A ++ ([((o 3) 0, .inr (3, [.ref ((o 3) 1), .int (zI xm)])), ((o 3) 1, .inl (cs 3, 4, .inr (.inr (.inr (.inr (zR ((o 4) 0) ((o 5) 0) ((o 6) 0) ((o 7) 0)))))))] ++ (zbat cs (o 4) S0 ++ (zbat cs (o 5) S1 ++ (zbat cs (o 6) S2 ++ (zbat cs (o 7) S3 ++ [(ou, .inl (cs 2, 1, .inr (.inl (zAL gu))))]))))))) sz) := by
  refine vx_ofWH (cc := cL_set) (maxL := 5) (ret := (some .int)) (hh := [(0, 10, 13, 13)]) (by decide +kernel) rfl ?_
  intro p e s m args below meth c s₁ B hml hv
  obtain ⟨rfl, ⟨hsz, hP, hK, hD0, hN⟩, hX, hO⟩ := hv
  have hx := B.exec
  have hb := B.bytes
  have hr := B.returns
  have hts := atoms_spec (ws := wsL_set) B.pre
  have hown : s.vm.findClass RL = some m.cls := findClass_of_methodNamed B.named
  have hlocks := B.notSynchronized
  subst hsz
  obtain ⟨A0, hAe⟩ : ∃ A0, A0 = va_A ([((o 0) 0, .inr (5, [.ref ((o 1) 0), .ref ((o 2) 0), .ref ((o 3) 0), .ref ((o 8) 0)]))] ++ (zbat cs (o 1) A ++ ([((o 3) 0, .inr (3, [.ref ((o 3) 1), .int (zI xm)])), ((o 3) 1, .inl (cs 3, 4, .inr (.inr (.inr (.inr (zR ((o 4) 0) ((o 5) 0) ((o 6) 0) ((o 7) 0)))))))] ++ (zbat cs (o 4) S0 ++ (zbat cs (o 5) S1 ++ (zbat cs (o 6) S2 ++ (zbat cs (o 7) S3 ++ [(ou, .inl (cs 2, 1, .inr (.inl (zAL gu))))]))))))) s.heap.size := ⟨_, rfl⟩
  have hD := hD0.self (sz := s.heap.size)
  rw [← hAe] at hD hX
  have hA : ∀ q : Nat, s.heap.size ≤ q → A0 q := fun q h => by rw [hAe]; exact Or.inr h
  have hS : va_S A0 s.heap s.heap [] := va_S.rf
  have hP : va_P D vwCl ([((o 0) 0, .inr (5, [.ref ((o 1) 0), .ref ((o 2) 0), .ref ((o 3) 0), .ref ((o 8) 0)]))] ++ (zbat cs (o 1) A ++ ([((o 3) 0, .inr (3, [.ref ((o 3) 1), .int (zI xm)])), ((o 3) 1, .inl (cs 3, 4, .inr (.inr (.inr (.inr (zR ((o 4) 0) ((o 5) 0) ((o 6) 0) ((o 7) 0)))))))] ++ (zbat cs (o 4) S0 ++ (zbat cs (o 5) S1 ++ (zbat cs (o 6) S2 ++ (zbat cs (o 7) S3 ++ [(ou, .inl (cs 2, 1, .inr (.inl (zAL gu))))]))))))) s.heap := hP
  have hl := lv_entry ([.ref ((o 0) 0), .int (zI xw), .int (zI xv), .ref ou]) (n := 5) (Nat.le_of_ble_eq_true rfl)
  rw [lg_entry_eq]
  generalize (lg_sl ([.ref ((o 0) 0), .int (zI xw), .int (zI xv), .ref ou]) ++ List.replicate (5 - (lg_sl ([.ref ((o 0) 0), .int (zI xw), .int (zI xv), .ref ou])).length) Slot.unset).toArray = ls at hl ⊢
  have hl : lv_has ls 5 [(0, .ref ((o 0) 0)), (1, .int (zI xw)), (2, .int (zI xv)), (3, .ref ou)] := hl
  refine lv_aload_n hx hb dL_set_0 rfl (lv_at hl 3 rfl) ?_
  refine zr_iconst hx hb dL_set_1 ?_
  refine lv_aload_n hx hb dL_set_2 rfl (lv_at hl 0 rfl) ?_
  refine lv_iload_n hx hb dL_set_3 rfl (lv_at hl 1 rfl) ?_
  refine lv_iload_n hx hb dL_set_4 rfl (lv_at hl 2 rfl) ?_
  refine zc_ij (w := [((o 0) 0, .inr (5, [.ref ((o 1) 0), .ref ((o 2) 0), .ref ((o 3) 0), .ref ((o 8) 0)]))] ++ (zbat cs (o 1) A ++ ([((o 3) 0, .inr (3, [.ref ((o 3) 1), .int (zI xm)])), ((o 3) 1, .inl (cs 3, 4, .inr (.inr (.inr (.inr (zR ((o 4) 0) ((o 5) 0) ((o 6) 0) ((o 7) 0)))))))] ++ (zbat cs (o 4) S0 ++ (zbat cs (o 5) S1 ++ (zbat cs (o 6) S2 ++ zbat cs (o 7) S3)))))) (wr := [(ou, .inl (cs 2, 1, .inr (.inl (zAL gu))))]) (va_runV (As := [.int (zI xw), .int (zI xv)]) (rest := [.int (zI 0), .ref ou]) ⟨hx, hb, hml, hown, hts⟩ (met_X5_set_ok l D cs o s.heap.size A S0 S1 S2 S3 xm n xw xv hI hn kxm rxw rxv kok) (cwV 2 hts gL_set_X5_set rfl rfl rfl (by decide +kernel) ⟨(Nat.le_of_ble_eq_true rfl), (Nat.le_of_ble_eq_true rfl)⟩) ⟨zPreN.blind, va_recv hK hP (ci := 5) (q0 := 0) rfl rfl, fun U hU hW => zp_N (hP.sub (ws' := [((o 0) 0, .inr (5, [.ref ((o 1) 0), .ref ((o 2) 0), .ref ((o 3) 0), .ref ((o 8) 0)]))] ++ (zbat cs (o 1) A ++ ([((o 3) 0, .inr (3, [.ref ((o 3) 1), .int (zI xm)])), ((o 3) 1, .inl (cs 3, 4, .inr (.inr (.inr (.inr (zR ((o 4) 0) ((o 5) 0) ((o 6) 0) ((o 7) 0)))))))] ++ (zbat cs (o 4) S0 ++ (zbat cs (o 5) S1 ++ (zbat cs (o 6) S2 ++ zbat cs (o 7) S3)))))) [0, 1, 2, 3, 4, 5, 6, 7, 8, 9, 10, 11, 12, 13, 14, 15, 16, 17, 18, 19, 20, 21, 22, 23, 24, 25, 26, 27, 28, 29, 30, 31, 32, 33, 34, 35, 36, 37] rfl) hK (hD.sub (ws' := [((o 0) 0, .inr (5, [.ref ((o 1) 0), .ref ((o 2) 0), .ref ((o 3) 0), .ref ((o 8) 0)]))] ++ (zbat cs (o 1) A ++ ([((o 3) 0, .inr (3, [.ref ((o 3) 1), .int (zI xm)])), ((o 3) 1, .inl (cs 3, 4, .inr (.inr (.inr (.inr (zR ((o 4) 0) ((o 5) 0) ((o 6) 0) ((o 7) 0)))))))] ++ (zbat cs (o 4) S0 ++ (zbat cs (o 5) S1 ++ (zbat cs (o 6) S2 ++ zbat cs (o 7) S3)))))) [0, 1, 2, 3, 4, 5, 6, 7, 8, 9, 10, 11, 12, 13, 14, 15, 16, 17, 18, 19, 20, 21, 22, 23, 24, 25, 26, 27, 28, 29, 30, 31, 32, 33, 34, 35, 36, 37] (by decide) rfl) hN hX hO hS (va_free (wc := [((o 0) 0, .inr (5, [.ref ((o 1) 0), .ref ((o 2) 0), .ref ((o 3) 0), .ref ((o 8) 0)]))] ++ (zbat cs (o 1) A ++ ([((o 3) 0, .inr (3, [.ref ((o 3) 1), .int (zI xm)])), ((o 3) 1, .inl (cs 3, 4, .inr (.inr (.inr (.inr (zR ((o 4) 0) ((o 5) 0) ((o 6) 0) ((o 7) 0)))))))] ++ (zbat cs (o 4) S0 ++ (zbat cs (o 5) S1 ++ (zbat cs (o 6) S2 ++ zbat cs (o 7) S3)))))) hD hS hA [0, 1, 2, 3, 4, 5, 6, 7, 8, 9, 10, 11, 12, 13, 14, 15, 16, 17, 18, 19, 20, 21, 22, 23, 24, 25, 26, 27, 28, 29, 30, 31, 32, 33, 34, 35, 36, 37] rfl) hU hW⟩ rfl rfl hl.1 rfl (lv_room (Nat.le_of_ble_eq_true rfl)) dL_set_5 ⟨(Nat.le_of_ble_eq_true rfl), (Nat.le_of_ble_eq_true rfl)⟩) hS hP hD hA [0, 1, 2, 3, 4, 5, 6, 7, 8, 9, 10, 11, 12, 13, 14, 15, 16, 17, 18, 19, 20, 21, 22, 23, 24, 25, 26, 27, 28, 29, 30, 31, 32, 33, 34, 35, 36, 37] [38] rfl rfl (by decide) (by decide) (fun H locs hP hD hS => ?_)
  have hP : va_P D vwCl ([((o 0) 0, .inr (5, [.ref ((o 1) 0), .ref ((o 2) 0), .ref ((o 3) 0), .ref ((o 8) 0)]))] ++ (zbat cs (o 1) (zSet A xw xv) ++ ([((o 3) 0, .inr (3, [.ref ((o 3) 1), .int (zI (zm4 xm))])), ((o 3) 1, .inl (cs 3, 4, .inr (.inr (.inr (.inr (zR ((zq4 xm (o 5) (o 4)) 0) ((zq4 xm (o 6) (o 5)) 0) ((zq4 xm (o 7) (o 6)) 0) ((zq4 xm (o 4) (o 7)) 0)))))))] ++ (zbat cs (zq4 xm (o 5) (o 4)) (zs4 xm 0 A S0 S1) ++ (zbat cs (zq4 xm (o 6) (o 5)) (zs4 xm 1 A S1 S2) ++ (zbat cs (zq4 xm (o 7) (o 6)) (zs4 xm 2 A S2 S3) ++ (zbat cs (zq4 xm (o 4) (o 7)) (zs4 xm 3 A S3 A) ++ [(ou, .inl (cs 2, 1, .inr (.inl (zAL gu))))]))))))) H := hP.sub (ws' := [((o 0) 0, .inr (5, [.ref ((o 1) 0), .ref ((o 2) 0), .ref ((o 3) 0), .ref ((o 8) 0)]))] ++ (zbat cs (o 1) (zSet A xw xv) ++ ([((o 3) 0, .inr (3, [.ref ((o 3) 1), .int (zI (zm4 xm))])), ((o 3) 1, .inl (cs 3, 4, .inr (.inr (.inr (.inr (zR ((zq4 xm (o 5) (o 4)) 0) ((zq4 xm (o 6) (o 5)) 0) ((zq4 xm (o 7) (o 6)) 0) ((zq4 xm (o 4) (o 7)) 0)))))))] ++ (zbat cs (zq4 xm (o 5) (o 4)) (zs4 xm 0 A S0 S1) ++ (zbat cs (zq4 xm (o 6) (o 5)) (zs4 xm 1 A S1 S2) ++ (zbat cs (zq4 xm (o 7) (o 6)) (zs4 xm 2 A S2 S3) ++ (zbat cs (zq4 xm (o 4) (o 7)) (zs4 xm 3 A S3 A) ++ [(ou, .inl (cs 2, 1, .inr (.inl (zAL gu))))]))))))) [1, 2, 3, 4, 5, 6, 7, 8, 9, 10, 11, 12, 13, 14, 15, 16, 17, 18, 19, 20, 21, 22, 23, 24, 25, 26, 27, 28, 29, 30, 31, 32, 33, 34, 35, 36, 37, 38, 0] rfl
  have hD : va_D A0 ([((o 0) 0, .inr (5, [.ref ((o 1) 0), .ref ((o 2) 0), .ref ((o 3) 0), .ref ((o 8) 0)]))] ++ (zbat cs (o 1) (zSet A xw xv) ++ ([((o 3) 0, .inr (3, [.ref ((o 3) 1), .int (zI (zm4 xm))])), ((o 3) 1, .inl (cs 3, 4, .inr (.inr (.inr (.inr (zR ((zq4 xm (o 5) (o 4)) 0) ((zq4 xm (o 6) (o 5)) 0) ((zq4 xm (o 7) (o 6)) 0) ((zq4 xm (o 4) (o 7)) 0)))))))] ++ (zbat cs (zq4 xm (o 5) (o 4)) (zs4 xm 0 A S0 S1) ++ (zbat cs (zq4 xm (o 6) (o 5)) (zs4 xm 1 A S1 S2) ++ (zbat cs (zq4 xm (o 7) (o 6)) (zs4 xm 2 A S2 S3) ++ (zbat cs (zq4 xm (o 4) (o 7)) (zs4 xm 3 A S3 A) ++ [(ou, .inl (cs 2, 1, .inr (.inl (zAL gu))))]))))))) := hD.sub (ws' := [((o 0) 0, .inr (5, [.ref ((o 1) 0), .ref ((o 2) 0), .ref ((o 3) 0), .ref ((o 8) 0)]))] ++ (zbat cs (o 1) (zSet A xw xv) ++ ([((o 3) 0, .inr (3, [.ref ((o 3) 1), .int (zI (zm4 xm))])), ((o 3) 1, .inl (cs 3, 4, .inr (.inr (.inr (.inr (zR ((zq4 xm (o 5) (o 4)) 0) ((zq4 xm (o 6) (o 5)) 0) ((zq4 xm (o 7) (o 6)) 0) ((zq4 xm (o 4) (o 7)) 0)))))))] ++ (zbat cs (zq4 xm (o 5) (o 4)) (zs4 xm 0 A S0 S1) ++ (zbat cs (zq4 xm (o 6) (o 5)) (zs4 xm 1 A S1 S2) ++ (zbat cs (zq4 xm (o 7) (o 6)) (zs4 xm 2 A S2 S3) ++ (zbat cs (zq4 xm (o 4) (o 7)) (zs4 xm 3 A S3 A) ++ [(ou, .inl (cs 2, 1, .inr (.inl (zAL gu))))]))))))) [1, 2, 3, 4, 5, 6, 7, 8, 9, 10, 11, 12, 13, 14, 15, 16, 17, 18, 19, 20, 21, 22, 23, 24, 25, 26, 27, 28, 29, 30, 31, 32, 33, 34, 35, 36, 37, 38, 0] (by decide) rfl
  refine lv_i2l hx hb dL_set_8 (zW_l (A xw)) ?_
  refine zr_last (D := D) (g := gu) hx hb hK hP hD hS 38 2 rfl rfl (by decide) (by decide) dL_set_9 (fun H locs hP hD hS => ?_)
  have hP9 : va_P D vwCl ([((o 0) 0, .inr (5, [.ref ((o 1) 0), .ref ((o 2) 0), .ref ((o 3) 0), .ref ((o 8) 0)]))] ++ (zbat cs (o 1) (zSet A xw xv) ++ ([((o 3) 0, .inr (3, [.ref ((o 3) 1), .int (zI (zm4 xm))])), ((o 3) 1, .inl (cs 3, 4, .inr (.inr (.inr (.inr (zR ((zq4 xm (o 5) (o 4)) 0) ((zq4 xm (o 6) (o 5)) 0) ((zq4 xm (o 7) (o 6)) 0) ((zq4 xm (o 4) (o 7)) 0)))))))] ++ (zbat cs (zq4 xm (o 5) (o 4)) (zs4 xm 0 A S0 S1) ++ (zbat cs (zq4 xm (o 6) (o 5)) (zs4 xm 1 A S1 S2) ++ (zbat cs (zq4 xm (o 7) (o 6)) (zs4 xm 2 A S2 S3) ++ (zbat cs (zq4 xm (o 4) (o 7)) (zs4 xm 3 A S3 A) ++ [(ou, .inl (cs 2, 1, .inr (.inl (zAL (zU gu 0 (zW (A xw)))))))]))))))) H := hP
  have hD9 : va_D A0 ([((o 0) 0, .inr (5, [.ref ((o 1) 0), .ref ((o 2) 0), .ref ((o 3) 0), .ref ((o 8) 0)]))] ++ (zbat cs (o 1) (zSet A xw xv) ++ ([((o 3) 0, .inr (3, [.ref ((o 3) 1), .int (zI (zm4 xm))])), ((o 3) 1, .inl (cs 3, 4, .inr (.inr (.inr (.inr (zR ((zq4 xm (o 5) (o 4)) 0) ((zq4 xm (o 6) (o 5)) 0) ((zq4 xm (o 7) (o 6)) 0) ((zq4 xm (o 4) (o 7)) 0)))))))] ++ (zbat cs (zq4 xm (o 5) (o 4)) (zs4 xm 0 A S0 S1) ++ (zbat cs (zq4 xm (o 6) (o 5)) (zs4 xm 1 A S1 S2) ++ (zbat cs (zq4 xm (o 7) (o 6)) (zs4 xm 2 A S2 S3) ++ (zbat cs (zq4 xm (o 4) (o 7)) (zs4 xm 3 A S3 A) ++ [(ou, .inl (cs 2, 1, .inr (.inl (zAL (zU gu 0 (zW (A xw)))))))]))))))) := zD_addr hD rfl
  refine lv_goto (tgt := 17) hx hb dL_set_10 (by decide) ?_
  refine zr_iconst hx hb dL_set_17 ?_
  refine vx_ret ?_
  rw [hAe] at hD9 hS
  exact W.iret hx hb hr (fun t ht hW => ⟨⟨_, (), rfl, rfl, by rw [ht]; exact hP9, hD9⟩, hS.F ht⟩) hS.2.2 dL_set_18
set_option maxHeartbeats 4000000 in
set_option maxRecDepth 100000 in
theorem met_L_set_x (l : Launch) (hfl : l.stackTraces = false) (D : va_G) (cs : Nat → ClassId) (o : Nat → Nat → Nat) (ou : Nat) (gu : Int → Int) (A S0 S1 S2 S3 : Int → Int) (xm : Int) (xw : Int) (xv : Int) (rxw : -2147483648 ≤ xw ∧ xw ≤ 2147483647) (rxv : -2147483648 ≤ xv ∧ xv ≤ 2147483647) (kno : ¬ ((0 ≤ xw ∧ xw ≤ 11) ∧ (zLoS xw ≤ xv ∧ xv ≤ zHiS xw))) : vx_Met l yL_set wsL_set ({ frames := 8, cells := 1, slots := 6, locals := 126 }) (va_Pc [.ref ((o 0) 0), .int (zI xw), .int (zI xv), .ref ou] (zPreU D (zTy cs) ([((o 0) 0, .inr (5, [.ref ((o 1) 0), .ref ((o 2) 0), .ref ((o 3) 0), .ref ((o 8) 0)]))] ++ (zbat cs (o 1) A ++ ([((o 3) 0, .inr (3, [.ref ((o 3) 1), .int (zI xm)])), ((o 3) 1, .inl (cs 3, 4, .inr (.inr (.inr (.inr (zR ((o 4) 0) ((o 5) 0) ((o 6) 0) ((o 7) 0)))))))] ++ (zbat cs (o 4) S0 ++ (zbat cs (o 5) S1 ++ (zbat cs (o 6) S2 ++ (zbat cs (o 7) S3 ++ [(ou, .inl (cs 2, 1, .inr (.inl (zAL gu))))]))))))))) (zQk 1) zXN 1 6 (fun _ => False) := by
  refine vx_ofWH (cc := cL_set) (maxL := 5) (ret := (some .int)) (hh := [(0, 10, 13, 13)]) (by decide +kernel) rfl ?_
  intro p e s m args below meth c s₁ B hml hv
  obtain ⟨rfl, ⟨⟨hP, hK, hD0, hN⟩, hX⟩, hC⟩ := hv
  have hx := B.exec
  have hb := B.bytes
  have hr := B.returns
  have hts := atoms_spec (ws := wsL_set) B.pre
  have hown : s.vm.findClass RL = some m.cls := findClass_of_methodNamed B.named
  have hlocks := B.notSynchronized
  have hX : zXF s s.heap := hX
  have hS : va_S (fun _ => False) s.heap s.heap [] := va_S.rf
  have hD := hD0
  have hP : va_P D vwCl ([((o 0) 0, .inr (5, [.ref ((o 1) 0), .ref ((o 2) 0), .ref ((o 3) 0), .ref ((o 8) 0)]))] ++ (zbat cs (o 1) A ++ ([((o 3) 0, .inr (3, [.ref ((o 3) 1), .int (zI xm)])), ((o 3) 1, .inl (cs 3, 4, .inr (.inr (.inr (.inr (zR ((o 4) 0) ((o 5) 0) ((o 6) 0) ((o 7) 0)))))))] ++ (zbat cs (o 4) S0 ++ (zbat cs (o 5) S1 ++ (zbat cs (o 6) S2 ++ (zbat cs (o 7) S3 ++ [(ou, .inl (cs 2, 1, .inr (.inl (zAL gu))))]))))))) s.heap := hP
  have hl := lv_entry ([.ref ((o 0) 0), .int (zI xw), .int (zI xv), .ref ou]) (n := 5) (Nat.le_of_ble_eq_true rfl)
  rw [lg_entry_eq]
  generalize (lg_sl ([.ref ((o 0) 0), .int (zI xw), .int (zI xv), .ref ou]) ++ List.replicate (5 - (lg_sl ([.ref ((o 0) 0), .int (zI xw), .int (zI xv), .ref ou])).length) Slot.unset).toArray = ls at hl ⊢
  have hl : lv_has ls 5 [(0, .ref ((o 0) 0)), (1, .int (zI xw)), (2, .int (zI xv)), (3, .ref ou)] := hl
  refine lv_aload_n hx hb dL_set_0 rfl (lv_at hl 3 rfl) ?_
  refine zr_iconst hx hb dL_set_1 ?_
  refine lv_aload_n hx hb dL_set_2 rfl (lv_at hl 0 rfl) ?_
  refine lv_iload_n hx hb dL_set_3 rfl (lv_at hl 1 rfl) ?_
  refine lv_iload_n hx hb dL_set_4 rfl (lv_at hl 2 rfl) ?_
  refine vx_calli (vx_runV (As := [.int (zI xw), .int (zI xv)]) (rest := [.int (zI 0), .ref ou]) ⟨hx, hb, hml, hown, hts⟩ (met_X5_set_x l hfl D cs o A S0 S1 S2 S3 xm xw xv rxw rxv kno) (cwV 2 hts gL_set_X5_set rfl rfl rfl (by decide +kernel) ⟨(Nat.le_of_ble_eq_true rfl), (Nat.le_of_ble_eq_true rfl)⟩) ⟨zPreX.blind, va_recv hK hP (ci := 5) (q0 := 0) rfl rfl, fun U hU hW => zp_X (hP.sub (ws' := [((o 0) 0, .inr (5, [.ref ((o 1) 0), .ref ((o 2) 0), .ref ((o 3) 0), .ref ((o 8) 0)]))] ++ (zbat cs (o 1) A ++ ([((o 3) 0, .inr (3, [.ref ((o 3) 1), .int (zI xm)])), ((o 3) 1, .inl (cs 3, 4, .inr (.inr (.inr (.inr (zR ((o 4) 0) ((o 5) 0) ((o 6) 0) ((o 7) 0)))))))] ++ (zbat cs (o 4) S0 ++ (zbat cs (o 5) S1 ++ (zbat cs (o 6) S2 ++ zbat cs (o 7) S3)))))) [0, 1, 2, 3, 4, 5, 6, 7, 8, 9, 10, 11, 12, 13, 14, 15, 16, 17, 18, 19, 20, 21, 22, 23, 24, 25, 26, 27, 28, 29, 30, 31, 32, 33, 34, 35, 36, 37] rfl) hK (hD.sub (ws' := [((o 0) 0, .inr (5, [.ref ((o 1) 0), .ref ((o 2) 0), .ref ((o 3) 0), .ref ((o 8) 0)]))] ++ (zbat cs (o 1) A ++ ([((o 3) 0, .inr (3, [.ref ((o 3) 1), .int (zI xm)])), ((o 3) 1, .inl (cs 3, 4, .inr (.inr (.inr (.inr (zR ((o 4) 0) ((o 5) 0) ((o 6) 0) ((o 7) 0)))))))] ++ (zbat cs (o 4) S0 ++ (zbat cs (o 5) S1 ++ (zbat cs (o 6) S2 ++ zbat cs (o 7) S3)))))) [0, 1, 2, 3, 4, 5, 6, 7, 8, 9, 10, 11, 12, 13, 14, 15, 16, 17, 18, 19, 20, 21, 22, 23, 24, 25, 26, 27, 28, 29, 30, 31, 32, 33, 34, 35, 36, 37] (by decide) rfl) hN hX hU hW⟩ rfl rfl hl.1 rfl (lv_room (Nat.le_of_ble_eq_true rfl)) dL_set_5 ⟨(Nat.le_of_ble_eq_true rfl), (Nat.le_of_ble_eq_true rfl)⟩) hS (fun _ _ h => h) (fun _ h => h) (fun _ _ h => h) ?_ (fun r u t H1 locs1 ht hvm hp9 _ _ _ _ => hp9.elim)
  intro E ce q9 u t H1 locs1 ht hvm hp9 hE hz hk hS1 hcell hv9 hcl
  have hE : E = "java/lang/IllegalArgumentException" := hE
  subst hE
  refine vx_catch (own := RL) (name := "java/lang/IllegalArgumentException") hown [] { startPc := 0, endPc := 10, handlerPc := 13, catchType := 13 } [] ((vx_table (x := yL_set) B (hts _ List.mem_cons_self)).trans rfl) (fun z hz => by cases hz) (by decide) (by decide) (hts (.classLink RL 13 "java/lang/IllegalArgumentException") (by decide +kernel)) (va_Nw.use rfl (hX.1.1 (.castable "java/lang/IllegalArgumentException" "java/lang/IllegalArgumentException") (by decide +kernel))) hcell hv9 hcl ?_
  refine lv_astore (lv' := [(4, .ref q9), (0, .ref ((o 0) 0)), (1, .int (zI xw)), (2, .int (zI xv)), (3, .ref ou)]) hx hb dL_set_13 hl (by decide) rfl (fun ls hl => ?_)
  refine zr_iconst hx hb dL_set_15 ?_
  refine vx_ret ?_
  exact W.iret hx hb hr (fun t ht hW => ⟨⟨_, (), rfl, rfl, trivial⟩, hS1.F ht⟩) hS1.2.2 dL_set_16
set_option maxHeartbeats 4000000 in
set_option maxRecDepth 100000 in
theorem met_L_value_ok (l : Launch) (D : va_G) (cs : Nat → ClassId) (o : Nat → Nat → Nat) (ou : Nat) (gu : Int → Int) (sz : Nat) (A : Int → Int) (xw : Int) (rxw : -2147483648 ≤ xw ∧ xw ≤ 2147483647) (kok : 0 ≤ xw ∧ xw ≤ 11) : vx_Met l yL_value wsL_value ({ frames := 3, cells := 0, slots := 0, locals := 65 }) (va_Pc [.ref ((o 0) 0), .int (zI xw), .ref ou] (zPreZ D (zTy cs) ([((o 0) 0, .inr (5, [.ref ((o 1) 0), .ref ((o 2) 0), .ref ((o 3) 0), .ref ((o 8) 0)]))] ++ (zbat cs (o 1) A ++ [(ou, .inl (cs 2, 1, .inr (.inl (zAL gu))))])) sz)) (zQi D ([((o 0) 0, .inr (5, [.ref ((o 1) 0), .ref ((o 2) 0), .ref ((o 3) 0), .ref ((o 8) 0)]))] ++ (zbat cs (o 1) A ++ [(ou, .inl (cs 2, 1, .inr (.inl (zAL gu))))])) sz (zI 0) ([((o 0) 0, .inr (5, [.ref ((o 1) 0), .ref ((o 2) 0), .ref ((o 3) 0), .ref ((o 8) 0)]))] ++ (zbat cs (o 1) A ++ [(ou, .inl (cs 2, 1, .inr (.inl (zAL (zU gu 0 (zW (A xw)))))))]))) zXN 0 0 (va_A ([((o 0) 0, .inr (5, [.ref ((o 1) 0), .ref ((o 2) 0), .ref ((o 3) 0), .ref ((o 8) 0)]))] ++ (zbat cs (o 1) A ++ [(ou, .inl (cs 2, 1, .inr (.inl (zAL gu))))])) sz) := by
  refine vx_ofWH (cc := cL_value) (maxL := 4) (ret := (some .int)) (hh := [(0, 9, 12, 13)]) (by decide +kernel) rfl ?_
  intro p e s m args below meth c s₁ B hml hv
  obtain ⟨rfl, hsz, hP, hK, hD0, hN⟩ := hv
  have hx := B.exec
  have hb := B.bytes
  have hr := B.returns
  have hts := atoms_spec (ws := wsL_value) B.pre
  have hown : s.vm.findClass RL = some m.cls := findClass_of_methodNamed B.named
  have hlocks := B.notSynchronized
  subst hsz
  obtain ⟨A0, hAe⟩ : ∃ A0, A0 = va_A ([((o 0) 0, .inr (5, [.ref ((o 1) 0), .ref ((o 2) 0), .ref ((o 3) 0), .ref ((o 8) 0)]))] ++ (zbat cs (o 1) A ++ [(ou, .inl (cs 2, 1, .inr (.inl (zAL gu))))])) s.heap.size := ⟨_, rfl⟩
  have hD := hD0.self (sz := s.heap.size)
  rw [← hAe] at hD
  have hA : ∀ q : Nat, s.heap.size ≤ q → A0 q := fun q h => by rw [hAe]; exact Or.inr h
  have hS : va_S A0 s.heap s.heap [] := va_S.rf
  have hP : va_P D vwCl ([((o 0) 0, .inr (5, [.ref ((o 1) 0), .ref ((o 2) 0), .ref ((o 3) 0), .ref ((o 8) 0)]))] ++ (zbat cs (o 1) A ++ [(ou, .inl (cs 2, 1, .inr (.inl (zAL gu))))])) s.heap := hP
  have hl := lv_entry ([.ref ((o 0) 0), .int (zI xw), .ref ou]) (n := 4) (Nat.le_of_ble_eq_true rfl)
  rw [lg_entry_eq]
  generalize (lg_sl ([.ref ((o 0) 0), .int (zI xw), .ref ou]) ++ List.replicate (4 - (lg_sl ([.ref ((o 0) 0), .int (zI xw), .ref ou])).length) Slot.unset).toArray = ls at hl ⊢
  have hl : lv_has ls 4 [(0, .ref ((o 0) 0)), (1, .int (zI xw)), (2, .ref ou)] := hl
  refine lv_aload_n hx hb dL_value_0 rfl (lv_at hl 2 rfl) ?_
  refine zr_iconst hx hb dL_value_1 ?_
  refine lv_aload_n hx hb dL_value_2 rfl (lv_at hl 0 rfl) ?_
  refine lv_iload_n hx hb dL_value_3 rfl (lv_at hl 1 rfl) ?_
  refine zc_ri (va_runV (As := [.int (zI xw)]) (rest := [.int (zI 0), .ref ou]) ⟨hx, hb, hml, hown, hts⟩ (met_X5_value_ok l D cs o A xw rxw kok) (cwV 1 hts gL_value_X5_value rfl rfl rfl (by decide +kernel) ⟨(Nat.le_of_ble_eq_true rfl), (Nat.le_of_ble_eq_true rfl)⟩) ⟨zPre.blind, va_recv hK hP (ci := 5) (q0 := 0) rfl rfl, fun U hU hW => zp_R (hP.sub (ws' := [((o 0) 0, .inr (5, [.ref ((o 1) 0), .ref ((o 2) 0), .ref ((o 3) 0), .ref ((o 8) 0)]))] ++ zbat cs (o 1) A) [0, 1, 2, 3, 4, 5, 6, 7] rfl) hK (hD.sub (ws' := [((o 0) 0, .inr (5, [.ref ((o 1) 0), .ref ((o 2) 0), .ref ((o 3) 0), .ref ((o 8) 0)]))] ++ zbat cs (o 1) A) [0, 1, 2, 3, 4, 5, 6, 7] (by decide) rfl) hN hU hW⟩ rfl rfl hl.1 rfl (lv_room (Nat.le_of_ble_eq_true rfl)) dL_value_4 ⟨(Nat.le_of_ble_eq_true rfl), (Nat.le_of_ble_eq_true rfl)⟩) ?_
  refine lv_i2l hx hb dL_value_7 (zW_l (A xw)) ?_
  refine zr_last (D := D) (g := gu) hx hb hK hP hD hS 8 2 rfl rfl (by decide) (by decide) dL_value_8 (fun H locs hP hD hS => ?_)
  have hP9 : va_P D vwCl ([((o 0) 0, .inr (5, [.ref ((o 1) 0), .ref ((o 2) 0), .ref ((o 3) 0), .ref ((o 8) 0)]))] ++ (zbat cs (o 1) A ++ [(ou, .inl (cs 2, 1, .inr (.inl (zAL (zU gu 0 (zW (A xw)))))))])) H := hP
  have hD9 : va_D A0 ([((o 0) 0, .inr (5, [.ref ((o 1) 0), .ref ((o 2) 0), .ref ((o 3) 0), .ref ((o 8) 0)]))] ++ (zbat cs (o 1) A ++ [(ou, .inl (cs 2, 1, .inr (.inl (zAL (zU gu 0 (zW (A xw)))))))])) := zD_addr hD rfl
  refine lv_goto (tgt := 15) hx hb dL_value_9 (by decide) ?_
  refine zr_iconst hx hb dL_value_15 ?_
  refine vx_ret ?_
  rw [hAe] at hD9 hS
  exact W.iret hx hb hr (fun t ht hW => ⟨⟨_, (), rfl, rfl, by rw [ht]; exact hP9, hD9⟩, hS.F ht⟩) hS.2.2 dL_value_16
set_option maxHeartbeats 4000000 in
set_option maxRecDepth 100000 in
theorem met_L_value_x (l : Launch) (hfl : l.stackTraces = false) (D : va_G) (cs : Nat → ClassId) (o : Nat → Nat → Nat) (ou : Nat) (gu : Int → Int) (A : Int → Int) (xw : Int) (rxw : -2147483648 ≤ xw ∧ xw ≤ 2147483647) (kno : ¬ (0 ≤ xw ∧ xw ≤ 11)) : vx_Met l yL_value wsL_value ({ frames := 8, cells := 1, slots := 6, locals := 125 }) (va_Pc [.ref ((o 0) 0), .int (zI xw), .ref ou] (zPreU D (zTy cs) ([((o 0) 0, .inr (5, [.ref ((o 1) 0), .ref ((o 2) 0), .ref ((o 3) 0), .ref ((o 8) 0)]))] ++ (zbat cs (o 1) A ++ [(ou, .inl (cs 2, 1, .inr (.inl (zAL gu))))])))) (zQk 1) zXN 1 6 (fun _ => False) := by
  refine vx_ofWH (cc := cL_value) (maxL := 4) (ret := (some .int)) (hh := [(0, 9, 12, 13)]) (by decide +kernel) rfl ?_
  intro p e s m args below meth c s₁ B hml hv
  obtain ⟨rfl, ⟨⟨hP, hK, hD0, hN⟩, hX⟩, hC⟩ := hv
  have hx := B.exec
  have hb := B.bytes
  have hr := B.returns
  have hts := atoms_spec (ws := wsL_value) B.pre
  have hown : s.vm.findClass RL = some m.cls := findClass_of_methodNamed B.named
  have hlocks := B.notSynchronized
  have hX : zXF s s.heap := hX
  have hS : va_S (fun _ => False) s.heap s.heap [] := va_S.rf
  have hD := hD0
  have hP : va_P D vwCl ([((o 0) 0, .inr (5, [.ref ((o 1) 0), .ref ((o 2) 0), .ref ((o 3) 0), .ref ((o 8) 0)]))] ++ (zbat cs (o 1) A ++ [(ou, .inl (cs 2, 1, .inr (.inl (zAL gu))))])) s.heap := hP
  have hl := lv_entry ([.ref ((o 0) 0), .int (zI xw), .ref ou]) (n := 4) (Nat.le_of_ble_eq_true rfl)
  rw [lg_entry_eq]
  generalize (lg_sl ([.ref ((o 0) 0), .int (zI xw), .ref ou]) ++ List.replicate (4 - (lg_sl ([.ref ((o 0) 0), .int (zI xw), .ref ou])).length) Slot.unset).toArray = ls at hl ⊢
  have hl : lv_has ls 4 [(0, .ref ((o 0) 0)), (1, .int (zI xw)), (2, .ref ou)] := hl
  refine lv_aload_n hx hb dL_value_0 rfl (lv_at hl 2 rfl) ?_
  refine zr_iconst hx hb dL_value_1 ?_
  refine lv_aload_n hx hb dL_value_2 rfl (lv_at hl 0 rfl) ?_
  refine lv_iload_n hx hb dL_value_3 rfl (lv_at hl 1 rfl) ?_
  refine vx_calli (vx_runV (As := [.int (zI xw)]) (rest := [.int (zI 0), .ref ou]) ⟨hx, hb, hml, hown, hts⟩ (met_X5_value_x l hfl D cs o A xw rxw kno) (cwV 1 hts gL_value_X5_value rfl rfl rfl (by decide +kernel) ⟨(Nat.le_of_ble_eq_true rfl), (Nat.le_of_ble_eq_true rfl)⟩) ⟨zPreX.blind, va_recv hK hP (ci := 5) (q0 := 0) rfl rfl, fun U hU hW => zp_X (hP.sub (ws' := [((o 0) 0, .inr (5, [.ref ((o 1) 0), .ref ((o 2) 0), .ref ((o 3) 0), .ref ((o 8) 0)]))] ++ zbat cs (o 1) A) [0, 1, 2, 3, 4, 5, 6, 7] rfl) hK (hD.sub (ws' := [((o 0) 0, .inr (5, [.ref ((o 1) 0), .ref ((o 2) 0), .ref ((o 3) 0), .ref ((o 8) 0)]))] ++ zbat cs (o 1) A) [0, 1, 2, 3, 4, 5, 6, 7] (by decide) rfl) hN hX hU hW⟩ rfl rfl hl.1 rfl (lv_room (Nat.le_of_ble_eq_true rfl)) dL_value_4 ⟨(Nat.le_of_ble_eq_true rfl), (Nat.le_of_ble_eq_true rfl)⟩) hS (fun _ _ h => h) (fun _ h => h) (fun _ _ h => h) ?_ (fun r u t H1 locs1 ht hvm hp9 _ _ _ _ => hp9.elim)
  intro E ce q9 u t H1 locs1 ht hvm hp9 hE hz hk hS1 hcell hv9 hcl
  have hE : E = "java/lang/IllegalArgumentException" := hE
  subst hE
  refine vx_catch (own := RL) (name := "java/lang/IllegalArgumentException") hown [] { startPc := 0, endPc := 9, handlerPc := 12, catchType := 13 } [] ((vx_table (x := yL_value) B (hts _ List.mem_cons_self)).trans rfl) (fun z hz => by cases hz) (by decide) (by decide) (hts (.classLink RL 13 "java/lang/IllegalArgumentException") (by decide +kernel)) (va_Nw.use rfl (hX.1.1 (.castable "java/lang/IllegalArgumentException" "java/lang/IllegalArgumentException") (by decide +kernel))) hcell hv9 hcl ?_
  refine lv_astore_n (lv' := [(3, .ref q9), (0, .ref ((o 0) 0)), (1, .int (zI xw)), (2, .ref ou)]) hx hb dL_value_12 rfl hl (by decide) rfl (fun ls hl => ?_)
  refine zr_iconst hx hb dL_value_13 ?_
  refine vx_ret ?_
  exact W.iret hx hb hr (fun t ht hW => ⟨⟨_, (), rfl, rfl, trivial⟩, hS1.F ht⟩) hS1.2.2 dL_value_14
set_option maxHeartbeats 4000000 in
set_option maxRecDepth 100000 in
theorem met_L_setCurve_ok (l : Launch) (D : va_G) (cs : Nat → ClassId) (o : Nat → Nat → Nat) (ou : Nat) (gu : Int → Int) (sz : Nat) (A S0 S1 S2 S3 : Int → Int) (xm : Int) (n : Int) (xk : Int) (xl : Int) (xu : Int) (hI : zOK n A) (hn : 0 ≤ n ∧ n ≤ 3100000) (kxm : 0 ≤ xm ∧ xm ≤ 4) (rxk : -2147483648 ≤ xk ∧ xk ≤ 2147483647) (rxl : -2147483648 ≤ xl ∧ xl ≤ 2147483647) (rxu : -2147483648 ≤ xu ∧ xu ≤ 2147483647) (kok : (0 ≤ xk ∧ xk ≤ 10) ∧ (2000 ≤ xl ∧ xl ≤ 5000) ∧ (xl ≤ xu ∧ xu ≤ 5000) ∧ ((xk = 0 ∨ A (12 + xk - 1) < xl) ∧ (xk = 10 ∨ xl < A (12 + xk + 1))) ∧ ((xk = 0 ∨ A (23 + xk - 1) < xu) ∧ (xk = 10 ∨ xu < A (23 + xk + 1)))) : vx_Met l yL_setCurve wsL_setCurve ({ frames := 5, cells := 0, slots := 0, locals := 105 }) (va_Pc [.ref ((o 0) 0), .int (zI xk), .int (zI xl), .int (zI xu), .ref ou] (zPreZ D (zTy cs) ([((o 0) 0, .inr (5, [.ref ((o 1) 0), .ref ((o 2) 0), .ref ((o 3) 0), .ref ((o 8) 0)]))] ++ (zbat cs (o 1) A ++ ([((o 3) 0, .inr (3, [.ref ((o 3) 1), .int (zI xm)])), ((o 3) 1, .inl (cs 3, 4, .inr (.inr (.inr (.inr (zR ((o 4) 0) ((o 5) 0) ((o 6) 0) ((o 7) 0)))))))] ++ (zbat cs (o 4) S0 ++ (zbat cs (o 5) S1 ++ (zbat cs (o 6) S2 ++ (zbat cs (o 7) S3 ++ [(ou, .inl (cs 2, 1, .inr (.inl (zAL gu))))]))))))) sz)) (zQi D ([((o 0) 0, .inr (5, [.ref ((o 1) 0), .ref ((o 2) 0), .ref ((o 3) 0), .ref ((o 8) 0)]))] ++ (zbat cs (o 1) A ++ ([((o 3) 0, .inr (3, [.ref ((o 3) 1), .int (zI xm)])), ((o 3) 1, .inl (cs 3, 4, .inr (.inr (.inr (.inr (zR ((o 4) 0) ((o 5) 0) ((o 6) 0) ((o 7) 0)))))))] ++ (zbat cs (o 4) S0 ++ (zbat cs (o 5) S1 ++ (zbat cs (o 6) S2 ++ (zbat cs (o 7) S3 ++ [(ou, .inl (cs 2, 1, .inr (.inl (zAL gu))))]))))))) sz (zI 0) ([((o 0) 0, .inr (5, [.ref ((o 1) 0), .ref ((o 2) 0), .ref ((o 3) 0), .ref ((o 8) 0)]))] ++ (zbat cs (o 1) (zPut A xk xl xu) ++ ([((o 3) 0, .inr (3, [.ref ((o 3) 1), .int (zI (zm4 xm))])), ((o 3) 1, .inl (cs 3, 4, .inr (.inr (.inr (.inr (zR ((zq4 xm (o 5) (o 4)) 0) ((zq4 xm (o 6) (o 5)) 0) ((zq4 xm (o 7) (o 6)) 0) ((zq4 xm (o 4) (o 7)) 0)))))))] ++ (zbat cs (zq4 xm (o 5) (o 4)) (zs4 xm 0 A S0 S1) ++ (zbat cs (zq4 xm (o 6) (o 5)) (zs4 xm 1 A S1 S2) ++ (zbat cs (zq4 xm (o 7) (o 6)) (zs4 xm 2 A S2 S3) ++ (zbat cs (zq4 xm (o 4) (o 7)) (zs4 xm 3 A S3 A) ++ [(ou, .inl (cs 2, 1, .inr (.inl (zAL (zU gu 0 (zW (A (12 + xk))))))))])))))))) zXN 0 0 (va_A ([((o 0) 0, .inr (5, [.ref ((o 1) 0), .ref ((o 2) 0), .ref ((o 3) 0), .ref ((o 8) 0)]))] ++ (zbat cs (o 1) A ++ ([((o 3) 0, .inr (3, [.ref ((o 3) 1), .int (zI xm)])), ((o 3) 1, .inl (cs 3, 4, .inr (.inr (.inr (.inr (zR ((o 4) 0) ((o 5) 0) ((o 6) 0) ((o 7) 0)))))))] ++ (zbat cs (o 4) S0 ++ (zbat cs (o 5) S1 ++ (zbat cs (o 6) S2 ++ (zbat cs (o 7) S3 ++ [(ou, .inl (cs 2, 1, .inr (.inl (zAL gu))))]))))))) sz) := by
  refine vx_ofWH (cc := cL_setCurve) (maxL := 6) (ret := (some .int)) (hh := [(0, 12, 15, 26), (0, 12, 19, 13)]) (by decide +kernel) rfl ?_
  intro p e s m args below meth c s₁ B hml hv
  obtain ⟨rfl, hsz, hP, hK, hD0, hN⟩ := hv
  have hx := B.exec
  have hb := B.bytes
  have hr := B.returns
  have hts := atoms_spec (ws := wsL_setCurve) B.pre
  have hown : s.vm.findClass RL = some m.cls := findClass_of_methodNamed B.named
  have hlocks := B.notSynchronized
  subst hsz
  obtain ⟨A0, hAe⟩ : ∃ A0, A0 = va_A ([((o 0) 0, .inr (5, [.ref ((o 1) 0), .ref ((o 2) 0), .ref ((o 3) 0), .ref ((o 8) 0)]))] ++ (zbat cs (o 1) A ++ ([((o 3) 0, .inr (3, [.ref ((o 3) 1), .int (zI xm)])), ((o 3) 1, .inl (cs 3, 4, .inr (.inr (.inr (.inr (zR ((o 4) 0) ((o 5) 0) ((o 6) 0) ((o 7) 0)))))))] ++ (zbat cs (o 4) S0 ++ (zbat cs (o 5) S1 ++ (zbat cs (o 6) S2 ++ (zbat cs (o 7) S3 ++ [(ou, .inl (cs 2, 1, .inr (.inl (zAL gu))))]))))))) s.heap.size := ⟨_, rfl⟩
  have hD := hD0.self (sz := s.heap.size)
  rw [← hAe] at hD
  have hA : ∀ q : Nat, s.heap.size ≤ q → A0 q := fun q h => by rw [hAe]; exact Or.inr h
  have hS : va_S A0 s.heap s.heap [] := va_S.rf
  have hP : va_P D vwCl ([((o 0) 0, .inr (5, [.ref ((o 1) 0), .ref ((o 2) 0), .ref ((o 3) 0), .ref ((o 8) 0)]))] ++ (zbat cs (o 1) A ++ ([((o 3) 0, .inr (3, [.ref ((o 3) 1), .int (zI xm)])), ((o 3) 1, .inl (cs 3, 4, .inr (.inr (.inr (.inr (zR ((o 4) 0) ((o 5) 0) ((o 6) 0) ((o 7) 0)))))))] ++ (zbat cs (o 4) S0 ++ (zbat cs (o 5) S1 ++ (zbat cs (o 6) S2 ++ (zbat cs (o 7) S3 ++ [(ou, .inl (cs 2, 1, .inr (.inl (zAL gu))))]))))))) s.heap := hP
  have hl := lv_entry ([.ref ((o 0) 0), .int (zI xk), .int (zI xl), .int (zI xu), .ref ou]) (n := 6) (Nat.le_of_ble_eq_true rfl)
  rw [lg_entry_eq]
  generalize (lg_sl ([.ref ((o 0) 0), .int (zI xk), .int (zI xl), .int (zI xu), .ref ou]) ++ List.replicate (6 - (lg_sl ([.ref ((o 0) 0), .int (zI xk), .int (zI xl), .int (zI xu), .ref ou])).length) Slot.unset).toArray = ls at hl ⊢
  have hl : lv_has ls 6 [(0, .ref ((o 0) 0)), (1, .int (zI xk)), (2, .int (zI xl)), (3, .int (zI xu)), (4, .ref ou)] := hl
  refine lv_aload hx hb dL_setCurve_0 (lv_at hl 4 rfl) ?_
  refine zr_iconst hx hb dL_setCurve_2 ?_
  refine lv_aload_n hx hb dL_setCurve_3 rfl (lv_at hl 0 rfl) ?_
  refine lv_iload_n hx hb dL_setCurve_4 rfl (lv_at hl 1 rfl) ?_
  refine lv_iload_n hx hb dL_setCurve_5 rfl (lv_at hl 2 rfl) ?_
  refine lv_iload_n hx hb dL_setCurve_6 rfl (lv_at hl 3 rfl) ?_
  refine zc_ij (w := [((o 0) 0, .inr (5, [.ref ((o 1) 0), .ref ((o 2) 0), .ref ((o 3) 0), .ref ((o 8) 0)]))] ++ (zbat cs (o 1) A ++ ([((o 3) 0, .inr (3, [.ref ((o 3) 1), .int (zI xm)])), ((o 3) 1, .inl (cs 3, 4, .inr (.inr (.inr (.inr (zR ((o 4) 0) ((o 5) 0) ((o 6) 0) ((o 7) 0)))))))] ++ (zbat cs (o 4) S0 ++ (zbat cs (o 5) S1 ++ (zbat cs (o 6) S2 ++ zbat cs (o 7) S3)))))) (wr := [(ou, .inl (cs 2, 1, .inr (.inl (zAL gu))))]) (va_runV (As := [.int (zI xk), .int (zI xl), .int (zI xu)]) (rest := [.int (zI 0), .ref ou]) ⟨hx, hb, hml, hown, hts⟩ (met_X5_setCurve_ok l D cs o s.heap.size A S0 S1 S2 S3 xm n xk xl xu hI hn kxm rxk rxl rxu kok) (cwV 3 hts gL_setCurve_X5_setCurve rfl rfl rfl (by decide +kernel) ⟨(Nat.le_of_ble_eq_true rfl), (Nat.le_of_ble_eq_true rfl)⟩) ⟨zPreZ.blind, va_recv hK hP (ci := 5) (q0 := 0) rfl rfl, fun U hU hW => zp_Z (hP.sub (ws' := [((o 0) 0, .inr (5, [.ref ((o 1) 0), .ref ((o 2) 0), .ref ((o 3) 0), .ref ((o 8) 0)]))] ++ (zbat cs (o 1) A ++ ([((o 3) 0, .inr (3, [.ref ((o 3) 1), .int (zI xm)])), ((o 3) 1, .inl (cs 3, 4, .inr (.inr (.inr (.inr (zR ((o 4) 0) ((o 5) 0) ((o 6) 0) ((o 7) 0)))))))] ++ (zbat cs (o 4) S0 ++ (zbat cs (o 5) S1 ++ (zbat cs (o 6) S2 ++ zbat cs (o 7) S3)))))) [0, 1, 2, 3, 4, 5, 6, 7, 8, 9, 10, 11, 12, 13, 14, 15, 16, 17, 18, 19, 20, 21, 22, 23, 24, 25, 26, 27, 28, 29, 30, 31, 32, 33, 34, 35, 36, 37] rfl) hK (hD.sub (ws' := [((o 0) 0, .inr (5, [.ref ((o 1) 0), .ref ((o 2) 0), .ref ((o 3) 0), .ref ((o 8) 0)]))] ++ (zbat cs (o 1) A ++ ([((o 3) 0, .inr (3, [.ref ((o 3) 1), .int (zI xm)])), ((o 3) 1, .inl (cs 3, 4, .inr (.inr (.inr (.inr (zR ((o 4) 0) ((o 5) 0) ((o 6) 0) ((o 7) 0)))))))] ++ (zbat cs (o 4) S0 ++ (zbat cs (o 5) S1 ++ (zbat cs (o 6) S2 ++ zbat cs (o 7) S3)))))) [0, 1, 2, 3, 4, 5, 6, 7, 8, 9, 10, 11, 12, 13, 14, 15, 16, 17, 18, 19, 20, 21, 22, 23, 24, 25, 26, 27, 28, 29, 30, 31, 32, 33, 34, 35, 36, 37] (by decide) rfl) hN hU hW⟩ rfl rfl hl.1 rfl (lv_room (Nat.le_of_ble_eq_true rfl)) dL_setCurve_7 ⟨(Nat.le_of_ble_eq_true rfl), (Nat.le_of_ble_eq_true rfl)⟩) hS hP hD hA [0, 1, 2, 3, 4, 5, 6, 7, 8, 9, 10, 11, 12, 13, 14, 15, 16, 17, 18, 19, 20, 21, 22, 23, 24, 25, 26, 27, 28, 29, 30, 31, 32, 33, 34, 35, 36, 37] [38] rfl rfl (by decide) (by decide) (fun H locs hP hD hS => ?_)
  have hP : va_P D vwCl ([((o 0) 0, .inr (5, [.ref ((o 1) 0), .ref ((o 2) 0), .ref ((o 3) 0), .ref ((o 8) 0)]))] ++ (zbat cs (o 1) (zPut A xk xl xu) ++ ([((o 3) 0, .inr (3, [.ref ((o 3) 1), .int (zI (zm4 xm))])), ((o 3) 1, .inl (cs 3, 4, .inr (.inr (.inr (.inr (zR ((zq4 xm (o 5) (o 4)) 0) ((zq4 xm (o 6) (o 5)) 0) ((zq4 xm (o 7) (o 6)) 0) ((zq4 xm (o 4) (o 7)) 0)))))))] ++ (zbat cs (zq4 xm (o 5) (o 4)) (zs4 xm 0 A S0 S1) ++ (zbat cs (zq4 xm (o 6) (o 5)) (zs4 xm 1 A S1 S2) ++ (zbat cs (zq4 xm (o 7) (o 6)) (zs4 xm 2 A S2 S3) ++ (zbat cs (zq4 xm (o 4) (o 7)) (zs4 xm 3 A S3 A) ++ [(ou, .inl (cs 2, 1, .inr (.inl (zAL gu))))]))))))) H := hP.sub (ws' := [((o 0) 0, .inr (5, [.ref ((o 1) 0), .ref ((o 2) 0), .ref ((o 3) 0), .ref ((o 8) 0)]))] ++ (zbat cs (o 1) (zPut A xk xl xu) ++ ([((o 3) 0, .inr (3, [.ref ((o 3) 1), .int (zI (zm4 xm))])), ((o 3) 1, .inl (cs 3, 4, .inr (.inr (.inr (.inr (zR ((zq4 xm (o 5) (o 4)) 0) ((zq4 xm (o 6) (o 5)) 0) ((zq4 xm (o 7) (o 6)) 0) ((zq4 xm (o 4) (o 7)) 0)))))))] ++ (zbat cs (zq4 xm (o 5) (o 4)) (zs4 xm 0 A S0 S1) ++ (zbat cs (zq4 xm (o 6) (o 5)) (zs4 xm 1 A S1 S2) ++ (zbat cs (zq4 xm (o 7) (o 6)) (zs4 xm 2 A S2 S3) ++ (zbat cs (zq4 xm (o 4) (o 7)) (zs4 xm 3 A S3 A) ++ [(ou, .inl (cs 2, 1, .inr (.inl (zAL gu))))]))))))) [1, 2, 3, 4, 5, 6, 7, 8, 9, 10, 11, 12, 13, 14, 15, 16, 17, 18, 19, 20, 21, 22, 23, 24, 25, 26, 27, 28, 29, 30, 31, 32, 33, 34, 35, 36, 37, 38, 0] rfl
  have hD : va_D A0 ([((o 0) 0, .inr (5, [.ref ((o 1) 0), .ref ((o 2) 0), .ref ((o 3) 0), .ref ((o 8) 0)]))] ++ (zbat cs (o 1) (zPut A xk xl xu) ++ ([((o 3) 0, .inr (3, [.ref ((o 3) 1), .int (zI (zm4 xm))])), ((o 3) 1, .inl (cs 3, 4, .inr (.inr (.inr (.inr (zR ((zq4 xm (o 5) (o 4)) 0) ((zq4 xm (o 6) (o 5)) 0) ((zq4 xm (o 7) (o 6)) 0) ((zq4 xm (o 4) (o 7)) 0)))))))] ++ (zbat cs (zq4 xm (o 5) (o 4)) (zs4 xm 0 A S0 S1) ++ (zbat cs (zq4 xm (o 6) (o 5)) (zs4 xm 1 A S1 S2) ++ (zbat cs (zq4 xm (o 7) (o 6)) (zs4 xm 2 A S2 S3) ++ (zbat cs (zq4 xm (o 4) (o 7)) (zs4 xm 3 A S3 A) ++ [(ou, .inl (cs 2, 1, .inr (.inl (zAL gu))))]))))))) := hD.sub (ws' := [((o 0) 0, .inr (5, [.ref ((o 1) 0), .ref ((o 2) 0), .ref ((o 3) 0), .ref ((o 8) 0)]))] ++ (zbat cs (o 1) (zPut A xk xl xu) ++ ([((o 3) 0, .inr (3, [.ref ((o 3) 1), .int (zI (zm4 xm))])), ((o 3) 1, .inl (cs 3, 4, .inr (.inr (.inr (.inr (zR ((zq4 xm (o 5) (o 4)) 0) ((zq4 xm (o 6) (o 5)) 0) ((zq4 xm (o 7) (o 6)) 0) ((zq4 xm (o 4) (o 7)) 0)))))))] ++ (zbat cs (zq4 xm (o 5) (o 4)) (zs4 xm 0 A S0 S1) ++ (zbat cs (zq4 xm (o 6) (o 5)) (zs4 xm 1 A S1 S2) ++ (zbat cs (zq4 xm (o 7) (o 6)) (zs4 xm 2 A S2 S3) ++ (zbat cs (zq4 xm (o 4) (o 7)) (zs4 xm 3 A S3 A) ++ [(ou, .inl (cs 2, 1, .inr (.inl (zAL gu))))]))))))) [1, 2, 3, 4, 5, 6, 7, 8, 9, 10, 11, 12, 13, 14, 15, 16, 17, 18, 19, 20, 21, 22, 23, 24, 25, 26, 27, 28, 29, 30, 31, 32, 33, 34, 35, 36, 37, 38, 0] (by decide) rfl
  refine lv_i2l hx hb dL_setCurve_10 (zW_l (A (12 + xk))) ?_
  refine zr_last (D := D) (g := gu) hx hb hK hP hD hS 38 2 rfl rfl (by decide) (by decide) dL_setCurve_11 (fun H locs hP hD hS => ?_)
  have hP9 : va_P D vwCl ([((o 0) 0, .inr (5, [.ref ((o 1) 0), .ref ((o 2) 0), .ref ((o 3) 0), .ref ((o 8) 0)]))] ++ (zbat cs (o 1) (zPut A xk xl xu) ++ ([((o 3) 0, .inr (3, [.ref ((o 3) 1), .int (zI (zm4 xm))])), ((o 3) 1, .inl (cs 3, 4, .inr (.inr (.inr (.inr (zR ((zq4 xm (o 5) (o 4)) 0) ((zq4 xm (o 6) (o 5)) 0) ((zq4 xm (o 7) (o 6)) 0) ((zq4 xm (o 4) (o 7)) 0)))))))] ++ (zbat cs (zq4 xm (o 5) (o 4)) (zs4 xm 0 A S0 S1) ++ (zbat cs (zq4 xm (o 6) (o 5)) (zs4 xm 1 A S1 S2) ++ (zbat cs (zq4 xm (o 7) (o 6)) (zs4 xm 2 A S2 S3) ++ (zbat cs (zq4 xm (o 4) (o 7)) (zs4 xm 3 A S3 A) ++ [(ou, .inl (cs 2, 1, .inr (.inl (zAL (zU gu 0 (zW (A (12 + xk))))))))]))))))) H := hP
  have hD9 : va_D A0 ([((o 0) 0, .inr (5, [.ref ((o 1) 0), .ref ((o 2) 0), .ref ((o 3) 0), .ref ((o 8) 0)]))] ++ (zbat cs (o 1) (zPut A xk xl xu) ++ ([((o 3) 0, .inr (3, [.ref ((o 3) 1), .int (zI (zm4 xm))])), ((o 3) 1, .inl (cs 3, 4, .inr (.inr (.inr (.inr (zR ((zq4 xm (o 5) (o 4)) 0) ((zq4 xm (o 6) (o 5)) 0) ((zq4 xm (o 7) (o 6)) 0) ((zq4 xm (o 4) (o 7)) 0)))))))] ++ (zbat cs (zq4 xm (o 5) (o 4)) (zs4 xm 0 A S0 S1) ++ (zbat cs (zq4 xm (o 6) (o 5)) (zs4 xm 1 A S1 S2) ++ (zbat cs (zq4 xm (o 7) (o 6)) (zs4 xm 2 A S2 S3) ++ (zbat cs (zq4 xm (o 4) (o 7)) (zs4 xm 3 A S3 A) ++ [(ou, .inl (cs 2, 1, .inr (.inl (zAL (zU gu 0 (zW (A (12 + xk))))))))]))))))) := zD_addr hD rfl
  refine lv_goto (tgt := 23) hx hb dL_setCurve_12 (by decide) ?_
  refine zr_iconst hx hb dL_setCurve_23 ?_
  refine vx_ret ?_
  rw [hAe] at hD9 hS
  exact W.iret hx hb hr (fun t ht hW => ⟨⟨_, (), rfl, rfl, by rw [ht]; exact hP9, hD9⟩, hS.F ht⟩) hS.2.2 dL_setCurve_24
set_option maxHeartbeats 4000000 in
set_option maxRecDepth 100000 in
theorem met_L_setCurve_x1 (l : Launch) (hfl : l.stackTraces = false) (D : va_G) (cs : Nat → ClassId) (o : Nat → Nat → Nat) (ou : Nat) (gu : Int → Int) (A S0 S1 S2 S3 : Int → Int) (xm : Int) (xk : Int) (xl : Int) (xu : Int) (rxk : -2147483648 ≤ xk ∧ xk ≤ 2147483647) (rxl : -2147483648 ≤ xl ∧ xl ≤ 2147483647) (rxu : -2147483648 ≤ xu ∧ xu ≤ 2147483647) (kno : ¬ (0 ≤ xk ∧ xk ≤ 10)) : vx_Met l yL_setCurve wsL_setCurve ({ frames := 8, cells := 1, slots := 6, locals := 125 }) (va_Pc [.ref ((o 0) 0), .int (zI xk), .int (zI xl), .int (zI xu), .ref ou] (zPreU D (zTy cs) ([((o 0) 0, .inr (5, [.ref ((o 1) 0), .ref ((o 2) 0), .ref ((o 3) 0), .ref ((o 8) 0)]))] ++ (zbat cs (o 1) A ++ ([((o 3) 0, .inr (3, [.ref ((o 3) 1), .int (zI xm)])), ((o 3) 1, .inl (cs 3, 4, .inr (.inr (.inr (.inr (zR ((o 4) 0) ((o 5) 0) ((o 6) 0) ((o 7) 0)))))))] ++ (zbat cs (o 4) S0 ++ (zbat cs (o 5) S1 ++ (zbat cs (o 6) S2 ++ (zbat cs (o 7) S3 ++ [(ou, .inl (cs 2, 1, .inr (.inl (zAL gu))))]))))))))) (zQk 1) zXN 1 6 (fun _ => False) := by
  refine vx_ofWH (cc := cL_setCurve) (maxL := 6) (ret := (some .int)) (hh := [(0, 12, 15, 26), (0, 12, 19, 13)]) (by decide +kernel) rfl ?_
  intro p e s m args below meth c s₁ B hml hv
  obtain ⟨rfl, ⟨⟨hP, hK, hD0, hN⟩, hX⟩, hC⟩ := hv
  have hx := B.exec
  have hb := B.bytes
  have hr := B.returns
  have hts := atoms_spec (ws := wsL_setCurve) B.pre
  have hown : s.vm.findClass RL = some m.cls := findClass_of_methodNamed B.named
  have hlocks := B.notSynchronized
  have hX : zXF s s.heap := hX
  have hS : va_S (fun _ => False) s.heap s.heap [] := va_S.rf
  have hD := hD0
  have hP : va_P D vwCl ([((o 0) 0, .inr (5, [.ref ((o 1) 0), .ref ((o 2) 0), .ref ((o 3) 0), .ref ((o 8) 0)]))] ++ (zbat cs (o 1) A ++ ([((o 3) 0, .inr (3, [.ref ((o 3) 1), .int (zI xm)])), ((o 3) 1, .inl (cs 3, 4, .inr (.inr (.inr (.inr (zR ((o 4) 0) ((o 5) 0) ((o 6) 0) ((o 7) 0)))))))] ++ (zbat cs (o 4) S0 ++ (zbat cs (o 5) S1 ++ (zbat cs (o 6) S2 ++ (zbat cs (o 7) S3 ++ [(ou, .inl (cs 2, 1, .inr (.inl (zAL gu))))]))))))) s.heap := hP
  have hl := lv_entry ([.ref ((o 0) 0), .int (zI xk), .int (zI xl), .int (zI xu), .ref ou]) (n := 6) (Nat.le_of_ble_eq_true rfl)
  rw [lg_entry_eq]
  generalize (lg_sl ([.ref ((o 0) 0), .int (zI xk), .int (zI xl), .int (zI xu), .ref ou]) ++ List.replicate (6 - (lg_sl ([.ref ((o 0) 0), .int (zI xk), .int (zI xl), .int (zI xu), .ref ou])).length) Slot.unset).toArray = ls at hl ⊢
  have hl : lv_has ls 6 [(0, .ref ((o 0) 0)), (1, .int (zI xk)), (2, .int (zI xl)), (3, .int (zI xu)), (4, .ref ou)] := hl
  refine lv_aload hx hb dL_setCurve_0 (lv_at hl 4 rfl) ?_
  refine zr_iconst hx hb dL_setCurve_2 ?_
  refine lv_aload_n hx hb dL_setCurve_3 rfl (lv_at hl 0 rfl) ?_
  refine lv_iload_n hx hb dL_setCurve_4 rfl (lv_at hl 1 rfl) ?_
  refine lv_iload_n hx hb dL_setCurve_5 rfl (lv_at hl 2 rfl) ?_
  refine lv_iload_n hx hb dL_setCurve_6 rfl (lv_at hl 3 rfl) ?_
  refine vx_calli (vx_runV (As := [.int (zI xk), .int (zI xl), .int (zI xu)]) (rest := [.int (zI 0), .ref ou]) ⟨hx, hb, hml, hown, hts⟩ (met_X5_setCurve_x1 l hfl D cs o A S0 S1 S2 S3 xm xk xl xu rxk rxl rxu kno) (cwV 3 hts gL_setCurve_X5_setCurve rfl rfl rfl (by decide +kernel) ⟨(Nat.le_of_ble_eq_true rfl), (Nat.le_of_ble_eq_true rfl)⟩) ⟨zPreX.blind, va_recv hK hP (ci := 5) (q0 := 0) rfl rfl, fun U hU hW => zp_X (hP.sub (ws' := [((o 0) 0, .inr (5, [.ref ((o 1) 0), .ref ((o 2) 0), .ref ((o 3) 0), .ref ((o 8) 0)]))] ++ (zbat cs (o 1) A ++ ([((o 3) 0, .inr (3, [.ref ((o 3) 1), .int (zI xm)])), ((o 3) 1, .inl (cs 3, 4, .inr (.inr (.inr (.inr (zR ((o 4) 0) ((o 5) 0) ((o 6) 0) ((o 7) 0)))))))] ++ (zbat cs (o 4) S0 ++ (zbat cs (o 5) S1 ++ (zbat cs (o 6) S2 ++ zbat cs (o 7) S3)))))) [0, 1, 2, 3, 4, 5, 6, 7, 8, 9, 10, 11, 12, 13, 14, 15, 16, 17, 18, 19, 20, 21, 22, 23, 24, 25, 26, 27, 28, 29, 30, 31, 32, 33, 34, 35, 36, 37] rfl) hK (hD.sub (ws' := [((o 0) 0, .inr (5, [.ref ((o 1) 0), .ref ((o 2) 0), .ref ((o 3) 0), .ref ((o 8) 0)]))] ++ (zbat cs (o 1) A ++ ([((o 3) 0, .inr (3, [.ref ((o 3) 1), .int (zI xm)])), ((o 3) 1, .inl (cs 3, 4, .inr (.inr (.inr (.inr (zR ((o 4) 0) ((o 5) 0) ((o 6) 0) ((o 7) 0)))))))] ++ (zbat cs (o 4) S0 ++ (zbat cs (o 5) S1 ++ (zbat cs (o 6) S2 ++ zbat cs (o 7) S3)))))) [0, 1, 2, 3, 4, 5, 6, 7, 8, 9, 10, 11, 12, 13, 14, 15, 16, 17, 18, 19, 20, 21, 22, 23, 24, 25, 26, 27, 28, 29, 30, 31, 32, 33, 34, 35, 36, 37] (by decide) rfl) hN hX hU hW⟩ rfl rfl hl.1 rfl (lv_room (Nat.le_of_ble_eq_true rfl)) dL_setCurve_7 ⟨(Nat.le_of_ble_eq_true rfl), (Nat.le_of_ble_eq_true rfl)⟩) hS (fun _ _ h => h) (fun _ h => h) (fun _ _ h => h) ?_ (fun r u t H1 locs1 ht hvm hp9 _ _ _ _ => hp9.elim)
  intro E ce q9 u t H1 locs1 ht hvm hp9 hE hz hk hS1 hcell hv9 hcl
  have hE : E = "java/lang/IndexOutOfBoundsException" := hE
  subst hE
  refine vx_catch (own := RL) (name := "java/lang/IndexOutOfBoundsException") hown [] { startPc := 0, endPc := 12, handlerPc := 15, catchType := 26 } [{ startPc := 0, endPc := 12, handlerPc := 19, catchType := 13 }] ((vx_table (x := yL_setCurve) B (hts _ List.mem_cons_self)).trans rfl) (fun z hz => by cases hz) (by decide) (by decide) (hts (.classLink RL 26 "java/lang/IndexOutOfBoundsException") (by decide +kernel)) (va_Nw.use rfl (hX.1.1 (.castable "java/lang/IndexOutOfBoundsException" "java/lang/IndexOutOfBoundsException") (by decide +kernel))) hcell hv9 hcl ?_
  refine lv_astore (lv' := [(5, .ref q9), (0, .ref ((o 0) 0)), (1, .int (zI xk)), (2, .int (zI xl)), (3, .int (zI xu)), (4, .ref ou)]) hx hb dL_setCurve_15 hl (by decide) rfl (fun ls hl => ?_)
  refine zr_iconst hx hb dL_setCurve_17 ?_
  refine vx_ret ?_
  exact W.iret hx hb hr (fun t ht hW => ⟨⟨_, (), rfl, rfl, trivial⟩, hS1.F ht⟩) hS1.2.2 dL_setCurve_18
set_option maxHeartbeats 4000000 in
set_option maxRecDepth 100000 in
theorem met_L_setCurve_x2 (l : Launch) (hfl : l.stackTraces = false) (D : va_G) (cs : Nat → ClassId) (o : Nat → Nat → Nat) (ou : Nat) (gu : Int → Int) (A S0 S1 S2 S3 : Int → Int) (xm : Int) (n : Int) (xk : Int) (xl : Int) (xu : Int) (hI : zOK n A) (hn : 0 ≤ n ∧ n ≤ 3100000) (rxk : -2147483648 ≤ xk ∧ xk ≤ 2147483647) (rxl : -2147483648 ≤ xl ∧ xl ≤ 2147483647) (rxu : -2147483648 ≤ xu ∧ xu ≤ 2147483647) (kno : (0 ≤ xk ∧ xk ≤ 10) ∧ ¬ ((2000 ≤ xl ∧ xl ≤ 5000) ∧ (xl ≤ xu ∧ xu ≤ 5000) ∧ ((xk = 0 ∨ A (12 + xk - 1) < xl) ∧ (xk = 10 ∨ xl < A (12 + xk + 1))) ∧ ((xk = 0 ∨ A (23 + xk - 1) < xu) ∧ (xk = 10 ∨ xu < A (23 + xk + 1))))) : vx_Met l yL_setCurve wsL_setCurve ({ frames := 8, cells := 1, slots := 6, locals := 127 }) (va_Pc [.ref ((o 0) 0), .int (zI xk), .int (zI xl), .int (zI xu), .ref ou] (zPreU D (zTy cs) ([((o 0) 0, .inr (5, [.ref ((o 1) 0), .ref ((o 2) 0), .ref ((o 3) 0), .ref ((o 8) 0)]))] ++ (zbat cs (o 1) A ++ ([((o 3) 0, .inr (3, [.ref ((o 3) 1), .int (zI xm)])), ((o 3) 1, .inl (cs 3, 4, .inr (.inr (.inr (.inr (zR ((o 4) 0) ((o 5) 0) ((o 6) 0) ((o 7) 0)))))))] ++ (zbat cs (o 4) S0 ++ (zbat cs (o 5) S1 ++ (zbat cs (o 6) S2 ++ (zbat cs (o 7) S3 ++ [(ou, .inl (cs 2, 1, .inr (.inl (zAL gu))))]))))))))) (zQk 2) zXN 1 6 (fun _ => False) := by
  refine vx_ofWH (cc := cL_setCurve) (maxL := 6) (ret := (some .int)) (hh := [(0, 12, 15, 26), (0, 12, 19, 13)]) (by decide +kernel) rfl ?_
  intro p e s m args below meth c s₁ B hml hv
  obtain ⟨rfl, ⟨⟨hP, hK, hD0, hN⟩, hX⟩, hC⟩ := hv
  have hx := B.exec
  have hb := B.bytes
  have hr := B.returns
  have hts := atoms_spec (ws := wsL_setCurve) B.pre
  have hown : s.vm.findClass RL = some m.cls := findClass_of_methodNamed B.named
  have hlocks := B.notSynchronized
  have hX : zXF s s.heap := hX
  have hS : va_S (fun _ => False) s.heap s.heap [] := va_S.rf
  have hD := hD0
  have hP : va_P D vwCl ([((o 0) 0, .inr (5, [.ref ((o 1) 0), .ref ((o 2) 0), .ref ((o 3) 0), .ref ((o 8) 0)]))] ++ (zbat cs (o 1) A ++ ([((o 3) 0, .inr (3, [.ref ((o 3) 1), .int (zI xm)])), ((o 3) 1, .inl (cs 3, 4, .inr (.inr (.inr (.inr (zR ((o 4) 0) ((o 5) 0) ((o 6) 0) ((o 7) 0)))))))] ++ (zbat cs (o 4) S0 ++ (zbat cs (o 5) S1 ++ (zbat cs (o 6) S2 ++ (zbat cs (o 7) S3 ++ [(ou, .inl (cs 2, 1, .inr (.inl (zAL gu))))]))))))) s.heap := hP
  have hl := lv_entry ([.ref ((o 0) 0), .int (zI xk), .int (zI xl), .int (zI xu), .ref ou]) (n := 6) (Nat.le_of_ble_eq_true rfl)
  rw [lg_entry_eq]
  generalize (lg_sl ([.ref ((o 0) 0), .int (zI xk), .int (zI xl), .int (zI xu), .ref ou]) ++ List.replicate (6 - (lg_sl ([.ref ((o 0) 0), .int (zI xk), .int (zI xl), .int (zI xu), .ref ou])).length) Slot.unset).toArray = ls at hl ⊢
  have hl : lv_has ls 6 [(0, .ref ((o 0) 0)), (1, .int (zI xk)), (2, .int (zI xl)), (3, .int (zI xu)), (4, .ref ou)] := hl
  refine lv_aload hx hb dL_setCurve_0 (lv_at hl 4 rfl) ?_
  refine zr_iconst hx hb dL_setCurve_2 ?_
  refine lv_aload_n hx hb dL_setCurve_3 rfl (lv_at hl 0 rfl) ?_
  refine lv_iload_n hx hb dL_setCurve_4 rfl (lv_at hl 1 rfl) ?_
  refine lv_iload_n hx hb dL_setCurve_5 rfl (lv_at hl 2 rfl) ?_
  refine lv_iload_n hx hb dL_setCurve_6 rfl (lv_at hl 3 rfl) ?_
  refine vx_calli (vx_runV (As := [.int (zI xk), .int (zI xl), .int (zI xu)]) (rest := [.int (zI 0), .ref ou]) ⟨hx, hb, hml, hown, hts⟩ (met_X5_setCurve_x2 l hfl D cs o A S0 S1 S2 S3 xm n xk xl xu hI hn rxk rxl rxu kno) (cwV 3 hts gL_setCurve_X5_setCurve rfl rfl rfl (by decide +kernel) ⟨(Nat.le_of_ble_eq_true rfl), (Nat.le_of_ble_eq_true rfl)⟩) ⟨zPreX.blind, va_recv hK hP (ci := 5) (q0 := 0) rfl rfl, fun U hU hW => zp_X (hP.sub (ws' := [((o 0) 0, .inr (5, [.ref ((o 1) 0), .ref ((o 2) 0), .ref ((o 3) 0), .ref ((o 8) 0)]))] ++ (zbat cs (o 1) A ++ ([((o 3) 0, .inr (3, [.ref ((o 3) 1), .int (zI xm)])), ((o 3) 1, .inl (cs 3, 4, .inr (.inr (.inr (.inr (zR ((o 4) 0) ((o 5) 0) ((o 6) 0) ((o 7) 0)))))))] ++ (zbat cs (o 4) S0 ++ (zbat cs (o 5) S1 ++ (zbat cs (o 6) S2 ++ zbat cs (o 7) S3)))))) [0, 1, 2, 3, 4, 5, 6, 7, 8, 9, 10, 11, 12, 13, 14, 15, 16, 17, 18, 19, 20, 21, 22, 23, 24, 25, 26, 27, 28, 29, 30, 31, 32, 33, 34, 35, 36, 37] rfl) hK (hD.sub (ws' := [((o 0) 0, .inr (5, [.ref ((o 1) 0), .ref ((o 2) 0), .ref ((o 3) 0), .ref ((o 8) 0)]))] ++ (zbat cs (o 1) A ++ ([((o 3) 0, .inr (3, [.ref ((o 3) 1), .int (zI xm)])), ((o 3) 1, .inl (cs 3, 4, .inr (.inr (.inr (.inr (zR ((o 4) 0) ((o 5) 0) ((o 6) 0) ((o 7) 0)))))))] ++ (zbat cs (o 4) S0 ++ (zbat cs (o 5) S1 ++ (zbat cs (o 6) S2 ++ zbat cs (o 7) S3)))))) [0, 1, 2, 3, 4, 5, 6, 7, 8, 9, 10, 11, 12, 13, 14, 15, 16, 17, 18, 19, 20, 21, 22, 23, 24, 25, 26, 27, 28, 29, 30, 31, 32, 33, 34, 35, 36, 37] (by decide) rfl) hN hX hU hW⟩ rfl rfl hl.1 rfl (lv_room (Nat.le_of_ble_eq_true rfl)) dL_setCurve_7 ⟨(Nat.le_of_ble_eq_true rfl), (Nat.le_of_ble_eq_true rfl)⟩) hS (fun _ _ h => h) (fun _ h => h) (fun _ _ h => h) ?_ (fun r u t H1 locs1 ht hvm hp9 _ _ _ _ => hp9.elim)
  intro E ce q9 u t H1 locs1 ht hvm hp9 hE hz hk hS1 hcell hv9 hcl
  have hE : E = "java/lang/IllegalArgumentException" := hE
  subst hE
  refine vx_catch (own := RL) (name := "java/lang/IllegalArgumentException") hown [{ startPc := 0, endPc := 12, handlerPc := 15, catchType := 26 }] { startPc := 0, endPc := 12, handlerPc := 19, catchType := 13 } [] ((vx_table (x := yL_setCurve) B (hts _ List.mem_cons_self)).trans rfl) (fun z hz => by rw [List.mem_singleton.mp hz]; exact Or.inr ⟨by decide, "java/lang/IndexOutOfBoundsException", (hts (.classLink RL 26 "java/lang/IndexOutOfBoundsException") (by decide +kernel)), hC.1⟩) (by decide) (by decide) (hts (.classLink RL 13 "java/lang/IllegalArgumentException") (by decide +kernel)) (va_Nw.use rfl (hX.1.1 (.castable "java/lang/IllegalArgumentException" "java/lang/IllegalArgumentException") (by decide +kernel))) hcell hv9 hcl ?_
  refine lv_astore (lv' := [(5, .ref q9), (0, .ref ((o 0) 0)), (1, .int (zI xk)), (2, .int (zI xl)), (3, .int (zI xu)), (4, .ref ou)]) hx hb dL_setCurve_19 hl (by decide) rfl (fun ls hl => ?_)
  refine zr_iconst hx hb dL_setCurve_21 ?_
  refine vx_ret ?_
  exact W.iret hx hb hr (fun t ht hW => ⟨⟨_, (), rfl, rfl, trivial⟩, hS1.F ht⟩) hS1.2.2 dL_setCurve_22
set_option maxHeartbeats 4000000 in
set_option maxRecDepth 100000 in
theorem met_L_curve_ok (l : Launch) (D : va_G) (cs : Nat → ClassId) (o : Nat → Nat → Nat) (ou : Nat) (gu : Int → Int) (sz : Nat) (A : Int → Int) (xk : Int) (xp : Prop) [Decidable xp] (rxk : -2147483648 ≤ xk ∧ xk ≤ 2147483647) (kok : 0 ≤ xk ∧ xk ≤ 10) : vx_Met l yL_curve wsL_curve ({ frames := 2, cells := 0, slots := 0, locals := 42 }) (va_Pc [.ref ((o 0) 0), .int (zI xk), .int (zI (zB (xp))), .ref ou] (zPreZ D (zTy cs) ([((o 0) 0, .inr (5, [.ref ((o 1) 0), .ref ((o 2) 0), .ref ((o 3) 0), .ref ((o 8) 0)]))] ++ (zbat cs (o 1) A ++ [(ou, .inl (cs 2, 1, .inr (.inl (zAL gu))))])) sz)) (zQi D ([((o 0) 0, .inr (5, [.ref ((o 1) 0), .ref ((o 2) 0), .ref ((o 3) 0), .ref ((o 8) 0)]))] ++ (zbat cs (o 1) A ++ [(ou, .inl (cs 2, 1, .inr (.inl (zAL gu))))])) sz (zI 0) ([((o 0) 0, .inr (5, [.ref ((o 1) 0), .ref ((o 2) 0), .ref ((o 3) 0), .ref ((o 8) 0)]))] ++ (zbat cs (o 1) A ++ [(ou, .inl (cs 2, 1, .inr (.inl (zAL (zU gu 0 (zW (zCu A xk xp)))))))]))) zXN 0 0 (va_A ([((o 0) 0, .inr (5, [.ref ((o 1) 0), .ref ((o 2) 0), .ref ((o 3) 0), .ref ((o 8) 0)]))] ++ (zbat cs (o 1) A ++ [(ou, .inl (cs 2, 1, .inr (.inl (zAL gu))))])) sz) := by
  refine vx_ofWH (cc := cL_curve) (maxL := 5) (ret := (some .int)) (hh := [(0, 10, 13, 26)]) (by decide +kernel) rfl ?_
  intro p e s m args below meth c s₁ B hml hv
  obtain ⟨rfl, hsz, hP, hK, hD0, hN⟩ := hv
  have hx := B.exec
  have hb := B.bytes
  have hr := B.returns
  have hts := atoms_spec (ws := wsL_curve) B.pre
  have hown : s.vm.findClass RL = some m.cls := findClass_of_methodNamed B.named
  have hlocks := B.notSynchronized
  subst hsz
  obtain ⟨A0, hAe⟩ : ∃ A0, A0 = va_A ([((o 0) 0, .inr (5, [.ref ((o 1) 0), .ref ((o 2) 0), .ref ((o 3) 0), .ref ((o 8) 0)]))] ++ (zbat cs (o 1) A ++ [(ou, .inl (cs 2, 1, .inr (.inl (zAL gu))))])) s.heap.size := ⟨_, rfl⟩
  have hD := hD0.self (sz := s.heap.size)
  rw [← hAe] at hD
  have hA : ∀ q : Nat, s.heap.size ≤ q → A0 q := fun q h => by rw [hAe]; exact Or.inr h
  have hS : va_S A0 s.heap s.heap [] := va_S.rf
  have hP : va_P D vwCl ([((o 0) 0, .inr (5, [.ref ((o 1) 0), .ref ((o 2) 0), .ref ((o 3) 0), .ref ((o 8) 0)]))] ++ (zbat cs (o 1) A ++ [(ou, .inl (cs 2, 1, .inr (.inl (zAL gu))))])) s.heap := hP
  have hl := lv_entry ([.ref ((o 0) 0), .int (zI xk), .int (zI (zB (xp))), .ref ou]) (n := 5) (Nat.le_of_ble_eq_true rfl)
  rw [lg_entry_eq]
  generalize (lg_sl ([.ref ((o 0) 0), .int (zI xk), .int (zI (zB (xp))), .ref ou]) ++ List.replicate (5 - (lg_sl ([.ref ((o 0) 0), .int (zI xk), .int (zI (zB (xp))), .ref ou])).length) Slot.unset).toArray = ls at hl ⊢
  have hl : lv_has ls 5 [(0, .ref ((o 0) 0)), (1, .int (zI xk)), (2, .int (zI (zB (xp)))), (3, .ref ou)] := hl
  refine lv_aload_n hx hb dL_curve_0 rfl (lv_at hl 3 rfl) ?_
  refine zr_iconst hx hb dL_curve_1 ?_
  refine lv_aload_n hx hb dL_curve_2 rfl (lv_at hl 0 rfl) ?_
  refine lv_iload_n hx hb dL_curve_3 rfl (lv_at hl 1 rfl) ?_
  refine lv_iload_n hx hb dL_curve_4 rfl (lv_at hl 2 rfl) ?_
  refine zc_ri (va_runV (As := [.int (zI xk), .int (zI (zB (xp)))]) (rest := [.int (zI 0), .ref ou]) ⟨hx, hb, hml, hown, hts⟩ (met_X5_curve_ok l D cs o A xk xp rxk kok) (cwV 2 hts gL_curve_X5_curve rfl rfl rfl (by decide +kernel) ⟨(Nat.le_of_ble_eq_true rfl), (Nat.le_of_ble_eq_true rfl)⟩) ⟨zPre.blind, va_recv hK hP (ci := 5) (q0 := 0) rfl rfl, fun U hU hW => zp_R (hP.sub (ws' := [((o 0) 0, .inr (5, [.ref ((o 1) 0), .ref ((o 2) 0), .ref ((o 3) 0), .ref ((o 8) 0)]))] ++ zbat cs (o 1) A) [0, 1, 2, 3, 4, 5, 6, 7] rfl) hK (hD.sub (ws' := [((o 0) 0, .inr (5, [.ref ((o 1) 0), .ref ((o 2) 0), .ref ((o 3) 0), .ref ((o 8) 0)]))] ++ zbat cs (o 1) A) [0, 1, 2, 3, 4, 5, 6, 7] (by decide) rfl) hN hU hW⟩ rfl rfl hl.1 rfl (lv_room (Nat.le_of_ble_eq_true rfl)) dL_curve_5 ⟨(Nat.le_of_ble_eq_true rfl), (Nat.le_of_ble_eq_true rfl)⟩) ?_
  refine lv_i2l hx hb dL_curve_8 (zW_l (zCu A xk xp)) ?_
  refine zr_last (D := D) (g := gu) hx hb hK hP hD hS 8 2 rfl rfl (by decide) (by decide) dL_curve_9 (fun H locs hP hD hS => ?_)
  have hP9 : va_P D vwCl ([((o 0) 0, .inr (5, [.ref ((o 1) 0), .ref ((o 2) 0), .ref ((o 3) 0), .ref ((o 8) 0)]))] ++ (zbat cs (o 1) A ++ [(ou, .inl (cs 2, 1, .inr (.inl (zAL (zU gu 0 (zW (zCu A xk xp)))))))])) H := hP
  have hD9 : va_D A0 ([((o 0) 0, .inr (5, [.ref ((o 1) 0), .ref ((o 2) 0), .ref ((o 3) 0), .ref ((o 8) 0)]))] ++ (zbat cs (o 1) A ++ [(ou, .inl (cs 2, 1, .inr (.inl (zAL (zU gu 0 (zW (zCu A xk xp)))))))])) := zD_addr hD rfl
  refine lv_goto (tgt := 17) hx hb dL_curve_10 (by decide) ?_
  refine zr_iconst hx hb dL_curve_17 ?_
  refine vx_ret ?_
  rw [hAe] at hD9 hS
  exact W.iret hx hb hr (fun t ht hW => ⟨⟨_, (), rfl, rfl, by rw [ht]; exact hP9, hD9⟩, hS.F ht⟩) hS.2.2 dL_curve_18
set_option maxHeartbeats 4000000 in
set_option maxRecDepth 100000 in
theorem met_L_curve_x (l : Launch) (hfl : l.stackTraces = false) (D : va_G) (cs : Nat → ClassId) (o : Nat → Nat → Nat) (ou : Nat) (gu : Int → Int) (A : Int → Int) (xk : Int) (xp : Prop) [Decidable xp] (rxk : -2147483648 ≤ xk ∧ xk ≤ 2147483647) (kno : ¬ (0 ≤ xk ∧ xk ≤ 10)) : vx_Met l yL_curve wsL_curve ({ frames := 8, cells := 1, slots := 6, locals := 124 }) (va_Pc [.ref ((o 0) 0), .int (zI xk), .int (zI (zB (xp))), .ref ou] (zPreU D (zTy cs) ([((o 0) 0, .inr (5, [.ref ((o 1) 0), .ref ((o 2) 0), .ref ((o 3) 0), .ref ((o 8) 0)]))] ++ (zbat cs (o 1) A ++ [(ou, .inl (cs 2, 1, .inr (.inl (zAL gu))))])))) (zQk 1) zXN 1 6 (fun _ => False) := by
  refine vx_ofWH (cc := cL_curve) (maxL := 5) (ret := (some .int)) (hh := [(0, 10, 13, 26)]) (by decide +kernel) rfl ?_
  intro p e s m args below meth c s₁ B hml hv
  obtain ⟨rfl, ⟨⟨hP, hK, hD0, hN⟩, hX⟩, hC⟩ := hv
  have hx := B.exec
  have hb := B.bytes
  have hr := B.returns
  have hts := atoms_spec (ws := wsL_curve) B.pre
  have hown : s.vm.findClass RL = some m.cls := findClass_of_methodNamed B.named
  have hlocks := B.notSynchronized
  have hX : zXF s s.heap := hX
  have hS : va_S (fun _ => False) s.heap s.heap [] := va_S.rf
  have hD := hD0
  have hP : va_P D vwCl ([((o 0) 0, .inr (5, [.ref ((o 1) 0), .ref ((o 2) 0), .ref ((o 3) 0), .ref ((o 8) 0)]))] ++ (zbat cs (o 1) A ++ [(ou, .inl (cs 2, 1, .inr (.inl (zAL gu))))])) s.heap := hP
  have hl := lv_entry ([.ref ((o 0) 0), .int (zI xk), .int (zI (zB (xp))), .ref ou]) (n := 5) (Nat.le_of_ble_eq_true rfl)
  rw [lg_entry_eq]
  generalize (lg_sl ([.ref ((o 0) 0), .int (zI xk), .int (zI (zB (xp))), .ref ou]) ++ List.replicate (5 - (lg_sl ([.ref ((o 0) 0), .int (zI xk), .int (zI (zB (xp))), .ref ou])).length) Slot.unset).toArray = ls at hl ⊢
  have hl : lv_has ls 5 [(0, .ref ((o 0) 0)), (1, .int (zI xk)), (2, .int (zI (zB (xp)))), (3, .ref ou)] := hl
  refine lv_aload_n hx hb dL_curve_0 rfl (lv_at hl 3 rfl) ?_
  refine zr_iconst hx hb dL_curve_1 ?_
  refine lv_aload_n hx hb dL_curve_2 rfl (lv_at hl 0 rfl) ?_
  refine lv_iload_n hx hb dL_curve_3 rfl (lv_at hl 1 rfl) ?_
  refine lv_iload_n hx hb dL_curve_4 rfl (lv_at hl 2 rfl) ?_
  refine vx_calli (vx_runV (As := [.int (zI xk), .int (zI (zB (xp)))]) (rest := [.int (zI 0), .ref ou]) ⟨hx, hb, hml, hown, hts⟩ (met_X5_curve_x l hfl D cs o A xk xp rxk kno) (cwV 2 hts gL_curve_X5_curve rfl rfl rfl (by decide +kernel) ⟨(Nat.le_of_ble_eq_true rfl), (Nat.le_of_ble_eq_true rfl)⟩) ⟨zPreX.blind, va_recv hK hP (ci := 5) (q0 := 0) rfl rfl, fun U hU hW => zp_X (hP.sub (ws' := [((o 0) 0, .inr (5, [.ref ((o 1) 0), .ref ((o 2) 0), .ref ((o 3) 0), .ref ((o 8) 0)]))] ++ zbat cs (o 1) A) [0, 1, 2, 3, 4, 5, 6, 7] rfl) hK (hD.sub (ws' := [((o 0) 0, .inr (5, [.ref ((o 1) 0), .ref ((o 2) 0), .ref ((o 3) 0), .ref ((o 8) 0)]))] ++ zbat cs (o 1) A) [0, 1, 2, 3, 4, 5, 6, 7] (by decide) rfl) hN hX hU hW⟩ rfl rfl hl.1 rfl (lv_room (Nat.le_of_ble_eq_true rfl)) dL_curve_5 ⟨(Nat.le_of_ble_eq_true rfl), (Nat.le_of_ble_eq_true rfl)⟩) hS (fun _ _ h => h) (fun _ h => h) (fun _ _ h => h) ?_ (fun r u t H1 locs1 ht hvm hp9 _ _ _ _ => hp9.elim)
  intro E ce q9 u t H1 locs1 ht hvm hp9 hE hz hk hS1 hcell hv9 hcl
  have hE : E = "java/lang/IndexOutOfBoundsException" := hE
  subst hE
  refine vx_catch (own := RL) (name := "java/lang/IndexOutOfBoundsException") hown [] { startPc := 0, endPc := 10, handlerPc := 13, catchType := 26 } [] ((vx_table (x := yL_curve) B (hts _ List.mem_cons_self)).trans rfl) (fun z hz => by cases hz) (by decide) (by decide) (hts (.classLink RL 26 "java/lang/IndexOutOfBoundsException") (by decide +kernel)) (va_Nw.use rfl (hX.1.1 (.castable "java/lang/IndexOutOfBoundsException" "java/lang/IndexOutOfBoundsException") (by decide +kernel))) hcell hv9 hcl ?_
  refine lv_astore (lv' := [(4, .ref q9), (0, .ref ((o 0) 0)), (1, .int (zI xk)), (2, .int (zI (zB (xp)))), (3, .ref ou)]) hx hb dL_curve_13 hl (by decide) rfl (fun ls hl => ?_)
  refine zr_iconst hx hb dL_curve_15 ?_
  refine vx_ret ?_
  exact W.iret hx hb hr (fun t ht hW => ⟨⟨_, (), rfl, rfl, trivial⟩, hS1.F ht⟩) hS1.2.2 dL_curve_16
