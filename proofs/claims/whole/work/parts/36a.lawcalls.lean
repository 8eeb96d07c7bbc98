/-! the law: begin -/
set_option maxHeartbeats 8000000 in
set_option maxRecDepth 100000 in
theorem law_begin {p : Program} {e : Env} {s : State} {m : MethodId} {below : List Frame} {meth : Method} {c : Code} {b L : Nat} {xs : Nat → Int32} {Q : State → Prop} (l : Launch) (hfl : l.stackTraces = false) (D : va_G) (cs : Nat → ClassId) (hx : p.tables.exec = Jvm.exec) (hb : c.code = cL_law) (hml : c.maxLocals = 9) (hown : s.vm.findClass RL = some m.cls) (hts : ∀ w ∈ wsL_law, w.before #[Value.ref b] s = true) (hK : va_K D vwCl (zTy cs) s) (hN : zNW s) (hG : zXG s) (hC : zNcP s) (hO : va_AO RX1 s) (hL : L ≤ 2560) (hXs : va_X b L xs s s.heap) (hbl : b < s.heap.size) (xi : Int) (hxi : 0 ≤ xi ∧ xi + 5 ≤ L) (cells slots : Nat) (hcl : cells + 1 ≤ 601024 ∧ slots + 6 ≤ 7293034) (ou : Nat) (o : Nat → Nat → Nat) (q : Nat → Nat) (n : Int) (A T S0 S1 S2 S3 S V : Int → Int) (xm : Int) (f : Int → Int) (xl : Int) (g : Int → Int) (xk xn xd xe xth xam xpl : Int) (gr gu : Int → Int) (hI9 : zInL n A S0 S1 S2 S3 S xm f xl) (hn9 : 0 ≤ n ∧ n ≤ 1200 * xi) (H : Heap) (locs : List Loc) (hP : va_P D vwCl (zest cs o A T S0 S1 S2 S3 xm f xl g xk xn xd xe ++ (zmod cs q A S V xm xth xam f xl xpl gr ++ [(ou, .inl (cs 2, 1, .inr (.inl (zAL gu))))])) H) (hD : va_D (fun z => s.heap.size ≤ z) (zest cs o A T S0 S1 S2 S3 xm f xl g xk xn xd xe ++ (zmod cs q A S V xm xth xam f xl xpl gr ++ [(ou, .inl (cs 2, 1, .inr (.inl (zAL gu))))]))) (hS : va_S (fun z => s.heap.size ≤ z) s.heap H locs) (ls : Array Slot) (hl : lv_has ls 9 [(4, .int (zI xi)), (3, .ref ou), (2, .ref (q 0)), (1, .ref (o 0 0)), (0, .ref b)]) (kk : ∀ (o : Nat → Nat → Nat) (q : Nat → Nat) (n : Int) (A T S0 S1 S2 S3 S V : Int → Int) (xm : Int) (f : Int → Int) (xl : Int) (g : Int → Int) (xk xn xd xe xth xam xpl : Int) (gr gu : Int → Int), zInL n A S0 S1 S2 S3 S xm f xl → (0 ≤ n ∧ n ≤ 1200 * (xi + 5)) → ∀ (H : Heap) (locs : List Loc), va_P D vwCl (zest cs o A T S0 S1 S2 S3 xm f xl g xk xn xd xe ++ (zmod cs q A S V xm xth xam f xl xpl gr ++ [(ou, .inl (cs 2, 1, .inr (.inl (zAL gu))))])) H → va_D (fun z => s.heap.size ≤ z) (zest cs o A T S0 S1 S2 S3 xm f xl g xk xn xd xe ++ (zmod cs q A S V xm xth xam f xl xpl gr ++ [(ou, .inl (cs 2, 1, .inr (.inl (zAL gu))))])) → va_S (fun z => s.heap.size ≤ z) s.heap H locs → ∀ ls : Array Slot, lv_has ls 9 [(4, .int (zI xi)), (3, .ref ou), (2, .ref (q 0)), (1, .ref (o 0 0)), (0, .ref b)] → W p l e room_1 s m #[Value.ref b] below meth c H locs (cells + 1) (slots + 6) Q (F0 m 1683 ls [])) : W p l e room_1 s m #[Value.ref b] below meth c H locs cells slots Q (F0 m 160 ls []) := by
  have hcl1 := hcl.1
  have hcl2 := hcl.2
  have hA : ∀ z : Nat, s.heap.size ≤ z → s.heap.size ≤ z := fun _ h => h
  have hbA : ¬ (s.heap.size ≤ b) := Nat.not_le.mpr hbl
  have hr1 := zX_r xs (xi + 1)
  have hr2 := zX_r xs (xi + 2)
  by_cases hc9 : (100 ≤ (zX xs (xi + 1)) ∧ (zX xs (xi + 1)) ≤ 20000) ∧ -1 ≤ (zX xs (xi + 2)) ∧ (zX xs (xi + 2)) ≤ 10000
  · refine lv_aload_n hx hb dL_law_160 rfl (lv_at hl 3 rfl) ?_
    refine lv_aload_n hx hb dL_law_161 rfl (lv_at hl 4 rfl) ?_
    refine lv_iload hx hb dL_law_162 (lv_at hl 0 rfl) ?_
    refine zr_iconst hx hb dL_law_164 ?_
    refine zr_iadd hx hb dL_law_165 ?_
    refine zr_sls hx hb hXs hbl hbA hS hL (by omega) dL_law_166 ?_
    refine lv_aload_n hx hb dL_law_167 rfl (lv_at hl 4 rfl) ?_
    refine lv_iload hx hb dL_law_168 (lv_at hl 0 rfl) ?_
    refine zr_iconst hx hb dL_law_170 ?_
    refine zr_iadd hx hb dL_law_171 ?_
    refine zr_sls hx hb hXs hbl hbA hS hL (by omega) dL_law_172 ?_
    refine lv_aload_n hx hb dL_law_173 rfl (lv_at hl 1 rfl) ?_
    refine zc_xi (w := [((o 0) 0, .inr (5, [.ref ((o 1) 0), .ref ((o 2) 0), .ref ((o 3) 0), .ref ((o 8) 0)]))] ++ (zbat cs (o 1) A ++ ([((o 3) 0, .inr (3, [.ref ((o 3) 1), .int (zI xm)])), ((o 3) 1, .inl (cs 3, 4, .inr (.inr (.inr (.inr (zR ((o 4) 0) ((o 5) 0) ((o 6) 0) ((o 7) 0)))))))] ++ (zbat cs (o 4) S0 ++ (zbat cs (o 5) S1 ++ (zbat cs (o 6) S2 ++ (zbat cs (o 7) S3 ++ [(ou, .inl (cs 2, 1, .inr (.inl (zAL gu))))]))))))) (wr := zbat cs (o 2) T ++ (ztxt cs (o 8) f xl g xk xn xd xe ++ (zmod cs q A S V xm xth xam f xl xpl gr))) (vx_runSX (As := [.ref (o 0 0), .int (zI (zX xs (xi + 1))), .int (zI (zX xs (xi + 2))), .ref ou]) (rest := []) ⟨hx, hb, hml, hown, hts⟩ (met_L_begin_ok l D cs o ou gu H.size A S0 S1 S2 S3 xm n (zX xs (xi + 1)) (zX xs (xi + 2)) (by exact hI9.1) (by omega) (by exact hI9.2.1) (zX_r xs _) (zX_r xs _) hc9) (vx_cwSW 4 hts gL_law_L_begin rfl rfl rfl (by decide +kernel) ⟨(Nat.le_of_ble_eq_true rfl), (Nat.le_of_ble_eq_true rfl)⟩) ⟨zPreZ.blind, fun U hU hW => zp_Z (hP.sub (ws' := [((o 0) 0, .inr (5, [.ref ((o 1) 0), .ref ((o 2) 0), .ref ((o 3) 0), .ref ((o 8) 0)]))] ++ (zbat cs (o 1) A ++ ([((o 3) 0, .inr (3, [.ref ((o 3) 1), .int (zI xm)])), ((o 3) 1, .inl (cs 3, 4, .inr (.inr (.inr (.inr (zR ((o 4) 0) ((o 5) 0) ((o 6) 0) ((o 7) 0)))))))] ++ (zbat cs (o 4) S0 ++ (zbat cs (o 5) S1 ++ (zbat cs (o 6) S2 ++ (zbat cs (o 7) S3 ++ [(ou, .inl (cs 2, 1, .inr (.inl (zAL gu))))]))))))) [0, 1, 2, 3, 4, 5, 6, 7, 15, 16, 17, 18, 19, 20, 21, 22, 23, 24, 25, 26, 27, 28, 29, 30, 31, 32, 33, 34, 35, 36, 37, 38, 39, 40, 41, 42, 43, 44, 54] rfl) hK (hD.sub (ws' := [((o 0) 0, .inr (5, [.ref ((o 1) 0), .ref ((o 2) 0), .ref ((o 3) 0), .ref ((o 8) 0)]))] ++ (zbat cs (o 1) A ++ ([((o 3) 0, .inr (3, [.ref ((o 3) 1), .int (zI xm)])), ((o 3) 1, .inl (cs 3, 4, .inr (.inr (.inr (.inr (zR ((o 4) 0) ((o 5) 0) ((o 6) 0) ((o 7) 0)))))))] ++ (zbat cs (o 4) S0 ++ (zbat cs (o 5) S1 ++ (zbat cs (o 6) S2 ++ (zbat cs (o 7) S3 ++ [(ou, .inl (cs 2, 1, .inr (.inl (zAL gu))))]))))))) [0, 1, 2, 3, 4, 5, 6, 7, 15, 16, 17, 18, 19, 20, 21, 22, 23, 24, 25, 26, 27, 28, 29, 30, 31, 32, 33, 34, 35, 36, 37, 38, 39, 40, 41, 42, 43, 44, 54] (by decide) rfl) hN hU hW⟩ rfl rfl hl.1 rfl (lv_room (Nat.le_of_ble_eq_true rfl)) dL_law_174 ⟨by show cells + 0 ≤ 601024; omega, by show slots + 0 ≤ 7293034; omega⟩) hS hP hD hA [0, 1, 2, 3, 4, 5, 6, 7, 15, 16, 17, 18, 19, 20, 21, 22, 23, 24, 25, 26, 27, 28, 29, 30, 31, 32, 33, 34, 35, 36, 37, 38, 39, 40, 41, 42, 43, 44, 54] [8, 9, 10, 11, 12, 13, 14, 45, 46, 47, 48, 49, 50, 51, 52, 53] rfl rfl (by decide) (by decide) (fun H locs hP hD hS => ?_)
    have hP : va_P D vwCl (zest cs (zo5 xm o) (zBeg A (zX xs (xi + 1)) (zX xs (xi + 2))) T (zs4 xm 0 A S0 S1) (zs4 xm 1 A S1 S2) (zs4 xm 2 A S2 S3) (zs4 xm 3 A S3 A) (zm4 xm) f xl g xk xn xd xe ++ (zmod cs q A S V xm xth xam f xl xpl gr ++ [(ou, .inl (cs 2, 1, .inr (.inl (zAL (zU gu 0 (zW (A 52)))))))])) H := zP_perm hP zPe_H
    have hD : va_D (fun z => s.heap.size ≤ z) (zest cs (zo5 xm o) (zBeg A (zX xs (xi + 1)) (zX xs (xi + 2))) T (zs4 xm 0 A S0 S1) (zs4 xm 1 A S1 S2) (zs4 xm 2 A S2 S3) (zs4 xm 3 A S3 A) (zm4 xm) f xl g xk xn xd xe ++ (zmod cs q A S V xm xth xam f xl xpl gr ++ [(ou, .inl (cs 2, 1, .inr (.inl (zAL (zU gu 0 (zW (A 52)))))))])) := zD_perm hD zPe_H
    refine lv_istore (lv' := [(5, .int (zI 0)), (4, .int (zI xi)), (3, .ref ou), (2, .ref (q 0)), (1, .ref (o 0 0)), (0, .ref b)]) hx hb dL_law_177 hl (by decide) rfl (fun ls hl => ?_)
    refine lv_aload_n hx hb dL_law_179 rfl (lv_at hl 3 rfl) ?_
    refine lv_aload_n hx hb dL_law_180 rfl (lv_at hl 5 rfl) ?_
    refine lv_iload hx hb dL_law_181 (lv_at hl 1 rfl) ?_
    refine zr_iconst hx hb dL_law_183 ?_
    refine zr_iadd hx hb dL_law_184 ?_
    refine zr_sls hx hb hXs hbl hbA hS hL (by omega) dL_law_185 ?_
    refine lv_aload_n hx hb dL_law_186 rfl (lv_at hl 5 rfl) ?_
    refine lv_iload hx hb dL_law_187 (lv_at hl 1 rfl) ?_
    refine zr_iconst hx hb dL_law_189 ?_
    refine zr_iadd hx hb dL_law_190 ?_
    refine zr_sls hx hb hXs hbl hbA hS hL (by omega) dL_law_191 ?_
    refine zc_ij (w := zmod cs q A S V xm xth xam f xl xpl gr) (wr := zest cs (zo5 xm o) (zBeg A (zX xs (xi + 1)) (zX xs (xi + 2))) T (zs4 xm 0 A S0 S1) (zs4 xm 1 A S1 S2) (zs4 xm 2 A S2 S3) (zs4 xm 3 A S3 A) (zm4 xm) f xl g xk xn xd xe ++ [(ou, .inl (cs 2, 1, .inr (.inl (zAL (zU gu 0 (zW (A 52)))))))]) (va_runV (As := [.int (zI (zX xs (xi + 1))), .int (zI (zX xs (xi + 2)))]) (rest := []) ⟨hx, hb, hml, hown, hts⟩ (met_X6_begin_ok l D cs q H.size A S V xm xth xam f xl xpl gr (zX xs (xi + 1)) (zX xs (xi + 2)) (by exact hI9.2.1) (zX_r xs _) (zX_r xs _) hc9) (cwV 2 hts gL_law_X6_begin rfl rfl rfl (by decide +kernel) ⟨(Nat.le_of_ble_eq_true rfl), (Nat.le_of_ble_eq_true rfl)⟩) ⟨zPreZ.blind, va_recv hK hP (ci := 6) (q0 := 48) rfl rfl, fun U hU hW => zp_Z (hP.sub (ws' := zmod cs q A S V xm xth xam f xl xpl gr) [48, 49, 50, 51, 52, 53] rfl) hK (hD.sub (ws' := zmod cs q A S V xm xth xam f xl xpl gr) [48, 49, 50, 51, 52, 53] (by decide) rfl) hN hU hW⟩ rfl rfl hl.1 rfl (lv_room (Nat.le_of_ble_eq_true rfl)) dL_law_192 ⟨by show cells + 0 + 0 ≤ 601024; omega, by show slots + 0 + 0 ≤ 7293034; omega⟩) hS hP hD hA [48, 49, 50, 51, 52, 53] [0, 1, 2, 3, 4, 5, 6, 7, 8, 9, 10, 11, 12, 13, 14, 15, 16, 17, 18, 19, 20, 21, 22, 23, 24, 25, 26, 27, 28, 29, 30, 31, 32, 33, 34, 35, 36, 37, 38, 39, 40, 41, 42, 43, 44, 45, 46, 47, 54] rfl rfl (by decide) (by decide) (fun H locs hP hD hS => ?_)
    have hP : va_P D vwCl (zest cs (zo5 xm o) (zBeg A (zX xs (xi + 1)) (zX xs (xi + 2))) T (zs4 xm 0 A S0 S1) (zs4 xm 1 A S1 S2) (zs4 xm 2 A S2 S3) (zs4 xm 3 A S3 A) (zm4 xm) f xl g xk xn xd xe ++ (zmod cs q (zBeg A (zX xs (xi + 1)) (zX xs (xi + 2))) (zSvF S A xm) V (zm4 xm) 0 xam f xl xpl gr ++ [(ou, .inl (cs 2, 1, .inr (.inl (zAL (zU gu 0 (zW (A 52)))))))])) H := zP_perm hP zPe_m
    have hD : va_D (fun z => s.heap.size ≤ z) (zest cs (zo5 xm o) (zBeg A (zX xs (xi + 1)) (zX xs (xi + 2))) T (zs4 xm 0 A S0 S1) (zs4 xm 1 A S1 S2) (zs4 xm 2 A S2 S3) (zs4 xm 3 A S3 A) (zm4 xm) f xl g xk xn xd xe ++ (zmod cs q (zBeg A (zX xs (xi + 1)) (zX xs (xi + 2))) (zSvF S A xm) V (zm4 xm) 0 xam f xl xpl gr ++ [(ou, .inl (cs 2, 1, .inr (.inl (zAL (zU gu 0 (zW (A 52)))))))])) := zD_perm hD zPe_m
    refine lv_istore (lv' := [(6, .int (zI (A 52))), (5, .int (zI 0)), (4, .int (zI xi)), (3, .ref ou), (2, .ref (q 0)), (1, .ref (o 0 0)), (0, .ref b)]) hx hb dL_law_195 hl (by decide) rfl (fun ls hl => ?_)
    refine lv_aload_n hx hb dL_law_197 rfl (lv_at hl 4 rfl) ?_
    refine zc_ri (va_runV (As := []) (rest := []) ⟨hx, hb, hml, hown, hts⟩ (met_X6_thrown l D cs q (zBeg A (zX xs (xi + 1)) (zX xs (xi + 2))) (zSvF S A xm) V (zm4 xm) 0 xam f xl xpl gr) (cwV 0 hts gL_law_X6_thrown rfl rfl rfl (by decide +kernel) ⟨(Nat.le_of_ble_eq_true rfl), (Nat.le_of_ble_eq_true rfl)⟩) ⟨zPre.blind, va_recv hK hP (ci := 6) (q0 := 48) rfl rfl, fun U hU hW => zp_R (hP.sub (ws' := zmod cs q (zBeg A (zX xs (xi + 1)) (zX xs (xi + 2))) (zSvF S A xm) V (zm4 xm) 0 xam f xl xpl gr) [48, 49, 50, 51, 52, 53] rfl) hK (hD.sub (ws' := zmod cs q (zBeg A (zX xs (xi + 1)) (zX xs (xi + 2))) (zSvF S A xm) V (zm4 xm) 0 xam f xl xpl gr) [48, 49, 50, 51, 52, 53] (by decide) rfl) hN hU hW⟩ rfl rfl hl.1 rfl (lv_room (Nat.le_of_ble_eq_true rfl)) dL_law_198 ⟨by show cells + 0 + 0 + 0 ≤ 601024; omega, by show slots + 0 + 0 + 0 ≤ 7293034; omega⟩) ?_
    refine lv_iload hx hb dL_law_201 (lv_at hl 1 rfl) ?_
    refine zr_iceq (tgt := 208) hx hb dL_law_203 (by decide) ?_
    refine lv_iload hx hb dL_law_208 (lv_at hl 1 rfl) ?_
    refine zr_if_ne (tgt := 225) hx hb dL_law_210 (by decide) (by decide) (fun h9 => absurd h9 (by decide)) (fun _ => ?_)
    refine lv_aload_n hx hb dL_law_213 rfl (lv_at hl 3 rfl) ?_
    refine zr_iconst hx hb dL_law_214 ?_
    refine zr_lald (D := D) (g := zU gu 0 (zW (A 52))) hx hb hK hP 54 2 rfl rfl (by decide) (by decide) dL_law_215 ?_
    rw [show (zU gu 0 (zW (A 52))) 0 = zW (A 52) from rfl]
    refine lv_iload hx hb dL_law_216 (lv_at hl 0 rfl) ?_
    refine lv_i2l hx hb dL_law_218 (zW_l (A 52)) ?_
    refine zr_lceq (tgt := 225) hx hb dL_law_219 dL_law_220 (by decide) ?_
    refine lv_goto (tgt := 1683) hx hb dL_law_225 (by decide) ?_
    refine W.widen (k := cells + 1) (n := slots + 6) (by show cells + 0 + 0 ≤ cells + 1; omega) (by show slots + 0 + 0 ≤ slots + 6; omega) ?_
    exact kk (zo5 xm o) q n (zBeg A (zX xs (xi + 1)) (zX xs (xi + 2))) T (zs4 xm 0 A S0 S1) (zs4 xm 1 A S1 S2) (zs4 xm 2 A S2 S3) (zs4 xm 3 A S3 A) (zSvF S A xm) V (zm4 xm) f xl g xk xn xd xe 0 xam xpl gr (zU gu 0 (zW (A 52))) (by exact hI9.save (Int.le_refl n) (zOK_beg hI9.1 hn9.1 hc9.1 hc9.2)) (by omega) H locs hP hD hS ls (lv_sub hl [2, 3, 4, 5, 6] rfl)
  replace hc9 := hc9
  refine lv_aload_n hx hb dL_law_160 rfl (lv_at hl 3 rfl) ?_
  refine lv_aload_n hx hb dL_law_161 rfl (lv_at hl 4 rfl) ?_
  refine lv_iload hx hb dL_law_162 (lv_at hl 0 rfl) ?_
  refine zr_iconst hx hb dL_law_164 ?_
  refine zr_iadd hx hb dL_law_165 ?_
  refine zr_sls hx hb hXs hbl hbA hS hL (by omega) dL_law_166 ?_
  refine lv_aload_n hx hb dL_law_167 rfl (lv_at hl 4 rfl) ?_
  refine lv_iload hx hb dL_law_168 (lv_at hl 0 rfl) ?_
  refine zr_iconst hx hb dL_law_170 ?_
  refine zr_iadd hx hb dL_law_171 ?_
  refine zr_sls hx hb hXs hbl hbA hS hL (by omega) dL_law_172 ?_
  refine lv_aload_n hx hb dL_law_173 rfl (lv_at hl 1 rfl) ?_
  refine zc_xk (vx_runSX (As := [.ref (o 0 0), .int (zI (zX xs (xi + 1))), .int (zI (zX xs (xi + 2))), .ref ou]) (rest := []) ⟨hx, hb, hml, hown, hts⟩ (met_L_begin_x l hfl D cs o ou gu A S0 S1 S2 S3 xm (zX xs (xi + 1)) (zX xs (xi + 2)) (zX_r xs _) (zX_r xs _) hc9) (vx_cwSW 4 hts gL_law_L_begin rfl rfl rfl (by decide +kernel) ⟨(Nat.le_of_ble_eq_true rfl), (Nat.le_of_ble_eq_true rfl)⟩) ⟨zPreU.blind, fun U hU hW => zp_U (hP.sub (ws' := [((o 0) 0, .inr (5, [.ref ((o 1) 0), .ref ((o 2) 0), .ref ((o 3) 0), .ref ((o 8) 0)]))] ++ (zbat cs (o 1) A ++ ([((o 3) 0, .inr (3, [.ref ((o 3) 1), .int (zI xm)])), ((o 3) 1, .inl (cs 3, 4, .inr (.inr (.inr (.inr (zR ((o 4) 0) ((o 5) 0) ((o 6) 0) ((o 7) 0)))))))] ++ (zbat cs (o 4) S0 ++ (zbat cs (o 5) S1 ++ (zbat cs (o 6) S2 ++ (zbat cs (o 7) S3 ++ [(ou, .inl (cs 2, 1, .inr (.inl (zAL gu))))]))))))) [0, 1, 2, 3, 4, 5, 6, 7, 15, 16, 17, 18, 19, 20, 21, 22, 23, 24, 25, 26, 27, 28, 29, 30, 31, 32, 33, 34, 35, 36, 37, 38, 39, 40, 41, 42, 43, 44, 54] rfl) hK (hD.sub (ws' := [((o 0) 0, .inr (5, [.ref ((o 1) 0), .ref ((o 2) 0), .ref ((o 3) 0), .ref ((o 8) 0)]))] ++ (zbat cs (o 1) A ++ ([((o 3) 0, .inr (3, [.ref ((o 3) 1), .int (zI xm)])), ((o 3) 1, .inl (cs 3, 4, .inr (.inr (.inr (.inr (zR ((o 4) 0) ((o 5) 0) ((o 6) 0) ((o 7) 0)))))))] ++ (zbat cs (o 4) S0 ++ (zbat cs (o 5) S1 ++ (zbat cs (o 6) S2 ++ (zbat cs (o 7) S3 ++ [(ou, .inl (cs 2, 1, .inr (.inl (zAL gu))))]))))))) [0, 1, 2, 3, 4, 5, 6, 7, 15, 16, 17, 18, 19, 20, 21, 22, 23, 24, 25, 26, 27, 28, 29, 30, 31, 32, 33, 34, 35, 36, 37, 38, 39, 40, 41, 42, 43, 44, 54] (by decide) rfl) hN (hG.at hS) hC hU hW⟩ rfl rfl hl.1 rfl (lv_room (Nat.le_of_ble_eq_true rfl)) dL_law_174 ⟨by show cells + 1 ≤ 601024; omega, by show slots + 6 ≤ 7293034; omega⟩) hS hP (fun H locs hP hS => ?_)
  refine lv_istore (lv' := [(5, .int (zI 1)), (4, .int (zI xi)), (3, .ref ou), (2, .ref (q 0)), (1, .ref (o 0 0)), (0, .ref b)]) hx hb dL_law_177 hl (by decide) rfl (fun ls hl => ?_)
  refine lv_aload_n hx hb dL_law_179 rfl (lv_at hl 3 rfl) ?_
  refine lv_aload_n hx hb dL_law_180 rfl (lv_at hl 5 rfl) ?_
  refine lv_iload hx hb dL_law_181 (lv_at hl 1 rfl) ?_
  refine zr_iconst hx hb dL_law_183 ?_
  refine zr_iadd hx hb dL_law_184 ?_
  refine zr_sls hx hb hXs hbl hbA hS hL (by omega) dL_law_185 ?_
  refine lv_aload_n hx hb dL_law_186 rfl (lv_at hl 5 rfl) ?_
  refine lv_iload hx hb dL_law_187 (lv_at hl 1 rfl) ?_
  refine zr_iconst hx hb dL_law_189 ?_
  refine zr_iadd hx hb dL_law_190 ?_
  refine zr_sls hx hb hXs hbl hbA hS hL (by omega) dL_law_191 ?_
  refine zc_ij (w := zmod cs q A S V xm xth xam f xl xpl gr) (wr := zest cs o A T S0 S1 S2 S3 xm f xl g xk xn xd xe ++ [(ou, .inl (cs 2, 1, .inr (.inl (zAL gu))))]) (va_runV (As := [.int (zI (zX xs (xi + 1))), .int (zI (zX xs (xi + 2)))]) (rest := []) ⟨hx, hb, hml, hown, hts⟩ (met_X6_begin_no1 l D cs q H.size A S V xm xth xam f xl xpl gr (zX xs (xi + 1)) (zX xs (xi + 2)) (zX_r xs _) (zX_r xs _) hc9) (cwV 2 hts gL_law_X6_begin rfl rfl rfl (by decide +kernel) ⟨(Nat.le_of_ble_eq_true rfl), (Nat.le_of_ble_eq_true rfl)⟩) ⟨zPreZ.blind, va_recv hK hP (ci := 6) (q0 := 48) rfl rfl, fun U hU hW => zp_Z (hP.sub (ws' := zmod cs q A S V xm xth xam f xl xpl gr) [48, 49, 50, 51, 52, 53] rfl) hK (hD.sub (ws' := zmod cs q A S V xm xth xam f xl xpl gr) [48, 49, 50, 51, 52, 53] (by decide) rfl) hN hU hW⟩ rfl rfl hl.1 rfl (lv_room (Nat.le_of_ble_eq_true rfl)) dL_law_192 ⟨by show cells + 1 + 0 ≤ 601024; omega, by show slots + 6 + 0 ≤ 7293034; omega⟩) hS hP hD hA [48, 49, 50, 51, 52, 53] [0, 1, 2, 3, 4, 5, 6, 7, 8, 9, 10, 11, 12, 13, 14, 15, 16, 17, 18, 19, 20, 21, 22, 23, 24, 25, 26, 27, 28, 29, 30, 31, 32, 33, 34, 35, 36, 37, 38, 39, 40, 41, 42, 43, 44, 45, 46, 47, 54] rfl rfl (by decide) (by decide) (fun H locs hP hD hS => ?_)
  have hP : va_P D vwCl (zest cs o A T S0 S1 S2 S3 xm f xl g xk xn xd xe ++ (zmod cs q A S V xm 1 xam f xl xpl gr ++ [(ou, .inl (cs 2, 1, .inr (.inl (zAL gu))))])) H := zP_perm hP zPe_m
  have hD : va_D (fun z => s.heap.size ≤ z) (zest cs o A T S0 S1 S2 S3 xm f xl g xk xn xd xe ++ (zmod cs q A S V xm 1 xam f xl xpl gr ++ [(ou, .inl (cs 2, 1, .inr (.inl (zAL gu))))])) := zD_perm hD zPe_m
  refine lv_istore (lv' := [(6, .int (zI 0)), (5, .int (zI 1)), (4, .int (zI xi)), (3, .ref ou), (2, .ref (q 0)), (1, .ref (o 0 0)), (0, .ref b)]) hx hb dL_law_195 hl (by decide) rfl (fun ls hl => ?_)
  refine lv_aload_n hx hb dL_law_197 rfl (lv_at hl 4 rfl) ?_
  refine zc_ri (va_runV (As := []) (rest := []) ⟨hx, hb, hml, hown, hts⟩ (met_X6_thrown l D cs q A S V xm 1 xam f xl xpl gr) (cwV 0 hts gL_law_X6_thrown rfl rfl rfl (by decide +kernel) ⟨(Nat.le_of_ble_eq_true rfl), (Nat.le_of_ble_eq_true rfl)⟩) ⟨zPre.blind, va_recv hK hP (ci := 6) (q0 := 48) rfl rfl, fun U hU hW => zp_R (hP.sub (ws' := zmod cs q A S V xm 1 xam f xl xpl gr) [48, 49, 50, 51, 52, 53] rfl) hK (hD.sub (ws' := zmod cs q A S V xm 1 xam f xl xpl gr) [48, 49, 50, 51, 52, 53] (by decide) rfl) hN hU hW⟩ rfl rfl hl.1 rfl (lv_room (Nat.le_of_ble_eq_true rfl)) dL_law_198 ⟨by show cells + 1 + 0 + 0 ≤ 601024; omega, by show slots + 6 + 0 + 0 ≤ 7293034; omega⟩) ?_
  refine lv_iload hx hb dL_law_201 (lv_at hl 1 rfl) ?_
  refine zr_iceq (tgt := 208) hx hb dL_law_203 (by decide) ?_
  refine lv_iload hx hb dL_law_208 (lv_at hl 1 rfl) ?_
  refine zr_if_ne (tgt := 225) hx hb dL_law_210 (by decide) (by decide) (fun _ => ?_) (fun h9 => absurd h9 (by decide))
  refine lv_goto (tgt := 1683) hx hb dL_law_225 (by decide) ?_
  refine W.widen (k := cells + 1) (n := slots + 6) (by show cells + 1 + 0 ≤ cells + 1; omega) (by show slots + 6 + 0 ≤ slots + 6; omega) ?_
  exact kk o q n A T S0 S1 S2 S3 S V xm f xl g xk xn xd xe 1 xam xpl gr gu (by exact hI9) (by omega) H locs hP hD hS ls (lv_sub hl [2, 3, 4, 5, 6] rfl)
/-! the law: set -/
set_option maxHeartbeats 8000000 in
set_option maxRecDepth 100000 in
theorem law_set {p : Program} {e : Env} {s : State} {m : MethodId} {below : List Frame} {meth : Method} {c : Code} {b L : Nat} {xs : Nat → Int32} {Q : State → Prop} (l : Launch) (hfl : l.stackTraces = false) (D : va_G) (cs : Nat → ClassId) (hx : p.tables.exec = Jvm.exec) (hb : c.code = cL_law) (hml : c.maxLocals = 9) (hown : s.vm.findClass RL = some m.cls) (hts : ∀ w ∈ wsL_law, w.before #[Value.ref b] s = true) (hK : va_K D vwCl (zTy cs) s) (hN : zNW s) (hG : zXG s) (hC : zNcP s) (hO : va_AO RX1 s) (hL : L ≤ 2560) (hXs : va_X b L xs s s.heap) (hbl : b < s.heap.size) (xi : Int) (hxi : 0 ≤ xi ∧ xi + 5 ≤ L) (cells slots : Nat) (hcl : cells + 1 ≤ 601024 ∧ slots + 6 ≤ 7293034) (ou : Nat) (o : Nat → Nat → Nat) (q : Nat → Nat) (n : Int) (A T S0 S1 S2 S3 S V : Int → Int) (xm : Int) (f : Int → Int) (xl : Int) (g : Int → Int) (xk xn xd xe xth xam xpl : Int) (gr gu : Int → Int) (hI9 : zInL n A S0 S1 S2 S3 S xm f xl) (hn9 : 0 ≤ n ∧ n ≤ 1200 * xi) (H : Heap) (locs : List Loc) (hP : va_P D vwCl (zest cs o A T S0 S1 S2 S3 xm f xl g xk xn xd xe ++ (zmod cs q A S V xm xth xam f xl xpl gr ++ [(ou, .inl (cs 2, 1, .inr (.inl (zAL gu))))])) H) (hD : va_D (fun z => s.heap.size ≤ z) (zest cs o A T S0 S1 S2 S3 xm f xl g xk xn xd xe ++ (zmod cs q A S V xm xth xam f xl xpl gr ++ [(ou, .inl (cs 2, 1, .inr (.inl (zAL gu))))]))) (hS : va_S (fun z => s.heap.size ≤ z) s.heap H locs) (ls : Array Slot) (hl : lv_has ls 9 [(4, .int (zI xi)), (3, .ref ou), (2, .ref (q 0)), (1, .ref (o 0 0)), (0, .ref b)]) (kk : ∀ (o : Nat → Nat → Nat) (q : Nat → Nat) (n : Int) (A T S0 S1 S2 S3 S V : Int → Int) (xm : Int) (f : Int → Int) (xl : Int) (g : Int → Int) (xk xn xd xe xth xam xpl : Int) (gr gu : Int → Int), zInL n A S0 S1 S2 S3 S xm f xl → (0 ≤ n ∧ n ≤ 1200 * (xi + 5)) → ∀ (H : Heap) (locs : List Loc), va_P D vwCl (zest cs o A T S0 S1 S2 S3 xm f xl g xk xn xd xe ++ (zmod cs q A S V xm xth xam f xl xpl gr ++ [(ou, .inl (cs 2, 1, .inr (.inl (zAL gu))))])) H → va_D (fun z => s.heap.size ≤ z) (zest cs o A T S0 S1 S2 S3 xm f xl g xk xn xd xe ++ (zmod cs q A S V xm xth xam f xl xpl gr ++ [(ou, .inl (cs 2, 1, .inr (.inl (zAL gu))))])) → va_S (fun z => s.heap.size ≤ z) s.heap H locs → ∀ ls : Array Slot, lv_has ls 9 [(4, .int (zI xi)), (3, .ref ou), (2, .ref (q 0)), (1, .ref (o 0 0)), (0, .ref b)] → W p l e room_1 s m #[Value.ref b] below meth c H locs (cells + 1) (slots + 6) Q (F0 m 1683 ls [])) : W p l e room_1 s m #[Value.ref b] below meth c H locs cells slots Q (F0 m 228 ls []) := by
  have hcl1 := hcl.1
  have hcl2 := hcl.2
  have hA : ∀ z : Nat, s.heap.size ≤ z → s.heap.size ≤ z := fun _ h => h
  have hbA : ¬ (s.heap.size ≤ b) := Nat.not_le.mpr hbl
  have hr1 := zX_r xs (xi + 1)
  have hr2 := zX_r xs (xi + 2)
  by_cases hc9 : (0 ≤ (zX xs (xi + 1)) ∧ (zX xs (xi + 1)) ≤ 11) ∧ (zLoS (zX xs (xi + 1)) ≤ (zX xs (xi + 2)) ∧ (zX xs (xi + 2)) ≤ zHiS (zX xs (xi + 1)))
  · refine lv_aload_n hx hb dL_law_228 rfl (lv_at hl 3 rfl) ?_
    refine lv_aload_n hx hb dL_law_229 rfl (lv_at hl 4 rfl) ?_
    refine lv_iload hx hb dL_law_230 (lv_at hl 0 rfl) ?_
    refine zr_iconst hx hb dL_law_232 ?_
    refine zr_iadd hx hb dL_law_233 ?_
    refine zr_sls hx hb hXs hbl hbA hS hL (by omega) dL_law_234 ?_
    refine lv_aload_n hx hb dL_law_235 rfl (lv_at hl 4 rfl) ?_
    refine lv_iload hx hb dL_law_236 (lv_at hl 0 rfl) ?_
    refine zr_iconst hx hb dL_law_238 ?_
    refine zr_iadd hx hb dL_law_239 ?_
    refine zr_sls hx hb hXs hbl hbA hS hL (by omega) dL_law_240 ?_
    refine lv_aload_n hx hb dL_law_241 rfl (lv_at hl 1 rfl) ?_
    refine zc_xi (w := [((o 0) 0, .inr (5, [.ref ((o 1) 0), .ref ((o 2) 0), .ref ((o 3) 0), .ref ((o 8) 0)]))] ++ (zbat cs (o 1) A ++ ([((o 3) 0, .inr (3, [.ref ((o 3) 1), .int (zI xm)])), ((o 3) 1, .inl (cs 3, 4, .inr (.inr (.inr (.inr (zR ((o 4) 0) ((o 5) 0) ((o 6) 0) ((o 7) 0)))))))] ++ (zbat cs (o 4) S0 ++ (zbat cs (o 5) S1 ++ (zbat cs (o 6) S2 ++ (zbat cs (o 7) S3 ++ [(ou, .inl (cs 2, 1, .inr (.inl (zAL gu))))]))))))) (wr := zbat cs (o 2) T ++ (ztxt cs (o 8) f xl g xk xn xd xe ++ (zmod cs q A S V xm xth xam f xl xpl gr))) (vx_runSX (As := [.ref (o 0 0), .int (zI (zX xs (xi + 1))), .int (zI (zX xs (xi + 2))), .ref ou]) (rest := []) ⟨hx, hb, hml, hown, hts⟩ (met_L_set_ok l D cs o ou gu H.size A S0 S1 S2 S3 xm n (zX xs (xi + 1)) (zX xs (xi + 2)) (by exact hI9.1) (by omega) (by exact hI9.2.1) (zX_r xs _) (zX_r xs _) hc9) (vx_cwSW 4 hts gL_law_L_set rfl rfl rfl (by decide +kernel) ⟨(Nat.le_of_ble_eq_true rfl), (Nat.le_of_ble_eq_true rfl)⟩) ⟨zPreN.blind, fun U hU hW => zp_N (hP.sub (ws' := [((o 0) 0, .inr (5, [.ref ((o 1) 0), .ref ((o 2) 0), .ref ((o 3) 0), .ref ((o 8) 0)]))] ++ (zbat cs (o 1) A ++ ([((o 3) 0, .inr (3, [.ref ((o 3) 1), .int (zI xm)])), ((o 3) 1, .inl (cs 3, 4, .inr (.inr (.inr (.inr (zR ((o 4) 0) ((o 5) 0) ((o 6) 0) ((o 7) 0)))))))] ++ (zbat cs (o 4) S0 ++ (zbat cs (o 5) S1 ++ (zbat cs (o 6) S2 ++ (zbat cs (o 7) S3 ++ [(ou, .inl (cs 2, 1, .inr (.inl (zAL gu))))]))))))) [0, 1, 2, 3, 4, 5, 6, 7, 15, 16, 17, 18, 19, 20, 21, 22, 23, 24, 25, 26, 27, 28, 29, 30, 31, 32, 33, 34, 35, 36, 37, 38, 39, 40, 41, 42, 43, 44, 54] rfl) hK (hD.sub (ws' := [((o 0) 0, .inr (5, [.ref ((o 1) 0), .ref ((o 2) 0), .ref ((o 3) 0), .ref ((o 8) 0)]))] ++ (zbat cs (o 1) A ++ ([((o 3) 0, .inr (3, [.ref ((o 3) 1), .int (zI xm)])), ((o 3) 1, .inl (cs 3, 4, .inr (.inr (.inr (.inr (zR ((o 4) 0) ((o 5) 0) ((o 6) 0) ((o 7) 0)))))))] ++ (zbat cs (o 4) S0 ++ (zbat cs (o 5) S1 ++ (zbat cs (o 6) S2 ++ (zbat cs (o 7) S3 ++ [(ou, .inl (cs 2, 1, .inr (.inl (zAL gu))))]))))))) [0, 1, 2, 3, 4, 5, 6, 7, 15, 16, 17, 18, 19, 20, 21, 22, 23, 24, 25, 26, 27, 28, 29, 30, 31, 32, 33, 34, 35, 36, 37, 38, 39, 40, 41, 42, 43, 44, 54] (by decide) rfl) hN hG.2.2 hO hS (va_free (wc := [((o 0) 0, .inr (5, [.ref ((o 1) 0), .ref ((o 2) 0), .ref ((o 3) 0), .ref ((o 8) 0)]))] ++ (zbat cs (o 1) A ++ ([((o 3) 0, .inr (3, [.ref ((o 3) 1), .int (zI xm)])), ((o 3) 1, .inl (cs 3, 4, .inr (.inr (.inr (.inr (zR ((o 4) 0) ((o 5) 0) ((o 6) 0) ((o 7) 0)))))))] ++ (zbat cs (o 4) S0 ++ (zbat cs (o 5) S1 ++ (zbat cs (o 6) S2 ++ (zbat cs (o 7) S3 ++ [(ou, .inl (cs 2, 1, .inr (.inl (zAL gu))))]))))))) hD hS hA [0, 1, 2, 3, 4, 5, 6, 7, 15, 16, 17, 18, 19, 20, 21, 22, 23, 24, 25, 26, 27, 28, 29, 30, 31, 32, 33, 34, 35, 36, 37, 38, 39, 40, 41, 42, 43, 44, 54] rfl) hU hW⟩ rfl rfl hl.1 rfl (lv_room (Nat.le_of_ble_eq_true rfl)) dL_law_242 ⟨by show cells + 0 ≤ 601024; omega, by show slots + 0 ≤ 7293034; omega⟩) hS hP hD hA [0, 1, 2, 3, 4, 5, 6, 7, 15, 16, 17, 18, 19, 20, 21, 22, 23, 24, 25, 26, 27, 28, 29, 30, 31, 32, 33, 34, 35, 36, 37, 38, 39, 40, 41, 42, 43, 44, 54] [8, 9, 10, 11, 12, 13, 14, 45, 46, 47, 48, 49, 50, 51, 52, 53] rfl rfl (by decide) (by decide) (fun H locs hP hD hS => ?_)
    have hP : va_P D vwCl (zest cs (zo5 xm o) (zSet A (zX xs (xi + 1)) (zX xs (xi + 2))) T (zs4 xm 0 A S0 S1) (zs4 xm 1 A S1 S2) (zs4 xm 2 A S2 S3) (zs4 xm 3 A S3 A) (zm4 xm) f xl g xk xn xd xe ++ (zmod cs q A S V xm xth xam f xl xpl gr ++ [(ou, .inl (cs 2, 1, .inr (.inl (zAL (zU gu 0 (zW (A (zX xs (xi + 1)))))))))])) H := zP_perm hP zPe_H
    have hD : va_D (fun z => s.heap.size ≤ z) (zest cs (zo5 xm o) (zSet A (zX xs (xi + 1)) (zX xs (xi + 2))) T (zs4 xm 0 A S0 S1) (zs4 xm 1 A S1 S2) (zs4 xm 2 A S2 S3) (zs4 xm 3 A S3 A) (zm4 xm) f xl g xk xn xd xe ++ (zmod cs q A S V xm xth xam f xl xpl gr ++ [(ou, .inl (cs 2, 1, .inr (.inl (zAL (zU gu 0 (zW (A (zX xs (xi + 1)))))))))])) := zD_perm hD zPe_H
    refine lv_istore (lv' := [(5, .int (zI 0)), (4, .int (zI xi)), (3, .ref ou), (2, .ref (q 0)), (1, .ref (o 0 0)), (0, .ref b)]) hx hb dL_law_245 hl (by decide) rfl (fun ls hl => ?_)
    refine lv_aload_n hx hb dL_law_247 rfl (lv_at hl 3 rfl) ?_
    refine lv_aload_n hx hb dL_law_248 rfl (lv_at hl 5 rfl) ?_
    refine lv_iload hx hb dL_law_249 (lv_at hl 1 rfl) ?_
    refine zr_iconst hx hb dL_law_251 ?_
    refine zr_iadd hx hb dL_law_252 ?_
    refine zr_sls hx hb hXs hbl hbA hS hL (by omega) dL_law_253 ?_
    refine lv_aload_n hx hb dL_law_254 rfl (lv_at hl 5 rfl) ?_
    refine lv_iload hx hb dL_law_255 (lv_at hl 1 rfl) ?_
    refine zr_iconst hx hb dL_law_257 ?_
    refine zr_iadd hx hb dL_law_258 ?_
    refine zr_sls hx hb hXs hbl hbA hS hL (by omega) dL_law_259 ?_
    refine zc_ij (w := zmod cs q A S V xm xth xam f xl xpl gr) (wr := zest cs (zo5 xm o) (zSet A (zX xs (xi + 1)) (zX xs (xi + 2))) T (zs4 xm 0 A S0 S1) (zs4 xm 1 A S1 S2) (zs4 xm 2 A S2 S3) (zs4 xm 3 A S3 A) (zm4 xm) f xl g xk xn xd xe ++ [(ou, .inl (cs 2, 1, .inr (.inl (zAL (zU gu 0 (zW (A (zX xs (xi + 1)))))))))]) (va_runV (As := [.int (zI (zX xs (xi + 1))), .int (zI (zX xs (xi + 2)))]) (rest := []) ⟨hx, hb, hml, hown, hts⟩ (met_X6_set_ok l D cs q H.size A S V xm xth xam f xl xpl gr n (zX xs (xi + 1)) (zX xs (xi + 2)) (by exact hI9.1) (by omega) (by exact hI9.2.1) (zX_r xs _) (zX_r xs _) hc9) (cwV 2 hts gL_law_X6_set rfl rfl rfl (by decide +kernel) ⟨(Nat.le_of_ble_eq_true rfl), (Nat.le_of_ble_eq_true rfl)⟩) ⟨zPreZ.blind, va_recv hK hP (ci := 6) (q0 := 48) rfl rfl, fun U hU hW => zp_Z (hP.sub (ws' := zmod cs q A S V xm xth xam f xl xpl gr) [48, 49, 50, 51, 52, 53] rfl) hK (hD.sub (ws' := zmod cs q A S V xm xth xam f xl xpl gr) [48, 49, 50, 51, 52, 53] (by decide) rfl) hN hU hW⟩ rfl rfl hl.1 rfl (lv_room (Nat.le_of_ble_eq_true rfl)) dL_law_260 ⟨by show cells + 0 + 0 ≤ 601024; omega, by show slots + 0 + 0 ≤ 7293034; omega⟩) hS hP hD hA [48, 49, 50, 51, 52, 53] [0, 1, 2, 3, 4, 5, 6, 7, 8, 9, 10, 11, 12, 13, 14, 15, 16, 17, 18, 19, 20, 21, 22, 23, 24, 25, 26, 27, 28, 29, 30, 31, 32, 33, 34, 35, 36, 37, 38, 39, 40, 41, 42, 43, 44, 45, 46, 47, 54] rfl rfl (by decide) (by decide) (fun H locs hP hD hS => ?_)
    have hP : va_P D vwCl (zest cs (zo5 xm o) (zSet A (zX xs (xi + 1)) (zX xs (xi + 2))) T (zs4 xm 0 A S0 S1) (zs4 xm 1 A S1 S2) (zs4 xm 2 A S2 S3) (zs4 xm 3 A S3 A) (zm4 xm) f xl g xk xn xd xe ++ (zmod cs q (zSet A (zX xs (xi + 1)) (zX xs (xi + 2))) (zSvF S A xm) V (zm4 xm) 0 xam f xl xpl gr ++ [(ou, .inl (cs 2, 1, .inr (.inl (zAL (zU gu 0 (zW (A (zX xs (xi + 1)))))))))])) H := zP_perm hP zPe_m
    have hD : va_D (fun z => s.heap.size ≤ z) (zest cs (zo5 xm o) (zSet A (zX xs (xi + 1)) (zX xs (xi + 2))) T (zs4 xm 0 A S0 S1) (zs4 xm 1 A S1 S2) (zs4 xm 2 A S2 S3) (zs4 xm 3 A S3 A) (zm4 xm) f xl g xk xn xd xe ++ (zmod cs q (zSet A (zX xs (xi + 1)) (zX xs (xi + 2))) (zSvF S A xm) V (zm4 xm) 0 xam f xl xpl gr ++ [(ou, .inl (cs 2, 1, .inr (.inl (zAL (zU gu 0 (zW (A (zX xs (xi + 1)))))))))])) := zD_perm hD zPe_m
    refine lv_istore (lv' := [(6, .int (zI (A (zX xs (xi + 1))))), (5, .int (zI 0)), (4, .int (zI xi)), (3, .ref ou), (2, .ref (q 0)), (1, .ref (o 0 0)), (0, .ref b)]) hx hb dL_law_263 hl (by decide) rfl (fun ls hl => ?_)
    refine lv_aload_n hx hb dL_law_265 rfl (lv_at hl 4 rfl) ?_
    refine zc_ri (va_runV (As := []) (rest := []) ⟨hx, hb, hml, hown, hts⟩ (met_X6_thrown l D cs q (zSet A (zX xs (xi + 1)) (zX xs (xi + 2))) (zSvF S A xm) V (zm4 xm) 0 xam f xl xpl gr) (cwV 0 hts gL_law_X6_thrown rfl rfl rfl (by decide +kernel) ⟨(Nat.le_of_ble_eq_true rfl), (Nat.le_of_ble_eq_true rfl)⟩) ⟨zPre.blind, va_recv hK hP (ci := 6) (q0 := 48) rfl rfl, fun U hU hW => zp_R (hP.sub (ws' := zmod cs q (zSet A (zX xs (xi + 1)) (zX xs (xi + 2))) (zSvF S A xm) V (zm4 xm) 0 xam f xl xpl gr) [48, 49, 50, 51, 52, 53] rfl) hK (hD.sub (ws' := zmod cs q (zSet A (zX xs (xi + 1)) (zX xs (xi + 2))) (zSvF S A xm) V (zm4 xm) 0 xam f xl xpl gr) [48, 49, 50, 51, 52, 53] (by decide) rfl) hN hU hW⟩ rfl rfl hl.1 rfl (lv_room (Nat.le_of_ble_eq_true rfl)) dL_law_266 ⟨by show cells + 0 + 0 + 0 ≤ 601024; omega, by show slots + 0 + 0 + 0 ≤ 7293034; omega⟩) ?_
    refine lv_iload hx hb dL_law_269 (lv_at hl 1 rfl) ?_
    refine zr_iceq (tgt := 276) hx hb dL_law_271 (by decide) ?_
    refine lv_iload hx hb dL_law_276 (lv_at hl 1 rfl) ?_
    refine zr_if_ne (tgt := 293) hx hb dL_law_278 (by decide) (by decide) (fun h9 => absurd h9 (by decide)) (fun _ => ?_)
    refine lv_aload_n hx hb dL_law_281 rfl (lv_at hl 3 rfl) ?_
    refine zr_iconst hx hb dL_law_282 ?_
    refine zr_lald (D := D) (g := zU gu 0 (zW (A (zX xs (xi + 1))))) hx hb hK hP 54 2 rfl rfl (by decide) (by decide) dL_law_283 ?_
    rw [show (zU gu 0 (zW (A (zX xs (xi + 1))))) 0 = zW (A (zX xs (xi + 1))) from rfl]
    refine lv_iload hx hb dL_law_284 (lv_at hl 0 rfl) ?_
    refine lv_i2l hx hb dL_law_286 (zW_l (A (zX xs (xi + 1)))) ?_
    refine zr_lceq (tgt := 293) hx hb dL_law_287 dL_law_288 (by decide) ?_
    refine lv_goto (tgt := 1683) hx hb dL_law_293 (by decide) ?_
    refine W.widen (k := cells + 1) (n := slots + 6) (by show cells + 0 + 0 ≤ cells + 1; omega) (by show slots + 0 + 0 ≤ slots + 6; omega) ?_
    exact kk (zo5 xm o) q n (zSet A (zX xs (xi + 1)) (zX xs (xi + 2))) T (zs4 xm 0 A S0 S1) (zs4 xm 1 A S1 S2) (zs4 xm 2 A S2 S3) (zs4 xm 3 A S3 A) (zSvF S A xm) V (zm4 xm) f xl g xk xn xd xe 0 xam xpl gr (zU gu 0 (zW (A (zX xs (xi + 1))))) (by exact hI9.save (Int.le_refl n) (zOK_set hI9.1 hc9.1 hc9.2)) (by omega) H locs hP hD hS ls (lv_sub hl [2, 3, 4, 5, 6] rfl)
  replace hc9 := hc9
  refine lv_aload_n hx hb dL_law_228 rfl (lv_at hl 3 rfl) ?_
  refine lv_aload_n hx hb dL_law_229 rfl (lv_at hl 4 rfl) ?_
  refine lv_iload hx hb dL_law_230 (lv_at hl 0 rfl) ?_
  refine zr_iconst hx hb dL_law_232 ?_
  refine zr_iadd hx hb dL_law_233 ?_
  refine zr_sls hx hb hXs hbl hbA hS hL (by omega) dL_law_234 ?_
  refine lv_aload_n hx hb dL_law_235 rfl (lv_at hl 4 rfl) ?_
  refine lv_iload hx hb dL_law_236 (lv_at hl 0 rfl) ?_
  refine zr_iconst hx hb dL_law_238 ?_
  refine zr_iadd hx hb dL_law_239 ?_
  refine zr_sls hx hb hXs hbl hbA hS hL (by omega) dL_law_240 ?_
  refine lv_aload_n hx hb dL_law_241 rfl (lv_at hl 1 rfl) ?_
  refine zc_xk (vx_runSX (As := [.ref (o 0 0), .int (zI (zX xs (xi + 1))), .int (zI (zX xs (xi + 2))), .ref ou]) (rest := []) ⟨hx, hb, hml, hown, hts⟩ (met_L_set_x l hfl D cs o ou gu A S0 S1 S2 S3 xm (zX xs (xi + 1)) (zX xs (xi + 2)) (zX_r xs _) (zX_r xs _) hc9) (vx_cwSW 4 hts gL_law_L_set rfl rfl rfl (by decide +kernel) ⟨(Nat.le_of_ble_eq_true rfl), (Nat.le_of_ble_eq_true rfl)⟩) ⟨zPreU.blind, fun U hU hW => zp_U (hP.sub (ws' := [((o 0) 0, .inr (5, [.ref ((o 1) 0), .ref ((o 2) 0), .ref ((o 3) 0), .ref ((o 8) 0)]))] ++ (zbat cs (o 1) A ++ ([((o 3) 0, .inr (3, [.ref ((o 3) 1), .int (zI xm)])), ((o 3) 1, .inl (cs 3, 4, .inr (.inr (.inr (.inr (zR ((o 4) 0) ((o 5) 0) ((o 6) 0) ((o 7) 0)))))))] ++ (zbat cs (o 4) S0 ++ (zbat cs (o 5) S1 ++ (zbat cs (o 6) S2 ++ (zbat cs (o 7) S3 ++ [(ou, .inl (cs 2, 1, .inr (.inl (zAL gu))))]))))))) [0, 1, 2, 3, 4, 5, 6, 7, 15, 16, 17, 18, 19, 20, 21, 22, 23, 24, 25, 26, 27, 28, 29, 30, 31, 32, 33, 34, 35, 36, 37, 38, 39, 40, 41, 42, 43, 44, 54] rfl) hK (hD.sub (ws' := [((o 0) 0, .inr (5, [.ref ((o 1) 0), .ref ((o 2) 0), .ref ((o 3) 0), .ref ((o 8) 0)]))] ++ (zbat cs (o 1) A ++ ([((o 3) 0, .inr (3, [.ref ((o 3) 1), .int (zI xm)])), ((o 3) 1, .inl (cs 3, 4, .inr (.inr (.inr (.inr (zR ((o 4) 0) ((o 5) 0) ((o 6) 0) ((o 7) 0)))))))] ++ (zbat cs (o 4) S0 ++ (zbat cs (o 5) S1 ++ (zbat cs (o 6) S2 ++ (zbat cs (o 7) S3 ++ [(ou, .inl (cs 2, 1, .inr (.inl (zAL gu))))]))))))) [0, 1, 2, 3, 4, 5, 6, 7, 15, 16, 17, 18, 19, 20, 21, 22, 23, 24, 25, 26, 27, 28, 29, 30, 31, 32, 33, 34, 35, 36, 37, 38, 39, 40, 41, 42, 43, 44, 54] (by decide) rfl) hN (hG.at hS) hC hU hW⟩ rfl rfl hl.1 rfl (lv_room (Nat.le_of_ble_eq_true rfl)) dL_law_242 ⟨by show cells + 1 ≤ 601024; omega, by show slots + 6 ≤ 7293034; omega⟩) hS hP (fun H locs hP hS => ?_)
  refine lv_istore (lv' := [(5, .int (zI 1)), (4, .int (zI xi)), (3, .ref ou), (2, .ref (q 0)), (1, .ref (o 0 0)), (0, .ref b)]) hx hb dL_law_245 hl (by decide) rfl (fun ls hl => ?_)
  refine lv_aload_n hx hb dL_law_247 rfl (lv_at hl 3 rfl) ?_
  refine lv_aload_n hx hb dL_law_248 rfl (lv_at hl 5 rfl) ?_
  refine lv_iload hx hb dL_law_249 (lv_at hl 1 rfl) ?_
  refine zr_iconst hx hb dL_law_251 ?_
  refine zr_iadd hx hb dL_law_252 ?_
  refine zr_sls hx hb hXs hbl hbA hS hL (by omega) dL_law_253 ?_
  refine lv_aload_n hx hb dL_law_254 rfl (lv_at hl 5 rfl) ?_
  refine lv_iload hx hb dL_law_255 (lv_at hl 1 rfl) ?_
  refine zr_iconst hx hb dL_law_257 ?_
  refine zr_iadd hx hb dL_law_258 ?_
  refine zr_sls hx hb hXs hbl hbA hS hL (by omega) dL_law_259 ?_
  refine zc_ij (w := zmod cs q A S V xm xth xam f xl xpl gr) (wr := zest cs o A T S0 S1 S2 S3 xm f xl g xk xn xd xe ++ [(ou, .inl (cs 2, 1, .inr (.inl (zAL gu))))]) (va_runV (As := [.int (zI (zX xs (xi + 1))), .int (zI (zX xs (xi + 2)))]) (rest := []) ⟨hx, hb, hml, hown, hts⟩ (met_X6_set_no1 l D cs q H.size A S V xm xth xam f xl xpl gr n (zX xs (xi + 1)) (zX xs (xi + 2)) (by exact hI9.1) (by omega) (by exact hI9.2.1) (zX_r xs _) (zX_r xs _) hc9) (cwV 2 hts gL_law_X6_set rfl rfl rfl (by decide +kernel) ⟨(Nat.le_of_ble_eq_true rfl), (Nat.le_of_ble_eq_true rfl)⟩) ⟨zPreZ.blind, va_recv hK hP (ci := 6) (q0 := 48) rfl rfl, fun U hU hW => zp_Z (hP.sub (ws' := zmod cs q A S V xm xth xam f xl xpl gr) [48, 49, 50, 51, 52, 53] rfl) hK (hD.sub (ws' := zmod cs q A S V xm xth xam f xl xpl gr) [48, 49, 50, 51, 52, 53] (by decide) rfl) hN hU hW⟩ rfl rfl hl.1 rfl (lv_room (Nat.le_of_ble_eq_true rfl)) dL_law_260 ⟨by show cells + 1 + 0 ≤ 601024; omega, by show slots + 6 + 0 ≤ 7293034; omega⟩) hS hP hD hA [48, 49, 50, 51, 52, 53] [0, 1, 2, 3, 4, 5, 6, 7, 8, 9, 10, 11, 12, 13, 14, 15, 16, 17, 18, 19, 20, 21, 22, 23, 24, 25, 26, 27, 28, 29, 30, 31, 32, 33, 34, 35, 36, 37, 38, 39, 40, 41, 42, 43, 44, 45, 46, 47, 54] rfl rfl (by decide) (by decide) (fun H locs hP hD hS => ?_)
  have hP : va_P D vwCl (zest cs o A T S0 S1 S2 S3 xm f xl g xk xn xd xe ++ (zmod cs q A S V xm 1 xam f xl xpl gr ++ [(ou, .inl (cs 2, 1, .inr (.inl (zAL gu))))])) H := zP_perm hP zPe_m
  have hD : va_D (fun z => s.heap.size ≤ z) (zest cs o A T S0 S1 S2 S3 xm f xl g xk xn xd xe ++ (zmod cs q A S V xm 1 xam f xl xpl gr ++ [(ou, .inl (cs 2, 1, .inr (.inl (zAL gu))))])) := zD_perm hD zPe_m
  refine lv_istore (lv' := [(6, .int (zI 0)), (5, .int (zI 1)), (4, .int (zI xi)), (3, .ref ou), (2, .ref (q 0)), (1, .ref (o 0 0)), (0, .ref b)]) hx hb dL_law_263 hl (by decide) rfl (fun ls hl => ?_)
  refine lv_aload_n hx hb dL_law_265 rfl (lv_at hl 4 rfl) ?_
  refine zc_ri (va_runV (As := []) (rest := []) ⟨hx, hb, hml, hown, hts⟩ (met_X6_thrown l D cs q A S V xm 1 xam f xl xpl gr) (cwV 0 hts gL_law_X6_thrown rfl rfl rfl (by decide +kernel) ⟨(Nat.le_of_ble_eq_true rfl), (Nat.le_of_ble_eq_true rfl)⟩) ⟨zPre.blind, va_recv hK hP (ci := 6) (q0 := 48) rfl rfl, fun U hU hW => zp_R (hP.sub (ws' := zmod cs q A S V xm 1 xam f xl xpl gr) [48, 49, 50, 51, 52, 53] rfl) hK (hD.sub (ws' := zmod cs q A S V xm 1 xam f xl xpl gr) [48, 49, 50, 51, 52, 53] (by decide) rfl) hN hU hW⟩ rfl rfl hl.1 rfl (lv_room (Nat.le_of_ble_eq_true rfl)) dL_law_266 ⟨by show cells + 1 + 0 + 0 ≤ 601024; omega, by show slots + 6 + 0 + 0 ≤ 7293034; omega⟩) ?_
  refine lv_iload hx hb dL_law_269 (lv_at hl 1 rfl) ?_
  refine zr_iceq (tgt := 276) hx hb dL_law_271 (by decide) ?_
  refine lv_iload hx hb dL_law_276 (lv_at hl 1 rfl) ?_
  refine zr_if_ne (tgt := 293) hx hb dL_law_278 (by decide) (by decide) (fun _ => ?_) (fun h9 => absurd h9 (by decide))
  refine lv_goto (tgt := 1683) hx hb dL_law_293 (by decide) ?_
  refine W.widen (k := cells + 1) (n := slots + 6) (by show cells + 1 + 0 ≤ cells + 1; omega) (by show slots + 6 + 0 ≤ slots + 6; omega) ?_
  exact kk o q n A T S0 S1 S2 S3 S V xm f xl g xk xn xd xe 1 xam xpl gr gu (by exact hI9) (by omega) H locs hP hD hS ls (lv_sub hl [2, 3, 4, 5, 6] rfl)
/-! the law: value -/
set_option maxHeartbeats 8000000 in
set_option maxRecDepth 100000 in
theorem law_value {p : Program} {e : Env} {s : State} {m : MethodId} {below : List Frame} {meth : Method} {c : Code} {b L : Nat} {xs : Nat → Int32} {Q : State → Prop} (l : Launch) (hfl : l.stackTraces = false) (D : va_G) (cs : Nat → ClassId) (hx : p.tables.exec = Jvm.exec) (hb : c.code = cL_law) (hml : c.maxLocals = 9) (hown : s.vm.findClass RL = some m.cls) (hts : ∀ w ∈ wsL_law, w.before #[Value.ref b] s = true) (hK : va_K D vwCl (zTy cs) s) (hN : zNW s) (hG : zXG s) (hC : zNcP s) (hO : va_AO RX1 s) (hL : L ≤ 2560) (hXs : va_X b L xs s s.heap) (hbl : b < s.heap.size) (xi : Int) (hxi : 0 ≤ xi ∧ xi + 5 ≤ L) (cells slots : Nat) (hcl : cells + 1 ≤ 601024 ∧ slots + 6 ≤ 7293034) (ou : Nat) (o : Nat → Nat → Nat) (q : Nat → Nat) (n : Int) (A T S0 S1 S2 S3 S V : Int → Int) (xm : Int) (f : Int → Int) (xl : Int) (g : Int → Int) (xk xn xd xe xth xam xpl : Int) (gr gu : Int → Int) (hI9 : zInL n A S0 S1 S2 S3 S xm f xl) (hn9 : 0 ≤ n ∧ n ≤ 1200 * xi) (H : Heap) (locs : List Loc) (hP : va_P D vwCl (zest cs o A T S0 S1 S2 S3 xm f xl g xk xn xd xe ++ (zmod cs q A S V xm xth xam f xl xpl gr ++ [(ou, .inl (cs 2, 1, .inr (.inl (zAL gu))))])) H) (hD : va_D (fun z => s.heap.size ≤ z) (zest cs o A T S0 S1 S2 S3 xm f xl g xk xn xd xe ++ (zmod cs q A S V xm xth xam f xl xpl gr ++ [(ou, .inl (cs 2, 1, .inr (.inl (zAL gu))))]))) (hS : va_S (fun z => s.heap.size ≤ z) s.heap H locs) (ls : Array Slot) (hl : lv_has ls 9 [(4, .int (zI xi)), (3, .ref ou), (2, .ref (q 0)), (1, .ref (o 0 0)), (0, .ref b)]) (kk : ∀ (o : Nat → Nat → Nat) (q : Nat → Nat) (n : Int) (A T S0 S1 S2 S3 S V : Int → Int) (xm : Int) (f : Int → Int) (xl : Int) (g : Int → Int) (xk xn xd xe xth xam xpl : Int) (gr gu : Int → Int), zInL n A S0 S1 S2 S3 S xm f xl → (0 ≤ n ∧ n ≤ 1200 * (xi + 5)) → ∀ (H : Heap) (locs : List Loc), va_P D vwCl (zest cs o A T S0 S1 S2 S3 xm f xl g xk xn xd xe ++ (zmod cs q A S V xm xth xam f xl xpl gr ++ [(ou, .inl (cs 2, 1, .inr (.inl (zAL gu))))])) H → va_D (fun z => s.heap.size ≤ z) (zest cs o A T S0 S1 S2 S3 xm f xl g xk xn xd xe ++ (zmod cs q A S V xm xth xam f xl xpl gr ++ [(ou, .inl (cs 2, 1, .inr (.inl (zAL gu))))])) → va_S (fun z => s.heap.size ≤ z) s.heap H locs → ∀ ls : Array Slot, lv_has ls 9 [(4, .int (zI xi)), (3, .ref ou), (2, .ref (q 0)), (1, .ref (o 0 0)), (0, .ref b)] → W p l e room_1 s m #[Value.ref b] below meth c H locs (cells + 1) (slots + 6) Q (F0 m 1683 ls [])) : W p l e room_1 s m #[Value.ref b] below meth c H locs cells slots Q (F0 m 296 ls []) := by
  have hcl1 := hcl.1
  have hcl2 := hcl.2
  have hA : ∀ z : Nat, s.heap.size ≤ z → s.heap.size ≤ z := fun _ h => h
  have hbA : ¬ (s.heap.size ≤ b) := Nat.not_le.mpr hbl
  have hr1 := zX_r xs (xi + 1)
  by_cases hc9 : 0 ≤ (zX xs (xi + 1)) ∧ (zX xs (xi + 1)) ≤ 11
  · refine lv_aload_n hx hb dL_law_296 rfl (lv_at hl 3 rfl) ?_
    refine lv_aload_n hx hb dL_law_297 rfl (lv_at hl 4 rfl) ?_
    refine lv_iload hx hb dL_law_298 (lv_at hl 0 rfl) ?_
    refine zr_iconst hx hb dL_law_300 ?_
    refine zr_iadd hx hb dL_law_301 ?_
    refine zr_sls hx hb hXs hbl hbA hS hL (by omega) dL_law_302 ?_
    refine lv_aload_n hx hb dL_law_303 rfl (lv_at hl 1 rfl) ?_
    refine zc_xi (w := [((o 0) 0, .inr (5, [.ref ((o 1) 0), .ref ((o 2) 0), .ref ((o 3) 0), .ref ((o 8) 0)]))] ++ (zbat cs (o 1) A ++ [(ou, .inl (cs 2, 1, .inr (.inl (zAL gu))))])) (wr := zbat cs (o 2) T ++ ([(o 3 0, .inr (3, [.ref (o 3 1), .int (zI xm)])), (o 3 1, .inl (cs 3, 4, .inr (.inr (.inr (.inr (zR (o 4 0) (o 5 0) (o 6 0) (o 7 0)))))))] ++ (zbat cs (o 4) S0 ++ (zbat cs (o 5) S1 ++ (zbat cs (o 6) S2 ++ (zbat cs (o 7) S3 ++ (ztxt cs (o 8) f xl g xk xn xd xe ++ (zmod cs q A S V xm xth xam f xl xpl gr)))))))) (vx_runSX (As := [.ref (o 0 0), .int (zI (zX xs (xi + 1))), .ref ou]) (rest := []) ⟨hx, hb, hml, hown, hts⟩ (met_L_value_ok l D cs o ou gu H.size A (zX xs (xi + 1)) (zX_r xs _) hc9) (vx_cwSW 3 hts gL_law_L_value rfl rfl rfl (by decide +kernel) ⟨(Nat.le_of_ble_eq_true rfl), (Nat.le_of_ble_eq_true rfl)⟩) ⟨zPreZ.blind, fun U hU hW => zp_Z (hP.sub (ws' := [((o 0) 0, .inr (5, [.ref ((o 1) 0), .ref ((o 2) 0), .ref ((o 3) 0), .ref ((o 8) 0)]))] ++ (zbat cs (o 1) A ++ [(ou, .inl (cs 2, 1, .inr (.inl (zAL gu))))])) [0, 1, 2, 3, 4, 5, 6, 7, 54] rfl) hK (hD.sub (ws' := [((o 0) 0, .inr (5, [.ref ((o 1) 0), .ref ((o 2) 0), .ref ((o 3) 0), .ref ((o 8) 0)]))] ++ (zbat cs (o 1) A ++ [(ou, .inl (cs 2, 1, .inr (.inl (zAL gu))))])) [0, 1, 2, 3, 4, 5, 6, 7, 54] (by decide) rfl) hN hU hW⟩ rfl rfl hl.1 rfl (lv_room (Nat.le_of_ble_eq_true rfl)) dL_law_304 ⟨by show cells + 0 ≤ 601024; omega, by show slots + 0 ≤ 7293034; omega⟩) hS hP hD hA [0, 1, 2, 3, 4, 5, 6, 7, 54] [8, 9, 10, 11, 12, 13, 14, 15, 16, 17, 18, 19, 20, 21, 22, 23, 24, 25, 26, 27, 28, 29, 30, 31, 32, 33, 34, 35, 36, 37, 38, 39, 40, 41, 42, 43, 44, 45, 46, 47, 48, 49, 50, 51, 52, 53] rfl rfl (by decide) (by decide) (fun H locs hP hD hS => ?_)
    have hP : va_P D vwCl (zest cs o A T S0 S1 S2 S3 xm f xl g xk xn xd xe ++ (zmod cs q A S V xm xth xam f xl xpl gr ++ [(ou, .inl (cs 2, 1, .inr (.inl (zAL (zU gu 0 (zW (A (zX xs (xi + 1)))))))))])) H := zP_perm hP zPe_B
    have hD : va_D (fun z => s.heap.size ≤ z) (zest cs o A T S0 S1 S2 S3 xm f xl g xk xn xd xe ++ (zmod cs q A S V xm xth xam f xl xpl gr ++ [(ou, .inl (cs 2, 1, .inr (.inl (zAL (zU gu 0 (zW (A (zX xs (xi + 1)))))))))])) := zD_perm hD zPe_B
    refine lv_istore (lv' := [(5, .int (zI 0)), (4, .int (zI xi)), (3, .ref ou), (2, .ref (q 0)), (1, .ref (o 0 0)), (0, .ref b)]) hx hb dL_law_307 hl (by decide) rfl (fun ls hl => ?_)
    refine lv_aload_n hx hb dL_law_309 rfl (lv_at hl 3 rfl) ?_
    refine lv_aload_n hx hb dL_law_310 rfl (lv_at hl 5 rfl) ?_
    refine lv_iload hx hb dL_law_311 (lv_at hl 1 rfl) ?_
    refine zr_iconst hx hb dL_law_313 ?_
    refine zr_iadd hx hb dL_law_314 ?_
    refine zr_sls hx hb hXs hbl hbA hS hL (by omega) dL_law_315 ?_
    refine zc_ij (w := zmod cs q A S V xm xth xam f xl xpl gr) (wr := zest cs o A T S0 S1 S2 S3 xm f xl g xk xn xd xe ++ [(ou, .inl (cs 2, 1, .inr (.inl (zAL (zU gu 0 (zW (A (zX xs (xi + 1)))))))))]) (va_runV (As := [.int (zI (zX xs (xi + 1)))]) (rest := []) ⟨hx, hb, hml, hown, hts⟩ (met_X6_value_ok l D cs q H.size A S V xm xth xam f xl xpl gr (zX xs (xi + 1)) (zX_r xs _) hc9) (cwV 1 hts gL_law_X6_value rfl rfl rfl (by decide +kernel) ⟨(Nat.le_of_ble_eq_true rfl), (Nat.le_of_ble_eq_true rfl)⟩) ⟨zPreZ.blind, va_recv hK hP (ci := 6) (q0 := 48) rfl rfl, fun U hU hW => zp_Z (hP.sub (ws' := zmod cs q A S V xm xth xam f xl xpl gr) [48, 49, 50, 51, 52, 53] rfl) hK (hD.sub (ws' := zmod cs q A S V xm xth xam f xl xpl gr) [48, 49, 50, 51, 52, 53] (by decide) rfl) hN hU hW⟩ rfl rfl hl.1 rfl (lv_room (Nat.le_of_ble_eq_true rfl)) dL_law_316 ⟨by show cells + 0 + 0 ≤ 601024; omega, by show slots + 0 + 0 ≤ 7293034; omega⟩) hS hP hD hA [48, 49, 50, 51, 52, 53] [0, 1, 2, 3, 4, 5, 6, 7, 8, 9, 10, 11, 12, 13, 14, 15, 16, 17, 18, 19, 20, 21, 22, 23, 24, 25, 26, 27, 28, 29, 30, 31, 32, 33, 34, 35, 36, 37, 38, 39, 40, 41, 42, 43, 44, 45, 46, 47, 54] rfl rfl (by decide) (by decide) (fun H locs hP hD hS => ?_)
    have hP : va_P D vwCl (zest cs o A T S0 S1 S2 S3 xm f xl g xk xn xd xe ++ (zmod cs q A S V xm 0 xam f xl xpl gr ++ [(ou, .inl (cs 2, 1, .inr (.inl (zAL (zU gu 0 (zW (A (zX xs (xi + 1)))))))))])) H := zP_perm hP zPe_m
    have hD : va_D (fun z => s.heap.size ≤ z) (zest cs o A T S0 S1 S2 S3 xm f xl g xk xn xd xe ++ (zmod cs q A S V xm 0 xam f xl xpl gr ++ [(ou, .inl (cs 2, 1, .inr (.inl (zAL (zU gu 0 (zW (A (zX xs (xi + 1)))))))))])) := zD_perm hD zPe_m
    refine lv_istore (lv' := [(6, .int (zI (A (zX xs (xi + 1))))), (5, .int (zI 0)), (4, .int (zI xi)), (3, .ref ou), (2, .ref (q 0)), (1, .ref (o 0 0)), (0, .ref b)]) hx hb dL_law_319 hl (by decide) rfl (fun ls hl => ?_)
    refine lv_aload_n hx hb dL_law_321 rfl (lv_at hl 4 rfl) ?_
    refine zc_ri (va_runV (As := []) (rest := []) ⟨hx, hb, hml, hown, hts⟩ (met_X6_thrown l D cs q A S V xm 0 xam f xl xpl gr) (cwV 0 hts gL_law_X6_thrown rfl rfl rfl (by decide +kernel) ⟨(Nat.le_of_ble_eq_true rfl), (Nat.le_of_ble_eq_true rfl)⟩) ⟨zPre.blind, va_recv hK hP (ci := 6) (q0 := 48) rfl rfl, fun U hU hW => zp_R (hP.sub (ws' := zmod cs q A S V xm 0 xam f xl xpl gr) [48, 49, 50, 51, 52, 53] rfl) hK (hD.sub (ws' := zmod cs q A S V xm 0 xam f xl xpl gr) [48, 49, 50, 51, 52, 53] (by decide) rfl) hN hU hW⟩ rfl rfl hl.1 rfl (lv_room (Nat.le_of_ble_eq_true rfl)) dL_law_322 ⟨by show cells + 0 + 0 + 0 ≤ 601024; omega, by show slots + 0 + 0 + 0 ≤ 7293034; omega⟩) ?_
    refine lv_iload hx hb dL_law_325 (lv_at hl 1 rfl) ?_
    refine zr_iceq (tgt := 332) hx hb dL_law_327 (by decide) ?_
    refine lv_iload hx hb dL_law_332 (lv_at hl 1 rfl) ?_
    refine zr_if_ne (tgt := 349) hx hb dL_law_334 (by decide) (by decide) (fun h9 => absurd h9 (by decide)) (fun _ => ?_)
    refine lv_aload_n hx hb dL_law_337 rfl (lv_at hl 3 rfl) ?_
    refine zr_iconst hx hb dL_law_338 ?_
    refine zr_lald (D := D) (g := zU gu 0 (zW (A (zX xs (xi + 1))))) hx hb hK hP 54 2 rfl rfl (by decide) (by decide) dL_law_339 ?_
    rw [show (zU gu 0 (zW (A (zX xs (xi + 1))))) 0 = zW (A (zX xs (xi + 1))) from rfl]
    refine lv_iload hx hb dL_law_340 (lv_at hl 0 rfl) ?_
    refine lv_i2l hx hb dL_law_342 (zW_l (A (zX xs (xi + 1)))) ?_
    refine zr_lceq (tgt := 349) hx hb dL_law_343 dL_law_344 (by decide) ?_
    refine lv_goto (tgt := 1683) hx hb dL_law_349 (by decide) ?_
    refine W.widen (k := cells + 1) (n := slots + 6) (by show cells + 0 + 0 ≤ cells + 1; omega) (by show slots + 0 + 0 ≤ slots + 6; omega) ?_
    exact kk o q n A T S0 S1 S2 S3 S V xm f xl g xk xn xd xe 0 xam xpl gr (zU gu 0 (zW (A (zX xs (xi + 1))))) (by exact hI9) (by omega) H locs hP hD hS ls (lv_sub hl [2, 3, 4, 5, 6] rfl)
  replace hc9 := hc9
  refine lv_aload_n hx hb dL_law_296 rfl (lv_at hl 3 rfl) ?_
  refine lv_aload_n hx hb dL_law_297 rfl (lv_at hl 4 rfl) ?_
  refine lv_iload hx hb dL_law_298 (lv_at hl 0 rfl) ?_
  refine zr_iconst hx hb dL_law_300 ?_
  refine zr_iadd hx hb dL_law_301 ?_
  refine zr_sls hx hb hXs hbl hbA hS hL (by omega) dL_law_302 ?_
  refine lv_aload_n hx hb dL_law_303 rfl (lv_at hl 1 rfl) ?_
  refine zc_xk (vx_runSX (As := [.ref (o 0 0), .int (zI (zX xs (xi + 1))), .ref ou]) (rest := []) ⟨hx, hb, hml, hown, hts⟩ (met_L_value_x l hfl D cs o ou gu A (zX xs (xi + 1)) (zX_r xs _) hc9) (vx_cwSW 3 hts gL_law_L_value rfl rfl rfl (by decide +kernel) ⟨(Nat.le_of_ble_eq_true rfl), (Nat.le_of_ble_eq_true rfl)⟩) ⟨zPreU.blind, fun U hU hW => zp_U (hP.sub (ws' := [((o 0) 0, .inr (5, [.ref ((o 1) 0), .ref ((o 2) 0), .ref ((o 3) 0), .ref ((o 8) 0)]))] ++ (zbat cs (o 1) A ++ [(ou, .inl (cs 2, 1, .inr (.inl (zAL gu))))])) [0, 1, 2, 3, 4, 5, 6, 7, 54] rfl) hK (hD.sub (ws' := [((o 0) 0, .inr (5, [.ref ((o 1) 0), .ref ((o 2) 0), .ref ((o 3) 0), .ref ((o 8) 0)]))] ++ (zbat cs (o 1) A ++ [(ou, .inl (cs 2, 1, .inr (.inl (zAL gu))))])) [0, 1, 2, 3, 4, 5, 6, 7, 54] (by decide) rfl) hN (hG.at hS) hC hU hW⟩ rfl rfl hl.1 rfl (lv_room (Nat.le_of_ble_eq_true rfl)) dL_law_304 ⟨by show cells + 1 ≤ 601024; omega, by show slots + 6 ≤ 7293034; omega⟩) hS hP (fun H locs hP hS => ?_)
  refine lv_istore (lv' := [(5, .int (zI 1)), (4, .int (zI xi)), (3, .ref ou), (2, .ref (q 0)), (1, .ref (o 0 0)), (0, .ref b)]) hx hb dL_law_307 hl (by decide) rfl (fun ls hl => ?_)
  refine lv_aload_n hx hb dL_law_309 rfl (lv_at hl 3 rfl) ?_
  refine lv_aload_n hx hb dL_law_310 rfl (lv_at hl 5 rfl) ?_
  refine lv_iload hx hb dL_law_311 (lv_at hl 1 rfl) ?_
  refine zr_iconst hx hb dL_law_313 ?_
  refine zr_iadd hx hb dL_law_314 ?_
  refine zr_sls hx hb hXs hbl hbA hS hL (by omega) dL_law_315 ?_
  refine zc_ij (w := zmod cs q A S V xm xth xam f xl xpl gr) (wr := zest cs o A T S0 S1 S2 S3 xm f xl g xk xn xd xe ++ [(ou, .inl (cs 2, 1, .inr (.inl (zAL gu))))]) (va_runV (As := [.int (zI (zX xs (xi + 1)))]) (rest := []) ⟨hx, hb, hml, hown, hts⟩ (met_X6_value_no1 l D cs q H.size A S V xm xth xam f xl xpl gr (zX xs (xi + 1)) (zX_r xs _) hc9) (cwV 1 hts gL_law_X6_value rfl rfl rfl (by decide +kernel) ⟨(Nat.le_of_ble_eq_true rfl), (Nat.le_of_ble_eq_true rfl)⟩) ⟨zPreZ.blind, va_recv hK hP (ci := 6) (q0 := 48) rfl rfl, fun U hU hW => zp_Z (hP.sub (ws' := zmod cs q A S V xm xth xam f xl xpl gr) [48, 49, 50, 51, 52, 53] rfl) hK (hD.sub (ws' := zmod cs q A S V xm xth xam f xl xpl gr) [48, 49, 50, 51, 52, 53] (by decide) rfl) hN hU hW⟩ rfl rfl hl.1 rfl (lv_room (Nat.le_of_ble_eq_true rfl)) dL_law_316 ⟨by show cells + 1 + 0 ≤ 601024; omega, by show slots + 6 + 0 ≤ 7293034; omega⟩) hS hP hD hA [48, 49, 50, 51, 52, 53] [0, 1, 2, 3, 4, 5, 6, 7, 8, 9, 10, 11, 12, 13, 14, 15, 16, 17, 18, 19, 20, 21, 22, 23, 24, 25, 26, 27, 28, 29, 30, 31, 32, 33, 34, 35, 36, 37, 38, 39, 40, 41, 42, 43, 44, 45, 46, 47, 54] rfl rfl (by decide) (by decide) (fun H locs hP hD hS => ?_)
  have hP : va_P D vwCl (zest cs o A T S0 S1 S2 S3 xm f xl g xk xn xd xe ++ (zmod cs q A S V xm 1 xam f xl xpl gr ++ [(ou, .inl (cs 2, 1, .inr (.inl (zAL gu))))])) H := zP_perm hP zPe_m
  have hD : va_D (fun z => s.heap.size ≤ z) (zest cs o A T S0 S1 S2 S3 xm f xl g xk xn xd xe ++ (zmod cs q A S V xm 1 xam f xl xpl gr ++ [(ou, .inl (cs 2, 1, .inr (.inl (zAL gu))))])) := zD_perm hD zPe_m
  refine lv_istore (lv' := [(6, .int (zI 0)), (5, .int (zI 1)), (4, .int (zI xi)), (3, .ref ou), (2, .ref (q 0)), (1, .ref (o 0 0)), (0, .ref b)]) hx hb dL_law_319 hl (by decide) rfl (fun ls hl => ?_)
  refine lv_aload_n hx hb dL_law_321 rfl (lv_at hl 4 rfl) ?_
  refine zc_ri (va_runV (As := []) (rest := []) ⟨hx, hb, hml, hown, hts⟩ (met_X6_thrown l D cs q A S V xm 1 xam f xl xpl gr) (cwV 0 hts gL_law_X6_thrown rfl rfl rfl (by decide +kernel) ⟨(Nat.le_of_ble_eq_true rfl), (Nat.le_of_ble_eq_true rfl)⟩) ⟨zPre.blind, va_recv hK hP (ci := 6) (q0 := 48) rfl rfl, fun U hU hW => zp_R (hP.sub (ws' := zmod cs q A S V xm 1 xam f xl xpl gr) [48, 49, 50, 51, 52, 53] rfl) hK (hD.sub (ws' := zmod cs q A S V xm 1 xam f xl xpl gr) [48, 49, 50, 51, 52, 53] (by decide) rfl) hN hU hW⟩ rfl rfl hl.1 rfl (lv_room (Nat.le_of_ble_eq_true rfl)) dL_law_322 ⟨by show cells + 1 + 0 + 0 ≤ 601024; omega, by show slots + 6 + 0 + 0 ≤ 7293034; omega⟩) ?_
  refine lv_iload hx hb dL_law_325 (lv_at hl 1 rfl) ?_
  refine zr_iceq (tgt := 332) hx hb dL_law_327 (by decide) ?_
  refine lv_iload hx hb dL_law_332 (lv_at hl 1 rfl) ?_
  refine zr_if_ne (tgt := 349) hx hb dL_law_334 (by decide) (by decide) (fun _ => ?_) (fun h9 => absurd h9 (by decide))
  refine lv_goto (tgt := 1683) hx hb dL_law_349 (by decide) ?_
  refine W.widen (k := cells + 1) (n := slots + 6) (by show cells + 1 + 0 ≤ cells + 1; omega) (by show slots + 6 + 0 ≤ slots + 6; omega) ?_
  exact kk o q n A T S0 S1 S2 S3 S V xm f xl g xk xn xd xe 1 xam xpl gr gu (by exact hI9) (by omega) H locs hP hD hS ls (lv_sub hl [2, 3, 4, 5, 6] rfl)
/-! the law: setCurve -/
set_option maxHeartbeats 8000000 in
set_option maxRecDepth 100000 in
theorem law_setCurve {p : Program} {e : Env} {s : State} {m : MethodId} {below : List Frame} {meth : Method} {c : Code} {b L : Nat} {xs : Nat → Int32} {Q : State → Prop} (l : Launch) (hfl : l.stackTraces = false) (D : va_G) (cs : Nat → ClassId) (hx : p.tables.exec = Jvm.exec) (hb : c.code = cL_law) (hml : c.maxLocals = 9) (hown : s.vm.findClass RL = some m.cls) (hts : ∀ w ∈ wsL_law, w.before #[Value.ref b] s = true) (hK : va_K D vwCl (zTy cs) s) (hN : zNW s) (hG : zXG s) (hC : zNcP s) (hO : va_AO RX1 s) (hL : L ≤ 2560) (hXs : va_X b L xs s s.heap) (hbl : b < s.heap.size) (xi : Int) (hxi : 0 ≤ xi ∧ xi + 5 ≤ L) (cells slots : Nat) (hcl : cells + 1 ≤ 601024 ∧ slots + 6 ≤ 7293034) (ou : Nat) (o : Nat → Nat → Nat) (q : Nat → Nat) (n : Int) (A T S0 S1 S2 S3 S V : Int → Int) (xm : Int) (f : Int → Int) (xl : Int) (g : Int → Int) (xk xn xd xe xth xam xpl : Int) (gr gu : Int → Int) (hI9 : zInL n A S0 S1 S2 S3 S xm f xl) (hn9 : 0 ≤ n ∧ n ≤ 1200 * xi) (H : Heap) (locs : List Loc) (hP : va_P D vwCl (zest cs o A T S0 S1 S2 S3 xm f xl g xk xn xd xe ++ (zmod cs q A S V xm xth xam f xl xpl gr ++ [(ou, .inl (cs 2, 1, .inr (.inl (zAL gu))))])) H) (hD : va_D (fun z => s.heap.size ≤ z) (zest cs o A T S0 S1 S2 S3 xm f xl g xk xn xd xe ++ (zmod cs q A S V xm xth xam f xl xpl gr ++ [(ou, .inl (cs 2, 1, .inr (.inl (zAL gu))))]))) (hS : va_S (fun z => s.heap.size ≤ z) s.heap H locs) (ls : Array Slot) (hl : lv_has ls 9 [(4, .int (zI xi)), (3, .ref ou), (2, .ref (q 0)), (1, .ref (o 0 0)), (0, .ref b)]) (kk : ∀ (o : Nat → Nat → Nat) (q : Nat → Nat) (n : Int) (A T S0 S1 S2 S3 S V : Int → Int) (xm : Int) (f : Int → Int) (xl : Int) (g : Int → Int) (xk xn xd xe xth xam xpl : Int) (gr gu : Int → Int), zInL n A S0 S1 S2 S3 S xm f xl → (0 ≤ n ∧ n ≤ 1200 * (xi + 5)) → ∀ (H : Heap) (locs : List Loc), va_P D vwCl (zest cs o A T S0 S1 S2 S3 xm f xl g xk xn xd xe ++ (zmod cs q A S V xm xth xam f xl xpl gr ++ [(ou, .inl (cs 2, 1, .inr (.inl (zAL gu))))])) H → va_D (fun z => s.heap.size ≤ z) (zest cs o A T S0 S1 S2 S3 xm f xl g xk xn xd xe ++ (zmod cs q A S V xm xth xam f xl xpl gr ++ [(ou, .inl (cs 2, 1, .inr (.inl (zAL gu))))])) → va_S (fun z => s.heap.size ≤ z) s.heap H locs → ∀ ls : Array Slot, lv_has ls 9 [(4, .int (zI xi)), (3, .ref ou), (2, .ref (q 0)), (1, .ref (o 0 0)), (0, .ref b)] → W p l e room_1 s m #[Value.ref b] below meth c H locs (cells + 1) (slots + 6) Q (F0 m 1683 ls [])) : W p l e room_1 s m #[Value.ref b] below meth c H locs cells slots Q (F0 m 352 ls []) := by
  have hcl1 := hcl.1
  have hcl2 := hcl.2
  have hA : ∀ z : Nat, s.heap.size ≤ z → s.heap.size ≤ z := fun _ h => h
  have hbA : ¬ (s.heap.size ≤ b) := Nat.not_le.mpr hbl
  have hr1 := zX_r xs (xi + 1)
  have hr2 := zX_r xs (xi + 2)
  have hr3 := zX_r xs (xi + 3)
  by_cases hc9 : (0 ≤ (zX xs (xi + 1)) ∧ (zX xs (xi + 1)) ≤ 10) ∧ (2000 ≤ (zX xs (xi + 2)) ∧ (zX xs (xi + 2)) ≤ 5000) ∧ ((zX xs (xi + 2)) ≤ (zX xs (xi + 3)) ∧ (zX xs (xi + 3)) ≤ 5000) ∧ (((zX xs (xi + 1)) = 0 ∨ A (12 + (zX xs (xi + 1)) - 1) < (zX xs (xi + 2))) ∧ ((zX xs (xi + 1)) = 10 ∨ (zX xs (xi + 2)) < A (12 + (zX xs (xi + 1)) + 1))) ∧ (((zX xs (xi + 1)) = 0 ∨ A (23 + (zX xs (xi + 1)) - 1) < (zX xs (xi + 3))) ∧ ((zX xs (xi + 1)) = 10 ∨ (zX xs (xi + 3)) < A (23 + (zX xs (xi + 1)) + 1)))
  · refine lv_aload_n hx hb dL_law_352 rfl (lv_at hl 3 rfl) ?_
    refine lv_aload_n hx hb dL_law_353 rfl (lv_at hl 4 rfl) ?_
    refine lv_iload hx hb dL_law_354 (lv_at hl 0 rfl) ?_
    refine zr_iconst hx hb dL_law_356 ?_
    refine zr_iadd hx hb dL_law_357 ?_
    refine zr_sls hx hb hXs hbl hbA hS hL (by omega) dL_law_358 ?_
    refine lv_aload_n hx hb dL_law_359 rfl (lv_at hl 4 rfl) ?_
    refine lv_iload hx hb dL_law_360 (lv_at hl 0 rfl) ?_
    refine zr_iconst hx hb dL_law_362 ?_
    refine zr_iadd hx hb dL_law_363 ?_
    refine zr_sls hx hb hXs hbl hbA hS hL (by omega) dL_law_364 ?_
    refine lv_aload_n hx hb dL_law_365 rfl (lv_at hl 4 rfl) ?_
    refine lv_iload hx hb dL_law_366 (lv_at hl 0 rfl) ?_
    refine zr_iconst hx hb dL_law_368 ?_
    refine zr_iadd hx hb dL_law_369 ?_
    refine zr_sls hx hb hXs hbl hbA hS hL (by omega) dL_law_370 ?_
    refine lv_aload_n hx hb dL_law_371 rfl (lv_at hl 1 rfl) ?_
    refine zc_xi (w := [((o 0) 0, .inr (5, [.ref ((o 1) 0), .ref ((o 2) 0), .ref ((o 3) 0), .ref ((o 8) 0)]))] ++ (zbat cs (o 1) A ++ ([((o 3) 0, .inr (3, [.ref ((o 3) 1), .int (zI xm)])), ((o 3) 1, .inl (cs 3, 4, .inr (.inr (.inr (.inr (zR ((o 4) 0) ((o 5) 0) ((o 6) 0) ((o 7) 0)))))))] ++ (zbat cs (o 4) S0 ++ (zbat cs (o 5) S1 ++ (zbat cs (o 6) S2 ++ (zbat cs (o 7) S3 ++ [(ou, .inl (cs 2, 1, .inr (.inl (zAL gu))))]))))))) (wr := zbat cs (o 2) T ++ (ztxt cs (o 8) f xl g xk xn xd xe ++ (zmod cs q A S V xm xth xam f xl xpl gr))) (vx_runSX (As := [.ref (o 0 0), .int (zI (zX xs (xi + 1))), .int (zI (zX xs (xi + 2))), .int (zI (zX xs (xi + 3))), .ref ou]) (rest := []) ⟨hx, hb, hml, hown, hts⟩ (met_L_setCurve_ok l D cs o ou gu H.size A S0 S1 S2 S3 xm n (zX xs (xi + 1)) (zX xs (xi + 2)) (zX xs (xi + 3)) (by exact hI9.1) (by omega) (by exact hI9.2.1) (zX_r xs _) (zX_r xs _) (zX_r xs _) hc9) (vx_cwSW 5 hts gL_law_L_setCurve rfl rfl rfl (by decide +kernel) ⟨(Nat.le_of_ble_eq_true rfl), (Nat.le_of_ble_eq_true rfl)⟩) ⟨zPreZ.blind, fun U hU hW => zp_Z (hP.sub (ws' := [((o 0) 0, .inr (5, [.ref ((o 1) 0), .ref ((o 2) 0), .ref ((o 3) 0), .ref ((o 8) 0)]))] ++ (zbat cs (o 1) A ++ ([((o 3) 0, .inr (3, [.ref ((o 3) 1), .int (zI xm)])), ((o 3) 1, .inl (cs 3, 4, .inr (.inr (.inr (.inr (zR ((o 4) 0) ((o 5) 0) ((o 6) 0) ((o 7) 0)))))))] ++ (zbat cs (o 4) S0 ++ (zbat cs (o 5) S1 ++ (zbat cs (o 6) S2 ++ (zbat cs (o 7) S3 ++ [(ou, .inl (cs 2, 1, .inr (.inl (zAL gu))))]))))))) [0, 1, 2, 3, 4, 5, 6, 7, 15, 16, 17, 18, 19, 20, 21, 22, 23, 24, 25, 26, 27, 28, 29, 30, 31, 32, 33, 34, 35, 36, 37, 38, 39, 40, 41, 42, 43, 44, 54] rfl) hK (hD.sub (ws' := [((o 0) 0, .inr (5, [.ref ((o 1) 0), .ref ((o 2) 0), .ref ((o 3) 0), .ref ((o 8) 0)]))] ++ (zbat cs (o 1) A ++ ([((o 3) 0, .inr (3, [.ref ((o 3) 1), .int (zI xm)])), ((o 3) 1, .inl (cs 3, 4, .inr (.inr (.inr (.inr (zR ((o 4) 0) ((o 5) 0) ((o 6) 0) ((o 7) 0)))))))] ++ (zbat cs (o 4) S0 ++ (zbat cs (o 5) S1 ++ (zbat cs (o 6) S2 ++ (zbat cs (o 7) S3 ++ [(ou, .inl (cs 2, 1, .inr (.inl (zAL gu))))]))))))) [0, 1, 2, 3, 4, 5, 6, 7, 15, 16, 17, 18, 19, 20, 21, 22, 23, 24, 25, 26, 27, 28, 29, 30, 31, 32, 33, 34, 35, 36, 37, 38, 39, 40, 41, 42, 43, 44, 54] (by decide) rfl) hN hU hW⟩ rfl rfl hl.1 rfl (lv_room (Nat.le_of_ble_eq_true rfl)) dL_law_372 ⟨by show cells + 0 ≤ 601024; omega, by show slots + 0 ≤ 7293034; omega⟩) hS hP hD hA [0, 1, 2, 3, 4, 5, 6, 7, 15, 16, 17, 18, 19, 20, 21, 22, 23, 24, 25, 26, 27, 28, 29, 30, 31, 32, 33, 34, 35, 36, 37, 38, 39, 40, 41, 42, 43, 44, 54] [8, 9, 10, 11, 12, 13, 14, 45, 46, 47, 48, 49, 50, 51, 52, 53] rfl rfl (by decide) (by decide) (fun H locs hP hD hS => ?_)
    have hP : va_P D vwCl (zest cs (zo5 xm o) (zPut A (zX xs (xi + 1)) (zX xs (xi + 2)) (zX xs (xi + 3))) T (zs4 xm 0 A S0 S1) (zs4 xm 1 A S1 S2) (zs4 xm 2 A S2 S3) (zs4 xm 3 A S3 A) (zm4 xm) f xl g xk xn xd xe ++ (zmod cs q A S V xm xth xam f xl xpl gr ++ [(ou, .inl (cs 2, 1, .inr (.inl (zAL (zU gu 0 (zW (A (12 + (zX xs (xi + 1))))))))))])) H := zP_perm hP zPe_H
    have hD : va_D (fun z => s.heap.size ≤ z) (zest cs (zo5 xm o) (zPut A (zX xs (xi + 1)) (zX xs (xi + 2)) (zX xs (xi + 3))) T (zs4 xm 0 A S0 S1) (zs4 xm 1 A S1 S2) (zs4 xm 2 A S2 S3) (zs4 xm 3 A S3 A) (zm4 xm) f xl g xk xn xd xe ++ (zmod cs q A S V xm xth xam f xl xpl gr ++ [(ou, .inl (cs 2, 1, .inr (.inl (zAL (zU gu 0 (zW (A (12 + (zX xs (xi + 1))))))))))])) := zD_perm hD zPe_H
    refine lv_istore (lv' := [(5, .int (zI 0)), (4, .int (zI xi)), (3, .ref ou), (2, .ref (q 0)), (1, .ref (o 0 0)), (0, .ref b)]) hx hb dL_law_375 hl (by decide) rfl (fun ls hl => ?_)
    refine lv_aload_n hx hb dL_law_377 rfl (lv_at hl 3 rfl) ?_
    refine lv_aload_n hx hb dL_law_378 rfl (lv_at hl 5 rfl) ?_
    refine lv_iload hx hb dL_law_379 (lv_at hl 1 rfl) ?_
    refine zr_iconst hx hb dL_law_381 ?_
    refine zr_iadd hx hb dL_law_382 ?_
    refine zr_sls hx hb hXs hbl hbA hS hL (by omega) dL_law_383 ?_
    refine lv_aload_n hx hb dL_law_384 rfl (lv_at hl 5 rfl) ?_
    refine lv_iload hx hb dL_law_385 (lv_at hl 1 rfl) ?_
    refine zr_iconst hx hb dL_law_387 ?_
    refine zr_iadd hx hb dL_law_388 ?_
    refine zr_sls hx hb hXs hbl hbA hS hL (by omega) dL_law_389 ?_
    refine lv_aload_n hx hb dL_law_390 rfl (lv_at hl 5 rfl) ?_
    refine lv_iload hx hb dL_law_391 (lv_at hl 1 rfl) ?_
    refine zr_iconst hx hb dL_law_393 ?_
    refine zr_iadd hx hb dL_law_394 ?_
    refine zr_sls hx hb hXs hbl hbA hS hL (by omega) dL_law_395 ?_
    refine zc_ij (w := zmod cs q A S V xm xth xam f xl xpl gr) (wr := zest cs (zo5 xm o) (zPut A (zX xs (xi + 1)) (zX xs (xi + 2)) (zX xs (xi + 3))) T (zs4 xm 0 A S0 S1) (zs4 xm 1 A S1 S2) (zs4 xm 2 A S2 S3) (zs4 xm 3 A S3 A) (zm4 xm) f xl g xk xn xd xe ++ [(ou, .inl (cs 2, 1, .inr (.inl (zAL (zU gu 0 (zW (A (12 + (zX xs (xi + 1))))))))))]) (va_runV (As := [.int (zI (zX xs (xi + 1))), .int (zI (zX xs (xi + 2))), .int (zI (zX xs (xi + 3)))]) (rest := []) ⟨hx, hb, hml, hown, hts⟩ (met_X6_setCurve_ok l D cs q H.size A S V xm xth xam f xl xpl gr n (zX xs (xi + 1)) (zX xs (xi + 2)) (zX xs (xi + 3)) (by exact hI9.1) (by omega) (by exact hI9.2.1) (zX_r xs _) (zX_r xs _) (zX_r xs _) hc9) (cwV 3 hts gL_law_X6_setCurve rfl rfl rfl (by decide +kernel) ⟨(Nat.le_of_ble_eq_true rfl), (Nat.le_of_ble_eq_true rfl)⟩) ⟨zPreZ.blind, va_recv hK hP (ci := 6) (q0 := 48) rfl rfl, fun U hU hW => zp_Z (hP.sub (ws' := zmod cs q A S V xm xth xam f xl xpl gr) [48, 49, 50, 51, 52, 53] rfl) hK (hD.sub (ws' := zmod cs q A S V xm xth xam f xl xpl gr) [48, 49, 50, 51, 52, 53] (by decide) rfl) hN hU hW⟩ rfl rfl hl.1 rfl (lv_room (Nat.le_of_ble_eq_true rfl)) dL_law_396 ⟨by show cells + 0 + 0 ≤ 601024; omega, by show slots + 0 + 0 ≤ 7293034; omega⟩) hS hP hD hA [48, 49, 50, 51, 52, 53] [0, 1, 2, 3, 4, 5, 6, 7, 8, 9, 10, 11, 12, 13, 14, 15, 16, 17, 18, 19, 20, 21, 22, 23, 24, 25, 26, 27, 28, 29, 30, 31, 32, 33, 34, 35, 36, 37, 38, 39, 40, 41, 42, 43, 44, 45, 46, 47, 54] rfl rfl (by decide) (by decide) (fun H locs hP hD hS => ?_)
    have hP : va_P D vwCl (zest cs (zo5 xm o) (zPut A (zX xs (xi + 1)) (zX xs (xi + 2)) (zX xs (xi + 3))) T (zs4 xm 0 A S0 S1) (zs4 xm 1 A S1 S2) (zs4 xm 2 A S2 S3) (zs4 xm 3 A S3 A) (zm4 xm) f xl g xk xn xd xe ++ (zmod cs q (zPut A (zX xs (xi + 1)) (zX xs (xi + 2)) (zX xs (xi + 3))) (zSvF S A xm) V (zm4 xm) 0 xam f xl xpl gr ++ [(ou, .inl (cs 2, 1, .inr (.inl (zAL (zU gu 0 (zW (A (12 + (zX xs (xi + 1))))))))))])) H := zP_perm hP zPe_m
    have hD : va_D (fun z => s.heap.size ≤ z) (zest cs (zo5 xm o) (zPut A (zX xs (xi + 1)) (zX xs (xi + 2)) (zX xs (xi + 3))) T (zs4 xm 0 A S0 S1) (zs4 xm 1 A S1 S2) (zs4 xm 2 A S2 S3) (zs4 xm 3 A S3 A) (zm4 xm) f xl g xk xn xd xe ++ (zmod cs q (zPut A (zX xs (xi + 1)) (zX xs (xi + 2)) (zX xs (xi + 3))) (zSvF S A xm) V (zm4 xm) 0 xam f xl xpl gr ++ [(ou, .inl (cs 2, 1, .inr (.inl (zAL (zU gu 0 (zW (A (12 + (zX xs (xi + 1))))))))))])) := zD_perm hD zPe_m
    refine lv_istore (lv' := [(6, .int (zI (A (12 + (zX xs (xi + 1)))))), (5, .int (zI 0)), (4, .int (zI xi)), (3, .ref ou), (2, .ref (q 0)), (1, .ref (o 0 0)), (0, .ref b)]) hx hb dL_law_399 hl (by decide) rfl (fun ls hl => ?_)
    refine lv_aload_n hx hb dL_law_401 rfl (lv_at hl 4 rfl) ?_
    refine zc_ri (va_runV (As := []) (rest := []) ⟨hx, hb, hml, hown, hts⟩ (met_X6_thrown l D cs q (zPut A (zX xs (xi + 1)) (zX xs (xi + 2)) (zX xs (xi + 3))) (zSvF S A xm) V (zm4 xm) 0 xam f xl xpl gr) (cwV 0 hts gL_law_X6_thrown rfl rfl rfl (by decide +kernel) ⟨(Nat.le_of_ble_eq_true rfl), (Nat.le_of_ble_eq_true rfl)⟩) ⟨zPre.blind, va_recv hK hP (ci := 6) (q0 := 48) rfl rfl, fun U hU hW => zp_R (hP.sub (ws' := zmod cs q (zPut A (zX xs (xi + 1)) (zX xs (xi + 2)) (zX xs (xi + 3))) (zSvF S A xm) V (zm4 xm) 0 xam f xl xpl gr) [48, 49, 50, 51, 52, 53] rfl) hK (hD.sub (ws' := zmod cs q (zPut A (zX xs (xi + 1)) (zX xs (xi + 2)) (zX xs (xi + 3))) (zSvF S A xm) V (zm4 xm) 0 xam f xl xpl gr) [48, 49, 50, 51, 52, 53] (by decide) rfl) hN hU hW⟩ rfl rfl hl.1 rfl (lv_room (Nat.le_of_ble_eq_true rfl)) dL_law_402 ⟨by show cells + 0 + 0 + 0 ≤ 601024; omega, by show slots + 0 + 0 + 0 ≤ 7293034; omega⟩) ?_
    refine lv_iload hx hb dL_law_405 (lv_at hl 1 rfl) ?_
    refine zr_iceq (tgt := 412) hx hb dL_law_407 (by decide) ?_
    refine lv_iload hx hb dL_law_412 (lv_at hl 1 rfl) ?_
    refine zr_if_ne (tgt := 429) hx hb dL_law_414 (by decide) (by decide) (fun h9 => absurd h9 (by decide)) (fun _ => ?_)
    refine lv_aload_n hx hb dL_law_417 rfl (lv_at hl 3 rfl) ?_
    refine zr_iconst hx hb dL_law_418 ?_
    refine zr_lald (D := D) (g := zU gu 0 (zW (A (12 + (zX xs (xi + 1)))))) hx hb hK hP 54 2 rfl rfl (by decide) (by decide) dL_law_419 ?_
    rw [show (zU gu 0 (zW (A (12 + (zX xs (xi + 1)))))) 0 = zW (A (12 + (zX xs (xi + 1)))) from rfl]
    refine lv_iload hx hb dL_law_420 (lv_at hl 0 rfl) ?_
    refine lv_i2l hx hb dL_law_422 (zW_l (A (12 + (zX xs (xi + 1))))) ?_
    refine zr_lceq (tgt := 429) hx hb dL_law_423 dL_law_424 (by decide) ?_
    refine lv_goto (tgt := 1683) hx hb dL_law_429 (by decide) ?_
    refine W.widen (k := cells + 1) (n := slots + 6) (by show cells + 0 + 0 ≤ cells + 1; omega) (by show slots + 0 + 0 ≤ slots + 6; omega) ?_
    exact kk (zo5 xm o) q n (zPut A (zX xs (xi + 1)) (zX xs (xi + 2)) (zX xs (xi + 3))) T (zs4 xm 0 A S0 S1) (zs4 xm 1 A S1 S2) (zs4 xm 2 A S2 S3) (zs4 xm 3 A S3 A) (zSvF S A xm) V (zm4 xm) f xl g xk xn xd xe 0 xam xpl gr (zU gu 0 (zW (A (12 + (zX xs (xi + 1)))))) (by exact hI9.save (Int.le_refl n) (zOK_put hI9.1 hc9.1 hc9.2.1 hc9.2.2.1 hc9.2.2.2.1 hc9.2.2.2.2)) (by omega) H locs hP hD hS ls (lv_sub hl [2, 3, 4, 5, 6] rfl)
  have hcA := hc9
  by_cases hc9 : ¬ (0 ≤ (zX xs (xi + 1)) ∧ (zX xs (xi + 1)) ≤ 10)
  · refine lv_aload_n hx hb dL_law_352 rfl (lv_at hl 3 rfl) ?_
    refine lv_aload_n hx hb dL_law_353 rfl (lv_at hl 4 rfl) ?_
    refine lv_iload hx hb dL_law_354 (lv_at hl 0 rfl) ?_
    refine zr_iconst hx hb dL_law_356 ?_
    refine zr_iadd hx hb dL_law_357 ?_
    refine zr_sls hx hb hXs hbl hbA hS hL (by omega) dL_law_358 ?_
    refine lv_aload_n hx hb dL_law_359 rfl (lv_at hl 4 rfl) ?_
    refine lv_iload hx hb dL_law_360 (lv_at hl 0 rfl) ?_
    refine zr_iconst hx hb dL_law_362 ?_
    refine zr_iadd hx hb dL_law_363 ?_
    refine zr_sls hx hb hXs hbl hbA hS hL (by omega) dL_law_364 ?_
    refine lv_aload_n hx hb dL_law_365 rfl (lv_at hl 4 rfl) ?_
    refine lv_iload hx hb dL_law_366 (lv_at hl 0 rfl) ?_
    refine zr_iconst hx hb dL_law_368 ?_
    refine zr_iadd hx hb dL_law_369 ?_
    refine zr_sls hx hb hXs hbl hbA hS hL (by omega) dL_law_370 ?_
    refine lv_aload_n hx hb dL_law_371 rfl (lv_at hl 1 rfl) ?_
    refine zc_xk (vx_runSX (As := [.ref (o 0 0), .int (zI (zX xs (xi + 1))), .int (zI (zX xs (xi + 2))), .int (zI (zX xs (xi + 3))), .ref ou]) (rest := []) ⟨hx, hb, hml, hown, hts⟩ (met_L_setCurve_x1 l hfl D cs o ou gu A S0 S1 S2 S3 xm (zX xs (xi + 1)) (zX xs (xi + 2)) (zX xs (xi + 3)) (zX_r xs _) (zX_r xs _) (zX_r xs _) hc9) (vx_cwSW 5 hts gL_law_L_setCurve rfl rfl rfl (by decide +kernel) ⟨(Nat.le_of_ble_eq_true rfl), (Nat.le_of_ble_eq_true rfl)⟩) ⟨zPreU.blind, fun U hU hW => zp_U (hP.sub (ws' := [((o 0) 0, .inr (5, [.ref ((o 1) 0), .ref ((o 2) 0), .ref ((o 3) 0), .ref ((o 8) 0)]))] ++ (zbat cs (o 1) A ++ ([((o 3) 0, .inr (3, [.ref ((o 3) 1), .int (zI xm)])), ((o 3) 1, .inl (cs 3, 4, .inr (.inr (.inr (.inr (zR ((o 4) 0) ((o 5) 0) ((o 6) 0) ((o 7) 0)))))))] ++ (zbat cs (o 4) S0 ++ (zbat cs (o 5) S1 ++ (zbat cs (o 6) S2 ++ (zbat cs (o 7) S3 ++ [(ou, .inl (cs 2, 1, .inr (.inl (zAL gu))))]))))))) [0, 1, 2, 3, 4, 5, 6, 7, 15, 16, 17, 18, 19, 20, 21, 22, 23, 24, 25, 26, 27, 28, 29, 30, 31, 32, 33, 34, 35, 36, 37, 38, 39, 40, 41, 42, 43, 44, 54] rfl) hK (hD.sub (ws' := [((o 0) 0, .inr (5, [.ref ((o 1) 0), .ref ((o 2) 0), .ref ((o 3) 0), .ref ((o 8) 0)]))] ++ (zbat cs (o 1) A ++ ([((o 3) 0, .inr (3, [.ref ((o 3) 1), .int (zI xm)])), ((o 3) 1, .inl (cs 3, 4, .inr (.inr (.inr (.inr (zR ((o 4) 0) ((o 5) 0) ((o 6) 0) ((o 7) 0)))))))] ++ (zbat cs (o 4) S0 ++ (zbat cs (o 5) S1 ++ (zbat cs (o 6) S2 ++ (zbat cs (o 7) S3 ++ [(ou, .inl (cs 2, 1, .inr (.inl (zAL gu))))]))))))) [0, 1, 2, 3, 4, 5, 6, 7, 15, 16, 17, 18, 19, 20, 21, 22, 23, 24, 25, 26, 27, 28, 29, 30, 31, 32, 33, 34, 35, 36, 37, 38, 39, 40, 41, 42, 43, 44, 54] (by decide) rfl) hN (hG.at hS) hC hU hW⟩ rfl rfl hl.1 rfl (lv_room (Nat.le_of_ble_eq_true rfl)) dL_law_372 ⟨by show cells + 1 ≤ 601024; omega, by show slots + 6 ≤ 7293034; omega⟩) hS hP (fun H locs hP hS => ?_)
    refine lv_istore (lv' := [(5, .int (zI 1)), (4, .int (zI xi)), (3, .ref ou), (2, .ref (q 0)), (1, .ref (o 0 0)), (0, .ref b)]) hx hb dL_law_375 hl (by decide) rfl (fun ls hl => ?_)
    refine lv_aload_n hx hb dL_law_377 rfl (lv_at hl 3 rfl) ?_
    refine lv_aload_n hx hb dL_law_378 rfl (lv_at hl 5 rfl) ?_
    refine lv_iload hx hb dL_law_379 (lv_at hl 1 rfl) ?_
    refine zr_iconst hx hb dL_law_381 ?_
    refine zr_iadd hx hb dL_law_382 ?_
    refine zr_sls hx hb hXs hbl hbA hS hL (by omega) dL_law_383 ?_
    refine lv_aload_n hx hb dL_law_384 rfl (lv_at hl 5 rfl) ?_
    refine lv_iload hx hb dL_law_385 (lv_at hl 1 rfl) ?_
    refine zr_iconst hx hb dL_law_387 ?_
    refine zr_iadd hx hb dL_law_388 ?_
    refine zr_sls hx hb hXs hbl hbA hS hL (by omega) dL_law_389 ?_
    refine lv_aload_n hx hb dL_law_390 rfl (lv_at hl 5 rfl) ?_
    refine lv_iload hx hb dL_law_391 (lv_at hl 1 rfl) ?_
    refine zr_iconst hx hb dL_law_393 ?_
    refine zr_iadd hx hb dL_law_394 ?_
    refine zr_sls hx hb hXs hbl hbA hS hL (by omega) dL_law_395 ?_
    refine zc_ij (w := zmod cs q A S V xm xth xam f xl xpl gr) (wr := zest cs o A T S0 S1 S2 S3 xm f xl g xk xn xd xe ++ [(ou, .inl (cs 2, 1, .inr (.inl (zAL gu))))]) (va_runV (As := [.int (zI (zX xs (xi + 1))), .int (zI (zX xs (xi + 2))), .int (zI (zX xs (xi + 3)))]) (rest := []) ⟨hx, hb, hml, hown, hts⟩ (met_X6_setCurve_no1 l D cs q H.size A S V xm xth xam f xl xpl gr n (zX xs (xi + 1)) (zX xs (xi + 2)) (zX xs (xi + 3)) (by exact hI9.1) (by omega) (by exact hI9.2.1) (zX_r xs _) (zX_r xs _) (zX_r xs _) hc9) (cwV 3 hts gL_law_X6_setCurve rfl rfl rfl (by decide +kernel) ⟨(Nat.le_of_ble_eq_true rfl), (Nat.le_of_ble_eq_true rfl)⟩) ⟨zPreZ.blind, va_recv hK hP (ci := 6) (q0 := 48) rfl rfl, fun U hU hW => zp_Z (hP.sub (ws' := zmod cs q A S V xm xth xam f xl xpl gr) [48, 49, 50, 51, 52, 53] rfl) hK (hD.sub (ws' := zmod cs q A S V xm xth xam f xl xpl gr) [48, 49, 50, 51, 52, 53] (by decide) rfl) hN hU hW⟩ rfl rfl hl.1 rfl (lv_room (Nat.le_of_ble_eq_true rfl)) dL_law_396 ⟨by show cells + 1 + 0 ≤ 601024; omega, by show slots + 6 + 0 ≤ 7293034; omega⟩) hS hP hD hA [48, 49, 50, 51, 52, 53] [0, 1, 2, 3, 4, 5, 6, 7, 8, 9, 10, 11, 12, 13, 14, 15, 16, 17, 18, 19, 20, 21, 22, 23, 24, 25, 26, 27, 28, 29, 30, 31, 32, 33, 34, 35, 36, 37, 38, 39, 40, 41, 42, 43, 44, 45, 46, 47, 54] rfl rfl (by decide) (by decide) (fun H locs hP hD hS => ?_)
    have hP : va_P D vwCl (zest cs o A T S0 S1 S2 S3 xm f xl g xk xn xd xe ++ (zmod cs q A S V xm 1 xam f xl xpl gr ++ [(ou, .inl (cs 2, 1, .inr (.inl (zAL gu))))])) H := zP_perm hP zPe_m
    have hD : va_D (fun z => s.heap.size ≤ z) (zest cs o A T S0 S1 S2 S3 xm f xl g xk xn xd xe ++ (zmod cs q A S V xm 1 xam f xl xpl gr ++ [(ou, .inl (cs 2, 1, .inr (.inl (zAL gu))))])) := zD_perm hD zPe_m
    refine lv_istore (lv' := [(6, .int (zI 0)), (5, .int (zI 1)), (4, .int (zI xi)), (3, .ref ou), (2, .ref (q 0)), (1, .ref (o 0 0)), (0, .ref b)]) hx hb dL_law_399 hl (by decide) rfl (fun ls hl => ?_)
    refine lv_aload_n hx hb dL_law_401 rfl (lv_at hl 4 rfl) ?_
    refine zc_ri (va_runV (As := []) (rest := []) ⟨hx, hb, hml, hown, hts⟩ (met_X6_thrown l D cs q A S V xm 1 xam f xl xpl gr) (cwV 0 hts gL_law_X6_thrown rfl rfl rfl (by decide +kernel) ⟨(Nat.le_of_ble_eq_true rfl), (Nat.le_of_ble_eq_true rfl)⟩) ⟨zPre.blind, va_recv hK hP (ci := 6) (q0 := 48) rfl rfl, fun U hU hW => zp_R (hP.sub (ws' := zmod cs q A S V xm 1 xam f xl xpl gr) [48, 49, 50, 51, 52, 53] rfl) hK (hD.sub (ws' := zmod cs q A S V xm 1 xam f xl xpl gr) [48, 49, 50, 51, 52, 53] (by decide) rfl) hN hU hW⟩ rfl rfl hl.1 rfl (lv_room (Nat.le_of_ble_eq_true rfl)) dL_law_402 ⟨by show cells + 1 + 0 + 0 ≤ 601024; omega, by show slots + 6 + 0 + 0 ≤ 7293034; omega⟩) ?_
    refine lv_iload hx hb dL_law_405 (lv_at hl 1 rfl) ?_
    refine zr_iceq (tgt := 412) hx hb dL_law_407 (by decide) ?_
    refine lv_iload hx hb dL_law_412 (lv_at hl 1 rfl) ?_
    refine zr_if_ne (tgt := 429) hx hb dL_law_414 (by decide) (by decide) (fun _ => ?_) (fun h9 => absurd h9 (by decide))
    refine lv_goto (tgt := 1683) hx hb dL_law_429 (by decide) ?_
    refine W.widen (k := cells + 1) (n := slots + 6) (by show cells + 1 + 0 ≤ cells + 1; omega) (by show slots + 6 + 0 ≤ slots + 6; omega) ?_
    exact kk o q n A T S0 S1 S2 S3 S V xm f xl g xk xn xd xe 1 xam xpl gr gu (by exact hI9) (by omega) H locs hP hD hS ls (lv_sub hl [2, 3, 4, 5, 6] rfl)
  have hcB := hc9
  have hc9 : (0 ≤ (zX xs (xi + 1)) ∧ (zX xs (xi + 1)) ≤ 10) ∧ ¬ ((2000 ≤ (zX xs (xi + 2)) ∧ (zX xs (xi + 2)) ≤ 5000) ∧ ((zX xs (xi + 2)) ≤ (zX xs (xi + 3)) ∧ (zX xs (xi + 3)) ≤ 5000) ∧ (((zX xs (xi + 1)) = 0 ∨ A (12 + (zX xs (xi + 1)) - 1) < (zX xs (xi + 2))) ∧ ((zX xs (xi + 1)) = 10 ∨ (zX xs (xi + 2)) < A (12 + (zX xs (xi + 1)) + 1))) ∧ (((zX xs (xi + 1)) = 0 ∨ A (23 + (zX xs (xi + 1)) - 1) < (zX xs (xi + 3))) ∧ ((zX xs (xi + 1)) = 10 ∨ (zX xs (xi + 3)) < A (23 + (zX xs (xi + 1)) + 1)))) := ⟨Decidable.not_not.mp hcB, fun h => hcA ⟨Decidable.not_not.mp hcB, h⟩⟩
  refine lv_aload_n hx hb dL_law_352 rfl (lv_at hl 3 rfl) ?_
  refine lv_aload_n hx hb dL_law_353 rfl (lv_at hl 4 rfl) ?_
  refine lv_iload hx hb dL_law_354 (lv_at hl 0 rfl) ?_
  refine zr_iconst hx hb dL_law_356 ?_
  refine zr_iadd hx hb dL_law_357 ?_
  refine zr_sls hx hb hXs hbl hbA hS hL (by omega) dL_law_358 ?_
  refine lv_aload_n hx hb dL_law_359 rfl (lv_at hl 4 rfl) ?_
  refine lv_iload hx hb dL_law_360 (lv_at hl 0 rfl) ?_
  refine zr_iconst hx hb dL_law_362 ?_
  refine zr_iadd hx hb dL_law_363 ?_
  refine zr_sls hx hb hXs hbl hbA hS hL (by omega) dL_law_364 ?_
  refine lv_aload_n hx hb dL_law_365 rfl (lv_at hl 4 rfl) ?_
  refine lv_iload hx hb dL_law_366 (lv_at hl 0 rfl) ?_
  refine zr_iconst hx hb dL_law_368 ?_
  refine zr_iadd hx hb dL_law_369 ?_
  refine zr_sls hx hb hXs hbl hbA hS hL (by omega) dL_law_370 ?_
  refine lv_aload_n hx hb dL_law_371 rfl (lv_at hl 1 rfl) ?_
  refine zc_xk (vx_runSX (As := [.ref (o 0 0), .int (zI (zX xs (xi + 1))), .int (zI (zX xs (xi + 2))), .int (zI (zX xs (xi + 3))), .ref ou]) (rest := []) ⟨hx, hb, hml, hown, hts⟩ (met_L_setCurve_x2 l hfl D cs o ou gu A S0 S1 S2 S3 xm n (zX xs (xi + 1)) (zX xs (xi + 2)) (zX xs (xi + 3)) (by exact hI9.1) (by omega) (zX_r xs _) (zX_r xs _) (zX_r xs _) hc9) (vx_cwSW 5 hts gL_law_L_setCurve rfl rfl rfl (by decide +kernel) ⟨(Nat.le_of_ble_eq_true rfl), (Nat.le_of_ble_eq_true rfl)⟩) ⟨zPreU.blind, fun U hU hW => zp_U (hP.sub (ws' := [((o 0) 0, .inr (5, [.ref ((o 1) 0), .ref ((o 2) 0), .ref ((o 3) 0), .ref ((o 8) 0)]))] ++ (zbat cs (o 1) A ++ ([((o 3) 0, .inr (3, [.ref ((o 3) 1), .int (zI xm)])), ((o 3) 1, .inl (cs 3, 4, .inr (.inr (.inr (.inr (zR ((o 4) 0) ((o 5) 0) ((o 6) 0) ((o 7) 0)))))))] ++ (zbat cs (o 4) S0 ++ (zbat cs (o 5) S1 ++ (zbat cs (o 6) S2 ++ (zbat cs (o 7) S3 ++ [(ou, .inl (cs 2, 1, .inr (.inl (zAL gu))))]))))))) [0, 1, 2, 3, 4, 5, 6, 7, 15, 16, 17, 18, 19, 20, 21, 22, 23, 24, 25, 26, 27, 28, 29, 30, 31, 32, 33, 34, 35, 36, 37, 38, 39, 40, 41, 42, 43, 44, 54] rfl) hK (hD.sub (ws' := [((o 0) 0, .inr (5, [.ref ((o 1) 0), .ref ((o 2) 0), .ref ((o 3) 0), .ref ((o 8) 0)]))] ++ (zbat cs (o 1) A ++ ([((o 3) 0, .inr (3, [.ref ((o 3) 1), .int (zI xm)])), ((o 3) 1, .inl (cs 3, 4, .inr (.inr (.inr (.inr (zR ((o 4) 0) ((o 5) 0) ((o 6) 0) ((o 7) 0)))))))] ++ (zbat cs (o 4) S0 ++ (zbat cs (o 5) S1 ++ (zbat cs (o 6) S2 ++ (zbat cs (o 7) S3 ++ [(ou, .inl (cs 2, 1, .inr (.inl (zAL gu))))]))))))) [0, 1, 2, 3, 4, 5, 6, 7, 15, 16, 17, 18, 19, 20, 21, 22, 23, 24, 25, 26, 27, 28, 29, 30, 31, 32, 33, 34, 35, 36, 37, 38, 39, 40, 41, 42, 43, 44, 54] (by decide) rfl) hN (hG.at hS) hC hU hW⟩ rfl rfl hl.1 rfl (lv_room (Nat.le_of_ble_eq_true rfl)) dL_law_372 ⟨by show cells + 1 ≤ 601024; omega, by show slots + 6 ≤ 7293034; omega⟩) hS hP (fun H locs hP hS => ?_)
  refine lv_istore (lv' := [(5, .int (zI 2)), (4, .int (zI xi)), (3, .ref ou), (2, .ref (q 0)), (1, .ref (o 0 0)), (0, .ref b)]) hx hb dL_law_375 hl (by decide) rfl (fun ls hl => ?_)
  refine lv_aload_n hx hb dL_law_377 rfl (lv_at hl 3 rfl) ?_
  refine lv_aload_n hx hb dL_law_378 rfl (lv_at hl 5 rfl) ?_
  refine lv_iload hx hb dL_law_379 (lv_at hl 1 rfl) ?_
  refine zr_iconst hx hb dL_law_381 ?_
  refine zr_iadd hx hb dL_law_382 ?_
  refine zr_sls hx hb hXs hbl hbA hS hL (by omega) dL_law_383 ?_
  refine lv_aload_n hx hb dL_law_384 rfl (lv_at hl 5 rfl) ?_
  refine lv_iload hx hb dL_law_385 (lv_at hl 1 rfl) ?_
  refine zr_iconst hx hb dL_law_387 ?_
  refine zr_iadd hx hb dL_law_388 ?_
  refine zr_sls hx hb hXs hbl hbA hS hL (by omega) dL_law_389 ?_
  refine lv_aload_n hx hb dL_law_390 rfl (lv_at hl 5 rfl) ?_
  refine lv_iload hx hb dL_law_391 (lv_at hl 1 rfl) ?_
  refine zr_iconst hx hb dL_law_393 ?_
  refine zr_iadd hx hb dL_law_394 ?_
  refine zr_sls hx hb hXs hbl hbA hS hL (by omega) dL_law_395 ?_
  refine zc_ij (w := zmod cs q A S V xm xth xam f xl xpl gr) (wr := zest cs o A T S0 S1 S2 S3 xm f xl g xk xn xd xe ++ [(ou, .inl (cs 2, 1, .inr (.inl (zAL gu))))]) (va_runV (As := [.int (zI (zX xs (xi + 1))), .int (zI (zX xs (xi + 2))), .int (zI (zX xs (xi + 3)))]) (rest := []) ⟨hx, hb, hml, hown, hts⟩ (met_X6_setCurve_no2 l D cs q H.size A S V xm xth xam f xl xpl gr n (zX xs (xi + 1)) (zX xs (xi + 2)) (zX xs (xi + 3)) (by exact hI9.1) (by omega) (by exact hI9.2.1) (zX_r xs _) (zX_r xs _) (zX_r xs _) hc9) (cwV 3 hts gL_law_X6_setCurve rfl rfl rfl (by decide +kernel) ⟨(Nat.le_of_ble_eq_true rfl), (Nat.le_of_ble_eq_true rfl)⟩) ⟨zPreZ.blind, va_recv hK hP (ci := 6) (q0 := 48) rfl rfl, fun U hU hW => zp_Z (hP.sub (ws' := zmod cs q A S V xm xth xam f xl xpl gr) [48, 49, 50, 51, 52, 53] rfl) hK (hD.sub (ws' := zmod cs q A S V xm xth xam f xl xpl gr) [48, 49, 50, 51, 52, 53] (by decide) rfl) hN hU hW⟩ rfl rfl hl.1 rfl (lv_room (Nat.le_of_ble_eq_true rfl)) dL_law_396 ⟨by show cells + 1 + 0 ≤ 601024; omega, by show slots + 6 + 0 ≤ 7293034; omega⟩) hS hP hD hA [48, 49, 50, 51, 52, 53] [0, 1, 2, 3, 4, 5, 6, 7, 8, 9, 10, 11, 12, 13, 14, 15, 16, 17, 18, 19, 20, 21, 22, 23, 24, 25, 26, 27, 28, 29, 30, 31, 32, 33, 34, 35, 36, 37, 38, 39, 40, 41, 42, 43, 44, 45, 46, 47, 54] rfl rfl (by decide) (by decide) (fun H locs hP hD hS => ?_)
  have hP : va_P D vwCl (zest cs o A T S0 S1 S2 S3 xm f xl g xk xn xd xe ++ (zmod cs q A S V xm 2 xam f xl xpl gr ++ [(ou, .inl (cs 2, 1, .inr (.inl (zAL gu))))])) H := zP_perm hP zPe_m
  have hD : va_D (fun z => s.heap.size ≤ z) (zest cs o A T S0 S1 S2 S3 xm f xl g xk xn xd xe ++ (zmod cs q A S V xm 2 xam f xl xpl gr ++ [(ou, .inl (cs 2, 1, .inr (.inl (zAL gu))))])) := zD_perm hD zPe_m
  refine lv_istore (lv' := [(6, .int (zI 0)), (5, .int (zI 2)), (4, .int (zI xi)), (3, .ref ou), (2, .ref (q 0)), (1, .ref (o 0 0)), (0, .ref b)]) hx hb dL_law_399 hl (by decide) rfl (fun ls hl => ?_)
  refine lv_aload_n hx hb dL_law_401 rfl (lv_at hl 4 rfl) ?_
  refine zc_ri (va_runV (As := []) (rest := []) ⟨hx, hb, hml, hown, hts⟩ (met_X6_thrown l D cs q A S V xm 2 xam f xl xpl gr) (cwV 0 hts gL_law_X6_thrown rfl rfl rfl (by decide +kernel) ⟨(Nat.le_of_ble_eq_true rfl), (Nat.le_of_ble_eq_true rfl)⟩) ⟨zPre.blind, va_recv hK hP (ci := 6) (q0 := 48) rfl rfl, fun U hU hW => zp_R (hP.sub (ws' := zmod cs q A S V xm 2 xam f xl xpl gr) [48, 49, 50, 51, 52, 53] rfl) hK (hD.sub (ws' := zmod cs q A S V xm 2 xam f xl xpl gr) [48, 49, 50, 51, 52, 53] (by decide) rfl) hN hU hW⟩ rfl rfl hl.1 rfl (lv_room (Nat.le_of_ble_eq_true rfl)) dL_law_402 ⟨by show cells + 1 + 0 + 0 ≤ 601024; omega, by show slots + 6 + 0 + 0 ≤ 7293034; omega⟩) ?_
  refine lv_iload hx hb dL_law_405 (lv_at hl 1 rfl) ?_
  refine zr_iceq (tgt := 412) hx hb dL_law_407 (by decide) ?_
  refine lv_iload hx hb dL_law_412 (lv_at hl 1 rfl) ?_
  refine zr_if_ne (tgt := 429) hx hb dL_law_414 (by decide) (by decide) (fun _ => ?_) (fun h9 => absurd h9 (by decide))
  refine lv_goto (tgt := 1683) hx hb dL_law_429 (by decide) ?_
  refine W.widen (k := cells + 1) (n := slots + 6) (by show cells + 1 + 0 ≤ cells + 1; omega) (by show slots + 6 + 0 ≤ slots + 6; omega) ?_
  exact kk o q n A T S0 S1 S2 S3 S V xm f xl g xk xn xd xe 2 xam xpl gr gu (by exact hI9) (by omega) H locs hP hD hS ls (lv_sub hl [2, 3, 4, 5, 6] rfl)
/-! the law: curve -/
set_option maxHeartbeats 8000000 in
set_option maxRecDepth 100000 in
theorem law_curve {p : Program} {e : Env} {s : State} {m : MethodId} {below : List Frame} {meth : Method} {c : Code} {b L : Nat} {xs : Nat → Int32} {Q : State → Prop} (l : Launch) (hfl : l.stackTraces = false) (D : va_G) (cs : Nat → ClassId) (hx : p.tables.exec = Jvm.exec) (hb : c.code = cL_law) (hml : c.maxLocals = 9) (hown : s.vm.findClass RL = some m.cls) (hts : ∀ w ∈ wsL_law, w.before #[Value.ref b] s = true) (hK : va_K D vwCl (zTy cs) s) (hN : zNW s) (hG : zXG s) (hC : zNcP s) (hO : va_AO RX1 s) (hL : L ≤ 2560) (hXs : va_X b L xs s s.heap) (hbl : b < s.heap.size) (xi : Int) (hxi : 0 ≤ xi ∧ xi + 5 ≤ L) (cells slots : Nat) (hcl : cells + 1 ≤ 601024 ∧ slots + 6 ≤ 7293034) (ou : Nat) (o : Nat → Nat → Nat) (q : Nat → Nat) (n : Int) (A T S0 S1 S2 S3 S V : Int → Int) (xm : Int) (f : Int → Int) (xl : Int) (g : Int → Int) (xk xn xd xe xth xam xpl : Int) (gr gu : Int → Int) (hI9 : zInL n A S0 S1 S2 S3 S xm f xl) (hn9 : 0 ≤ n ∧ n ≤ 1200 * xi) (H : Heap) (locs : List Loc) (hP : va_P D vwCl (zest cs o A T S0 S1 S2 S3 xm f xl g xk xn xd xe ++ (zmod cs q A S V xm xth xam f xl xpl gr ++ [(ou, .inl (cs 2, 1, .inr (.inl (zAL gu))))])) H) (hD : va_D (fun z => s.heap.size ≤ z) (zest cs o A T S0 S1 S2 S3 xm f xl g xk xn xd xe ++ (zmod cs q A S V xm xth xam f xl xpl gr ++ [(ou, .inl (cs 2, 1, .inr (.inl (zAL gu))))]))) (hS : va_S (fun z => s.heap.size ≤ z) s.heap H locs) (ls : Array Slot) (hl : lv_has ls 9 [(4, .int (zI xi)), (3, .ref ou), (2, .ref (q 0)), (1, .ref (o 0 0)), (0, .ref b)]) (kk : ∀ (o : Nat → Nat → Nat) (q : Nat → Nat) (n : Int) (A T S0 S1 S2 S3 S V : Int → Int) (xm : Int) (f : Int → Int) (xl : Int) (g : Int → Int) (xk xn xd xe xth xam xpl : Int) (gr gu : Int → Int), zInL n A S0 S1 S2 S3 S xm f xl → (0 ≤ n ∧ n ≤ 1200 * (xi + 5)) → ∀ (H : Heap) (locs : List Loc), va_P D vwCl (zest cs o A T S0 S1 S2 S3 xm f xl g xk xn xd xe ++ (zmod cs q A S V xm xth xam f xl xpl gr ++ [(ou, .inl (cs 2, 1, .inr (.inl (zAL gu))))])) H → va_D (fun z => s.heap.size ≤ z) (zest cs o A T S0 S1 S2 S3 xm f xl g xk xn xd xe ++ (zmod cs q A S V xm xth xam f xl xpl gr ++ [(ou, .inl (cs 2, 1, .inr (.inl (zAL gu))))])) → va_S (fun z => s.heap.size ≤ z) s.heap H locs → ∀ ls : Array Slot, lv_has ls 9 [(4, .int (zI xi)), (3, .ref ou), (2, .ref (q 0)), (1, .ref (o 0 0)), (0, .ref b)] → W p l e room_1 s m #[Value.ref b] below meth c H locs (cells + 1) (slots + 6) Q (F0 m 1683 ls [])) : W p l e room_1 s m #[Value.ref b] below meth c H locs cells slots Q (F0 m 432 ls []) := by
  have hcl1 := hcl.1
  have hcl2 := hcl.2
  have hA : ∀ z : Nat, s.heap.size ≤ z → s.heap.size ≤ z := fun _ h => h
  have hbA : ¬ (s.heap.size ≤ b) := Nat.not_le.mpr hbl
  have hr1 := zX_r xs (xi + 1)
  have hr2 := zX_r xs (xi + 2)
  by_cases htv : zX xs (xi + 2) = 0
  · by_cases hc9 : 0 ≤ (zX xs (xi + 1)) ∧ (zX xs (xi + 1)) ≤ 10
    · refine lv_aload_n hx hb dL_law_432 rfl (lv_at hl 3 rfl) ?_
      refine lv_aload_n hx hb dL_law_433 rfl (lv_at hl 4 rfl) ?_
      refine lv_iload hx hb dL_law_434 (lv_at hl 0 rfl) ?_
      refine zr_iconst hx hb dL_law_436 ?_
      refine zr_iadd hx hb dL_law_437 ?_
      refine zr_sls hx hb hXs hbl hbA hS hL (by omega) dL_law_438 ?_
      refine lv_aload_n hx hb dL_law_439 rfl (lv_at hl 4 rfl) ?_
      refine lv_iload hx hb dL_law_440 (lv_at hl 0 rfl) ?_
      refine zr_iconst hx hb dL_law_442 ?_
      refine zr_iadd hx hb dL_law_443 ?_
      refine zr_sls hx hb hXs hbl hbA hS hL (by omega) dL_law_444 ?_
      refine zr_if_eq (tgt := 452) hx hb dL_law_445 (by decide) (by omega) (fun _ => ?_) (fun h9 => absurd htv h9)
      refine zr_iconst hx hb dL_law_452 ?_
      refine lv_aload_n hx hb dL_law_453 rfl (lv_at hl 1 rfl) ?_
      refine zc_xi (w := [((o 0) 0, .inr (5, [.ref ((o 1) 0), .ref ((o 2) 0), .ref ((o 3) 0), .ref ((o 8) 0)]))] ++ (zbat cs (o 1) A ++ [(ou, .inl (cs 2, 1, .inr (.inl (zAL gu))))])) (wr := zbat cs (o 2) T ++ ([(o 3 0, .inr (3, [.ref (o 3 1), .int (zI xm)])), (o 3 1, .inl (cs 3, 4, .inr (.inr (.inr (.inr (zR (o 4 0) (o 5 0) (o 6 0) (o 7 0)))))))] ++ (zbat cs (o 4) S0 ++ (zbat cs (o 5) S1 ++ (zbat cs (o 6) S2 ++ (zbat cs (o 7) S3 ++ (ztxt cs (o 8) f xl g xk xn xd xe ++ (zmod cs q A S V xm xth xam f xl xpl gr)))))))) (vx_runSX (As := [.ref (o 0 0), .int (zI (zX xs (xi + 1))), .int (zI (zB (False))), .ref ou]) (rest := []) ⟨hx, hb, hml, hown, hts⟩ (met_L_curve_ok l D cs o ou gu H.size A (zX xs (xi + 1)) False (zX_r xs _) hc9) (vx_cwSW 4 hts gL_law_L_curve rfl rfl rfl (by decide +kernel) ⟨(Nat.le_of_ble_eq_true rfl), (Nat.le_of_ble_eq_true rfl)⟩) ⟨zPreZ.blind, fun U hU hW => zp_Z (hP.sub (ws' := [((o 0) 0, .inr (5, [.ref ((o 1) 0), .ref ((o 2) 0), .ref ((o 3) 0), .ref ((o 8) 0)]))] ++ (zbat cs (o 1) A ++ [(ou, .inl (cs 2, 1, .inr (.inl (zAL gu))))])) [0, 1, 2, 3, 4, 5, 6, 7, 54] rfl) hK (hD.sub (ws' := [((o 0) 0, .inr (5, [.ref ((o 1) 0), .ref ((o 2) 0), .ref ((o 3) 0), .ref ((o 8) 0)]))] ++ (zbat cs (o 1) A ++ [(ou, .inl (cs 2, 1, .inr (.inl (zAL gu))))])) [0, 1, 2, 3, 4, 5, 6, 7, 54] (by decide) rfl) hN hU hW⟩ rfl rfl hl.1 rfl (lv_room (Nat.le_of_ble_eq_true rfl)) dL_law_454 ⟨by show cells + 0 ≤ 601024; omega, by show slots + 0 ≤ 7293034; omega⟩) hS hP hD hA [0, 1, 2, 3, 4, 5, 6, 7, 54] [8, 9, 10, 11, 12, 13, 14, 15, 16, 17, 18, 19, 20, 21, 22, 23, 24, 25, 26, 27, 28, 29, 30, 31, 32, 33, 34, 35, 36, 37, 38, 39, 40, 41, 42, 43, 44, 45, 46, 47, 48, 49, 50, 51, 52, 53] rfl rfl (by decide) (by decide) (fun H locs hP hD hS => ?_)
      have hP : va_P D vwCl (zest cs o A T S0 S1 S2 S3 xm f xl g xk xn xd xe ++ (zmod cs q A S V xm xth xam f xl xpl gr ++ [(ou, .inl (cs 2, 1, .inr (.inl (zAL (zU gu 0 (zW (zCu A (zX xs (xi + 1)) False)))))))])) H := zP_perm hP zPe_B
      have hD : va_D (fun z => s.heap.size ≤ z) (zest cs o A T S0 S1 S2 S3 xm f xl g xk xn xd xe ++ (zmod cs q A S V xm xth xam f xl xpl gr ++ [(ou, .inl (cs 2, 1, .inr (.inl (zAL (zU gu 0 (zW (zCu A (zX xs (xi + 1)) False)))))))])) := zD_perm hD zPe_B
      refine lv_istore (lv' := [(5, .int (zI 0)), (4, .int (zI xi)), (3, .ref ou), (2, .ref (q 0)), (1, .ref (o 0 0)), (0, .ref b)]) hx hb dL_law_457 hl (by decide) rfl (fun ls hl => ?_)
      refine lv_aload_n hx hb dL_law_459 rfl (lv_at hl 3 rfl) ?_
      refine lv_aload_n hx hb dL_law_460 rfl (lv_at hl 5 rfl) ?_
      refine lv_iload hx hb dL_law_461 (lv_at hl 1 rfl) ?_
      refine zr_iconst hx hb dL_law_463 ?_
      refine zr_iadd hx hb dL_law_464 ?_
      refine zr_sls hx hb hXs hbl hbA hS hL (by omega) dL_law_465 ?_
      refine lv_aload_n hx hb dL_law_466 rfl (lv_at hl 5 rfl) ?_
      refine lv_iload hx hb dL_law_467 (lv_at hl 1 rfl) ?_
      refine zr_iconst hx hb dL_law_469 ?_
      refine zr_iadd hx hb dL_law_470 ?_
      refine zr_sls hx hb hXs hbl hbA hS hL (by omega) dL_law_471 ?_
      refine zr_if_eq (tgt := 479) hx hb dL_law_472 (by decide) (by omega) (fun _ => ?_) (fun h9 => absurd htv h9)
      refine zr_iconst hx hb dL_law_479 ?_
      refine zc_ij (w := zmod cs q A S V xm xth xam f xl xpl gr) (wr := zest cs o A T S0 S1 S2 S3 xm f xl g xk xn xd xe ++ [(ou, .inl (cs 2, 1, .inr (.inl (zAL (zU gu 0 (zW (zCu A (zX xs (xi + 1)) False)))))))]) (va_runV (As := [.int (zI (zX xs (xi + 1))), .int (zI (zB (False)))]) (rest := []) ⟨hx, hb, hml, hown, hts⟩ (met_X6_curve_ok l D cs q H.size A S V xm xth xam f xl xpl gr (zX xs (xi + 1)) False (zX_r xs _) hc9) (cwV 2 hts gL_law_X6_curve rfl rfl rfl (by decide +kernel) ⟨(Nat.le_of_ble_eq_true rfl), (Nat.le_of_ble_eq_true rfl)⟩) ⟨zPreZ.blind, va_recv hK hP (ci := 6) (q0 := 48) rfl rfl, fun U hU hW => zp_Z (hP.sub (ws' := zmod cs q A S V xm xth xam f xl xpl gr) [48, 49, 50, 51, 52, 53] rfl) hK (hD.sub (ws' := zmod cs q A S V xm xth xam f xl xpl gr) [48, 49, 50, 51, 52, 53] (by decide) rfl) hN hU hW⟩ rfl rfl hl.1 rfl (lv_room (Nat.le_of_ble_eq_true rfl)) dL_law_480 ⟨by show cells + 0 + 0 ≤ 601024; omega, by show slots + 0 + 0 ≤ 7293034; omega⟩) hS hP hD hA [48, 49, 50, 51, 52, 53] [0, 1, 2, 3, 4, 5, 6, 7, 8, 9, 10, 11, 12, 13, 14, 15, 16, 17, 18, 19, 20, 21, 22, 23, 24, 25, 26, 27, 28, 29, 30, 31, 32, 33, 34, 35, 36, 37, 38, 39, 40, 41, 42, 43, 44, 45, 46, 47, 54] rfl rfl (by decide) (by decide) (fun H locs hP hD hS => ?_)
      have hP : va_P D vwCl (zest cs o A T S0 S1 S2 S3 xm f xl g xk xn xd xe ++ (zmod cs q A S V xm 0 xam f xl xpl gr ++ [(ou, .inl (cs 2, 1, .inr (.inl (zAL (zU gu 0 (zW (zCu A (zX xs (xi + 1)) False)))))))])) H := zP_perm hP zPe_m
      have hD : va_D (fun z => s.heap.size ≤ z) (zest cs o A T S0 S1 S2 S3 xm f xl g xk xn xd xe ++ (zmod cs q A S V xm 0 xam f xl xpl gr ++ [(ou, .inl (cs 2, 1, .inr (.inl (zAL (zU gu 0 (zW (zCu A (zX xs (xi + 1)) False)))))))])) := zD_perm hD zPe_m
      refine lv_istore (lv' := [(6, .int (zI (zCu A (zX xs (xi + 1)) False))), (5, .int (zI 0)), (4, .int (zI xi)), (3, .ref ou), (2, .ref (q 0)), (1, .ref (o 0 0)), (0, .ref b)]) hx hb dL_law_483 hl (by decide) rfl (fun ls hl => ?_)
      refine lv_aload_n hx hb dL_law_485 rfl (lv_at hl 4 rfl) ?_
      refine zc_ri (va_runV (As := []) (rest := []) ⟨hx, hb, hml, hown, hts⟩ (met_X6_thrown l D cs q A S V xm 0 xam f xl xpl gr) (cwV 0 hts gL_law_X6_thrown rfl rfl rfl (by decide +kernel) ⟨(Nat.le_of_ble_eq_true rfl), (Nat.le_of_ble_eq_true rfl)⟩) ⟨zPre.blind, va_recv hK hP (ci := 6) (q0 := 48) rfl rfl, fun U hU hW => zp_R (hP.sub (ws' := zmod cs q A S V xm 0 xam f xl xpl gr) [48, 49, 50, 51, 52, 53] rfl) hK (hD.sub (ws' := zmod cs q A S V xm 0 xam f xl xpl gr) [48, 49, 50, 51, 52, 53] (by decide) rfl) hN hU hW⟩ rfl rfl hl.1 rfl (lv_room (Nat.le_of_ble_eq_true rfl)) dL_law_486 ⟨by show cells + 0 + 0 + 0 ≤ 601024; omega, by show slots + 0 + 0 + 0 ≤ 7293034; omega⟩) ?_
      refine lv_iload hx hb dL_law_489 (lv_at hl 1 rfl) ?_
      refine zr_iceq (tgt := 496) hx hb dL_law_491 (by decide) ?_
      refine lv_iload hx hb dL_law_496 (lv_at hl 1 rfl) ?_
      refine zr_if_ne (tgt := 513) hx hb dL_law_498 (by decide) (by decide) (fun h9 => absurd h9 (by decide)) (fun _ => ?_)
      refine lv_aload_n hx hb dL_law_501 rfl (lv_at hl 3 rfl) ?_
      refine zr_iconst hx hb dL_law_502 ?_
      refine zr_lald (D := D) (g := zU gu 0 (zW (zCu A (zX xs (xi + 1)) False))) hx hb hK hP 54 2 rfl rfl (by decide) (by decide) dL_law_503 ?_
      rw [show (zU gu 0 (zW (zCu A (zX xs (xi + 1)) False))) 0 = zW (zCu A (zX xs (xi + 1)) False) from rfl]
      refine lv_iload hx hb dL_law_504 (lv_at hl 0 rfl) ?_
      refine lv_i2l hx hb dL_law_506 (zW_l (zCu A (zX xs (xi + 1)) False)) ?_
      refine zr_lceq (tgt := 513) hx hb dL_law_507 dL_law_508 (by decide) ?_
      refine lv_goto (tgt := 1683) hx hb dL_law_513 (by decide) ?_
      refine W.widen (k := cells + 1) (n := slots + 6) (by show cells + 0 + 0 ≤ cells + 1; omega) (by show slots + 0 + 0 ≤ slots + 6; omega) ?_
      exact kk o q n A T S0 S1 S2 S3 S V xm f xl g xk xn xd xe 0 xam xpl gr (zU gu 0 (zW (zCu A (zX xs (xi + 1)) False))) (by exact hI9) (by omega) H locs hP hD hS ls (lv_sub hl [2, 3, 4, 5, 6] rfl)
    replace hc9 := hc9
    refine lv_aload_n hx hb dL_law_432 rfl (lv_at hl 3 rfl) ?_
    refine lv_aload_n hx hb dL_law_433 rfl (lv_at hl 4 rfl) ?_
    refine lv_iload hx hb dL_law_434 (lv_at hl 0 rfl) ?_
    refine zr_iconst hx hb dL_law_436 ?_
    refine zr_iadd hx hb dL_law_437 ?_
    refine zr_sls hx hb hXs hbl hbA hS hL (by omega) dL_law_438 ?_
    refine lv_aload_n hx hb dL_law_439 rfl (lv_at hl 4 rfl) ?_
    refine lv_iload hx hb dL_law_440 (lv_at hl 0 rfl) ?_
    refine zr_iconst hx hb dL_law_442 ?_
    refine zr_iadd hx hb dL_law_443 ?_
    refine zr_sls hx hb hXs hbl hbA hS hL (by omega) dL_law_444 ?_
    refine zr_if_eq (tgt := 452) hx hb dL_law_445 (by decide) (by omega) (fun _ => ?_) (fun h9 => absurd htv h9)
    refine zr_iconst hx hb dL_law_452 ?_
    refine lv_aload_n hx hb dL_law_453 rfl (lv_at hl 1 rfl) ?_
    refine zc_xk (vx_runSX (As := [.ref (o 0 0), .int (zI (zX xs (xi + 1))), .int (zI (zB (False))), .ref ou]) (rest := []) ⟨hx, hb, hml, hown, hts⟩ (met_L_curve_x l hfl D cs o ou gu A (zX xs (xi + 1)) False (zX_r xs _) hc9) (vx_cwSW 4 hts gL_law_L_curve rfl rfl rfl (by decide +kernel) ⟨(Nat.le_of_ble_eq_true rfl), (Nat.le_of_ble_eq_true rfl)⟩) ⟨zPreU.blind, fun U hU hW => zp_U (hP.sub (ws' := [((o 0) 0, .inr (5, [.ref ((o 1) 0), .ref ((o 2) 0), .ref ((o 3) 0), .ref ((o 8) 0)]))] ++ (zbat cs (o 1) A ++ [(ou, .inl (cs 2, 1, .inr (.inl (zAL gu))))])) [0, 1, 2, 3, 4, 5, 6, 7, 54] rfl) hK (hD.sub (ws' := [((o 0) 0, .inr (5, [.ref ((o 1) 0), .ref ((o 2) 0), .ref ((o 3) 0), .ref ((o 8) 0)]))] ++ (zbat cs (o 1) A ++ [(ou, .inl (cs 2, 1, .inr (.inl (zAL gu))))])) [0, 1, 2, 3, 4, 5, 6, 7, 54] (by decide) rfl) hN (hG.at hS) hC hU hW⟩ rfl rfl hl.1 rfl (lv_room (Nat.le_of_ble_eq_true rfl)) dL_law_454 ⟨by show cells + 1 ≤ 601024; omega, by show slots + 6 ≤ 7293034; omega⟩) hS hP (fun H locs hP hS => ?_)
    refine lv_istore (lv' := [(5, .int (zI 1)), (4, .int (zI xi)), (3, .ref ou), (2, .ref (q 0)), (1, .ref (o 0 0)), (0, .ref b)]) hx hb dL_law_457 hl (by decide) rfl (fun ls hl => ?_)
    refine lv_aload_n hx hb dL_law_459 rfl (lv_at hl 3 rfl) ?_
    refine lv_aload_n hx hb dL_law_460 rfl (lv_at hl 5 rfl) ?_
    refine lv_iload hx hb dL_law_461 (lv_at hl 1 rfl) ?_
    refine zr_iconst hx hb dL_law_463 ?_
    refine zr_iadd hx hb dL_law_464 ?_
    refine zr_sls hx hb hXs hbl hbA hS hL (by omega) dL_law_465 ?_
    refine lv_aload_n hx hb dL_law_466 rfl (lv_at hl 5 rfl) ?_
    refine lv_iload hx hb dL_law_467 (lv_at hl 1 rfl) ?_
    refine zr_iconst hx hb dL_law_469 ?_
    refine zr_iadd hx hb dL_law_470 ?_
    refine zr_sls hx hb hXs hbl hbA hS hL (by omega) dL_law_471 ?_
    refine zr_if_eq (tgt := 479) hx hb dL_law_472 (by decide) (by omega) (fun _ => ?_) (fun h9 => absurd htv h9)
    refine zr_iconst hx hb dL_law_479 ?_
    refine zc_ij (w := zmod cs q A S V xm xth xam f xl xpl gr) (wr := zest cs o A T S0 S1 S2 S3 xm f xl g xk xn xd xe ++ [(ou, .inl (cs 2, 1, .inr (.inl (zAL gu))))]) (va_runV (As := [.int (zI (zX xs (xi + 1))), .int (zI (zB (False)))]) (rest := []) ⟨hx, hb, hml, hown, hts⟩ (met_X6_curve_no1 l D cs q H.size A S V xm xth xam f xl xpl gr (zX xs (xi + 1)) False (zX_r xs _) hc9) (cwV 2 hts gL_law_X6_curve rfl rfl rfl (by decide +kernel) ⟨(Nat.le_of_ble_eq_true rfl), (Nat.le_of_ble_eq_true rfl)⟩) ⟨zPreZ.blind, va_recv hK hP (ci := 6) (q0 := 48) rfl rfl, fun U hU hW => zp_Z (hP.sub (ws' := zmod cs q A S V xm xth xam f xl xpl gr) [48, 49, 50, 51, 52, 53] rfl) hK (hD.sub (ws' := zmod cs q A S V xm xth xam f xl xpl gr) [48, 49, 50, 51, 52, 53] (by decide) rfl) hN hU hW⟩ rfl rfl hl.1 rfl (lv_room (Nat.le_of_ble_eq_true rfl)) dL_law_480 ⟨by show cells + 1 + 0 ≤ 601024; omega, by show slots + 6 + 0 ≤ 7293034; omega⟩) hS hP hD hA [48, 49, 50, 51, 52, 53] [0, 1, 2, 3, 4, 5, 6, 7, 8, 9, 10, 11, 12, 13, 14, 15, 16, 17, 18, 19, 20, 21, 22, 23, 24, 25, 26, 27, 28, 29, 30, 31, 32, 33, 34, 35, 36, 37, 38, 39, 40, 41, 42, 43, 44, 45, 46, 47, 54] rfl rfl (by decide) (by decide) (fun H locs hP hD hS => ?_)
    have hP : va_P D vwCl (zest cs o A T S0 S1 S2 S3 xm f xl g xk xn xd xe ++ (zmod cs q A S V xm 1 xam f xl xpl gr ++ [(ou, .inl (cs 2, 1, .inr (.inl (zAL gu))))])) H := zP_perm hP zPe_m
    have hD : va_D (fun z => s.heap.size ≤ z) (zest cs o A T S0 S1 S2 S3 xm f xl g xk xn xd xe ++ (zmod cs q A S V xm 1 xam f xl xpl gr ++ [(ou, .inl (cs 2, 1, .inr (.inl (zAL gu))))])) := zD_perm hD zPe_m
    refine lv_istore (lv' := [(6, .int (zI 0)), (5, .int (zI 1)), (4, .int (zI xi)), (3, .ref ou), (2, .ref (q 0)), (1, .ref (o 0 0)), (0, .ref b)]) hx hb dL_law_483 hl (by decide) rfl (fun ls hl => ?_)
    refine lv_aload_n hx hb dL_law_485 rfl (lv_at hl 4 rfl) ?_
    refine zc_ri (va_runV (As := []) (rest := []) ⟨hx, hb, hml, hown, hts⟩ (met_X6_thrown l D cs q A S V xm 1 xam f xl xpl gr) (cwV 0 hts gL_law_X6_thrown rfl rfl rfl (by decide +kernel) ⟨(Nat.le_of_ble_eq_true rfl), (Nat.le_of_ble_eq_true rfl)⟩) ⟨zPre.blind, va_recv hK hP (ci := 6) (q0 := 48) rfl rfl, fun U hU hW => zp_R (hP.sub (ws' := zmod cs q A S V xm 1 xam f xl xpl gr) [48, 49, 50, 51, 52, 53] rfl) hK (hD.sub (ws' := zmod cs q A S V xm 1 xam f xl xpl gr) [48, 49, 50, 51, 52, 53] (by decide) rfl) hN hU hW⟩ rfl rfl hl.1 rfl (lv_room (Nat.le_of_ble_eq_true rfl)) dL_law_486 ⟨by show cells + 1 + 0 + 0 ≤ 601024; omega, by show slots + 6 + 0 + 0 ≤ 7293034; omega⟩) ?_
    refine lv_iload hx hb dL_law_489 (lv_at hl 1 rfl) ?_
    refine zr_iceq (tgt := 496) hx hb dL_law_491 (by decide) ?_
    refine lv_iload hx hb dL_law_496 (lv_at hl 1 rfl) ?_
    refine zr_if_ne (tgt := 513) hx hb dL_law_498 (by decide) (by decide) (fun _ => ?_) (fun h9 => absurd h9 (by decide))
    refine lv_goto (tgt := 1683) hx hb dL_law_513 (by decide) ?_
    refine W.widen (k := cells + 1) (n := slots + 6) (by show cells + 1 + 0 ≤ cells + 1; omega) (by show slots + 6 + 0 ≤ slots + 6; omega) ?_
    exact kk o q n A T S0 S1 S2 S3 S V xm f xl g xk xn xd xe 1 xam xpl gr gu (by exact hI9) (by omega) H locs hP hD hS ls (lv_sub hl [2, 3, 4, 5, 6] rfl)
  have htv : ¬ zX xs (xi + 2) = 0 := htv
  by_cases hc9 : 0 ≤ (zX xs (xi + 1)) ∧ (zX xs (xi + 1)) ≤ 10
  · refine lv_aload_n hx hb dL_law_432 rfl (lv_at hl 3 rfl) ?_
    refine lv_aload_n hx hb dL_law_433 rfl (lv_at hl 4 rfl) ?_
    refine lv_iload hx hb dL_law_434 (lv_at hl 0 rfl) ?_
    refine zr_iconst hx hb dL_law_436 ?_
    refine zr_iadd hx hb dL_law_437 ?_
    refine zr_sls hx hb hXs hbl hbA hS hL (by omega) dL_law_438 ?_
    refine lv_aload_n hx hb dL_law_439 rfl (lv_at hl 4 rfl) ?_
    refine lv_iload hx hb dL_law_440 (lv_at hl 0 rfl) ?_
    refine zr_iconst hx hb dL_law_442 ?_
    refine zr_iadd hx hb dL_law_443 ?_
    refine zr_sls hx hb hXs hbl hbA hS hL (by omega) dL_law_444 ?_
    refine zr_if_eq (tgt := 452) hx hb dL_law_445 (by decide) (by omega) (fun h9 => absurd h9 htv) (fun _ => ?_)
    refine zr_iconst hx hb dL_law_448 ?_
    refine lv_goto (tgt := 453) hx hb dL_law_449 (by decide) ?_
    refine lv_aload_n hx hb dL_law_453 rfl (lv_at hl 1 rfl) ?_
    refine zc_xi (w := [((o 0) 0, .inr (5, [.ref ((o 1) 0), .ref ((o 2) 0), .ref ((o 3) 0), .ref ((o 8) 0)]))] ++ (zbat cs (o 1) A ++ [(ou, .inl (cs 2, 1, .inr (.inl (zAL gu))))])) (wr := zbat cs (o 2) T ++ ([(o 3 0, .inr (3, [.ref (o 3 1), .int (zI xm)])), (o 3 1, .inl (cs 3, 4, .inr (.inr (.inr (.inr (zR (o 4 0) (o 5 0) (o 6 0) (o 7 0)))))))] ++ (zbat cs (o 4) S0 ++ (zbat cs (o 5) S1 ++ (zbat cs (o 6) S2 ++ (zbat cs (o 7) S3 ++ (ztxt cs (o 8) f xl g xk xn xd xe ++ (zmod cs q A S V xm xth xam f xl xpl gr)))))))) (vx_runSX (As := [.ref (o 0 0), .int (zI (zX xs (xi + 1))), .int (zI (zB (True))), .ref ou]) (rest := []) ⟨hx, hb, hml, hown, hts⟩ (met_L_curve_ok l D cs o ou gu H.size A (zX xs (xi + 1)) True (zX_r xs _) hc9) (vx_cwSW 4 hts gL_law_L_curve rfl rfl rfl (by decide +kernel) ⟨(Nat.le_of_ble_eq_true rfl), (Nat.le_of_ble_eq_true rfl)⟩) ⟨zPreZ.blind, fun U hU hW => zp_Z (hP.sub (ws' := [((o 0) 0, .inr (5, [.ref ((o 1) 0), .ref ((o 2) 0), .ref ((o 3) 0), .ref ((o 8) 0)]))] ++ (zbat cs (o 1) A ++ [(ou, .inl (cs 2, 1, .inr (.inl (zAL gu))))])) [0, 1, 2, 3, 4, 5, 6, 7, 54] rfl) hK (hD.sub (ws' := [((o 0) 0, .inr (5, [.ref ((o 1) 0), .ref ((o 2) 0), .ref ((o 3) 0), .ref ((o 8) 0)]))] ++ (zbat cs (o 1) A ++ [(ou, .inl (cs 2, 1, .inr (.inl (zAL gu))))])) [0, 1, 2, 3, 4, 5, 6, 7, 54] (by decide) rfl) hN hU hW⟩ rfl rfl hl.1 rfl (lv_room (Nat.le_of_ble_eq_true rfl)) dL_law_454 ⟨by show cells + 0 ≤ 601024; omega, by show slots + 0 ≤ 7293034; omega⟩) hS hP hD hA [0, 1, 2, 3, 4, 5, 6, 7, 54] [8, 9, 10, 11, 12, 13, 14, 15, 16, 17, 18, 19, 20, 21, 22, 23, 24, 25, 26, 27, 28, 29, 30, 31, 32, 33, 34, 35, 36, 37, 38, 39, 40, 41, 42, 43, 44, 45, 46, 47, 48, 49, 50, 51, 52, 53] rfl rfl (by decide) (by decide) (fun H locs hP hD hS => ?_)
    have hP : va_P D vwCl (zest cs o A T S0 S1 S2 S3 xm f xl g xk xn xd xe ++ (zmod cs q A S V xm xth xam f xl xpl gr ++ [(ou, .inl (cs 2, 1, .inr (.inl (zAL (zU gu 0 (zW (zCu A (zX xs (xi + 1)) True)))))))])) H := zP_perm hP zPe_B
    have hD : va_D (fun z => s.heap.size ≤ z) (zest cs o A T S0 S1 S2 S3 xm f xl g xk xn xd xe ++ (zmod cs q A S V xm xth xam f xl xpl gr ++ [(ou, .inl (cs 2, 1, .inr (.inl (zAL (zU gu 0 (zW (zCu A (zX xs (xi + 1)) True)))))))])) := zD_perm hD zPe_B
    refine lv_istore (lv' := [(5, .int (zI 0)), (4, .int (zI xi)), (3, .ref ou), (2, .ref (q 0)), (1, .ref (o 0 0)), (0, .ref b)]) hx hb dL_law_457 hl (by decide) rfl (fun ls hl => ?_)
    refine lv_aload_n hx hb dL_law_459 rfl (lv_at hl 3 rfl) ?_
    refine lv_aload_n hx hb dL_law_460 rfl (lv_at hl 5 rfl) ?_
    refine lv_iload hx hb dL_law_461 (lv_at hl 1 rfl) ?_
    refine zr_iconst hx hb dL_law_463 ?_
    refine zr_iadd hx hb dL_law_464 ?_
    refine zr_sls hx hb hXs hbl hbA hS hL (by omega) dL_law_465 ?_
    refine lv_aload_n hx hb dL_law_466 rfl (lv_at hl 5 rfl) ?_
    refine lv_iload hx hb dL_law_467 (lv_at hl 1 rfl) ?_
    refine zr_iconst hx hb dL_law_469 ?_
    refine zr_iadd hx hb dL_law_470 ?_
    refine zr_sls hx hb hXs hbl hbA hS hL (by omega) dL_law_471 ?_
    refine zr_if_eq (tgt := 479) hx hb dL_law_472 (by decide) (by omega) (fun h9 => absurd h9 htv) (fun _ => ?_)
    refine zr_iconst hx hb dL_law_475 ?_
    refine lv_goto (tgt := 480) hx hb dL_law_476 (by decide) ?_
    refine zc_ij (w := zmod cs q A S V xm xth xam f xl xpl gr) (wr := zest cs o A T S0 S1 S2 S3 xm f xl g xk xn xd xe ++ [(ou, .inl (cs 2, 1, .inr (.inl (zAL (zU gu 0 (zW (zCu A (zX xs (xi + 1)) True)))))))]) (va_runV (As := [.int (zI (zX xs (xi + 1))), .int (zI (zB (True)))]) (rest := []) ⟨hx, hb, hml, hown, hts⟩ (met_X6_curve_ok l D cs q H.size A S V xm xth xam f xl xpl gr (zX xs (xi + 1)) True (zX_r xs _) hc9) (cwV 2 hts gL_law_X6_curve rfl rfl rfl (by decide +kernel) ⟨(Nat.le_of_ble_eq_true rfl), (Nat.le_of_ble_eq_true rfl)⟩) ⟨zPreZ.blind, va_recv hK hP (ci := 6) (q0 := 48) rfl rfl, fun U hU hW => zp_Z (hP.sub (ws' := zmod cs q A S V xm xth xam f xl xpl gr) [48, 49, 50, 51, 52, 53] rfl) hK (hD.sub (ws' := zmod cs q A S V xm xth xam f xl xpl gr) [48, 49, 50, 51, 52, 53] (by decide) rfl) hN hU hW⟩ rfl rfl hl.1 rfl (lv_room (Nat.le_of_ble_eq_true rfl)) dL_law_480 ⟨by show cells + 0 + 0 ≤ 601024; omega, by show slots + 0 + 0 ≤ 7293034; omega⟩) hS hP hD hA [48, 49, 50, 51, 52, 53] [0, 1, 2, 3, 4, 5, 6, 7, 8, 9, 10, 11, 12, 13, 14, 15, 16, 17, 18, 19, 20, 21, 22, 23, 24, 25, 26, 27, 28, 29, 30, 31, 32, 33, 34, 35, 36, 37, 38, 39, 40, 41, 42, 43, 44, 45, 46, 47, 54] rfl rfl (by decide) (by decide) (fun H locs hP hD hS => ?_)
    have hP : va_P D vwCl (zest cs o A T S0 S1 S2 S3 xm f xl g xk xn xd xe ++ (zmod cs q A S V xm 0 xam f xl xpl gr ++ [(ou, .inl (cs 2, 1, .inr (.inl (zAL (zU gu 0 (zW (zCu A (zX xs (xi + 1)) True)))))))])) H := zP_perm hP zPe_m
    have hD : va_D (fun z => s.heap.size ≤ z) (zest cs o A T S0 S1 S2 S3 xm f xl g xk xn xd xe ++ (zmod cs q A S V xm 0 xam f xl xpl gr ++ [(ou, .inl (cs 2, 1, .inr (.inl (zAL (zU gu 0 (zW (zCu A (zX xs (xi + 1)) True)))))))])) := zD_perm hD zPe_m
    refine lv_istore (lv' := [(6, .int (zI (zCu A (zX xs (xi + 1)) True))), (5, .int (zI 0)), (4, .int (zI xi)), (3, .ref ou), (2, .ref (q 0)), (1, .ref (o 0 0)), (0, .ref b)]) hx hb dL_law_483 hl (by decide) rfl (fun ls hl => ?_)
    refine lv_aload_n hx hb dL_law_485 rfl (lv_at hl 4 rfl) ?_
    refine zc_ri (va_runV (As := []) (rest := []) ⟨hx, hb, hml, hown, hts⟩ (met_X6_thrown l D cs q A S V xm 0 xam f xl xpl gr) (cwV 0 hts gL_law_X6_thrown rfl rfl rfl (by decide +kernel) ⟨(Nat.le_of_ble_eq_true rfl), (Nat.le_of_ble_eq_true rfl)⟩) ⟨zPre.blind, va_recv hK hP (ci := 6) (q0 := 48) rfl rfl, fun U hU hW => zp_R (hP.sub (ws' := zmod cs q A S V xm 0 xam f xl xpl gr) [48, 49, 50, 51, 52, 53] rfl) hK (hD.sub (ws' := zmod cs q A S V xm 0 xam f xl xpl gr) [48, 49, 50, 51, 52, 53] (by decide) rfl) hN hU hW⟩ rfl rfl hl.1 rfl (lv_room (Nat.le_of_ble_eq_true rfl)) dL_law_486 ⟨by show cells + 0 + 0 + 0 ≤ 601024; omega, by show slots + 0 + 0 + 0 ≤ 7293034; omega⟩) ?_
    refine lv_iload hx hb dL_law_489 (lv_at hl 1 rfl) ?_
    refine zr_iceq (tgt := 496) hx hb dL_law_491 (by decide) ?_
    refine lv_iload hx hb dL_law_496 (lv_at hl 1 rfl) ?_
    refine zr_if_ne (tgt := 513) hx hb dL_law_498 (by decide) (by decide) (fun h9 => absurd h9 (by decide)) (fun _ => ?_)
    refine lv_aload_n hx hb dL_law_501 rfl (lv_at hl 3 rfl) ?_
    refine zr_iconst hx hb dL_law_502 ?_
    refine zr_lald (D := D) (g := zU gu 0 (zW (zCu A (zX xs (xi + 1)) True))) hx hb hK hP 54 2 rfl rfl (by decide) (by decide) dL_law_503 ?_
    rw [show (zU gu 0 (zW (zCu A (zX xs (xi + 1)) True))) 0 = zW (zCu A (zX xs (xi + 1)) True) from rfl]
    refine lv_iload hx hb dL_law_504 (lv_at hl 0 rfl) ?_
    refine lv_i2l hx hb dL_law_506 (zW_l (zCu A (zX xs (xi + 1)) True)) ?_
    refine zr_lceq (tgt := 513) hx hb dL_law_507 dL_law_508 (by decide) ?_
    refine lv_goto (tgt := 1683) hx hb dL_law_513 (by decide) ?_
    refine W.widen (k := cells + 1) (n := slots + 6) (by show cells + 0 + 0 ≤ cells + 1; omega) (by show slots + 0 + 0 ≤ slots + 6; omega) ?_
    exact kk o q n A T S0 S1 S2 S3 S V xm f xl g xk xn xd xe 0 xam xpl gr (zU gu 0 (zW (zCu A (zX xs (xi + 1)) True))) (by exact hI9) (by omega) H locs hP hD hS ls (lv_sub hl [2, 3, 4, 5, 6] rfl)
  replace hc9 := hc9
  refine lv_aload_n hx hb dL_law_432 rfl (lv_at hl 3 rfl) ?_
  refine lv_aload_n hx hb dL_law_433 rfl (lv_at hl 4 rfl) ?_
  refine lv_iload hx hb dL_law_434 (lv_at hl 0 rfl) ?_
  refine zr_iconst hx hb dL_law_436 ?_
  refine zr_iadd hx hb dL_law_437 ?_
  refine zr_sls hx hb hXs hbl hbA hS hL (by omega) dL_law_438 ?_
  refine lv_aload_n hx hb dL_law_439 rfl (lv_at hl 4 rfl) ?_
  refine lv_iload hx hb dL_law_440 (lv_at hl 0 rfl) ?_
  refine zr_iconst hx hb dL_law_442 ?_
  refine zr_iadd hx hb dL_law_443 ?_
  refine zr_sls hx hb hXs hbl hbA hS hL (by omega) dL_law_444 ?_
  refine zr_if_eq (tgt := 452) hx hb dL_law_445 (by decide) (by omega) (fun h9 => absurd h9 htv) (fun _ => ?_)
  refine zr_iconst hx hb dL_law_448 ?_
  refine lv_goto (tgt := 453) hx hb dL_law_449 (by decide) ?_
  refine lv_aload_n hx hb dL_law_453 rfl (lv_at hl 1 rfl) ?_
  refine zc_xk (vx_runSX (As := [.ref (o 0 0), .int (zI (zX xs (xi + 1))), .int (zI (zB (True))), .ref ou]) (rest := []) ⟨hx, hb, hml, hown, hts⟩ (met_L_curve_x l hfl D cs o ou gu A (zX xs (xi + 1)) True (zX_r xs _) hc9) (vx_cwSW 4 hts gL_law_L_curve rfl rfl rfl (by decide +kernel) ⟨(Nat.le_of_ble_eq_true rfl), (Nat.le_of_ble_eq_true rfl)⟩) ⟨zPreU.blind, fun U hU hW => zp_U (hP.sub (ws' := [((o 0) 0, .inr (5, [.ref ((o 1) 0), .ref ((o 2) 0), .ref ((o 3) 0), .ref ((o 8) 0)]))] ++ (zbat cs (o 1) A ++ [(ou, .inl (cs 2, 1, .inr (.inl (zAL gu))))])) [0, 1, 2, 3, 4, 5, 6, 7, 54] rfl) hK (hD.sub (ws' := [((o 0) 0, .inr (5, [.ref ((o 1) 0), .ref ((o 2) 0), .ref ((o 3) 0), .ref ((o 8) 0)]))] ++ (zbat cs (o 1) A ++ [(ou, .inl (cs 2, 1, .inr (.inl (zAL gu))))])) [0, 1, 2, 3, 4, 5, 6, 7, 54] (by decide) rfl) hN (hG.at hS) hC hU hW⟩ rfl rfl hl.1 rfl (lv_room (Nat.le_of_ble_eq_true rfl)) dL_law_454 ⟨by show cells + 1 ≤ 601024; omega, by show slots + 6 ≤ 7293034; omega⟩) hS hP (fun H locs hP hS => ?_)
  refine lv_istore (lv' := [(5, .int (zI 1)), (4, .int (zI xi)), (3, .ref ou), (2, .ref (q 0)), (1, .ref (o 0 0)), (0, .ref b)]) hx hb dL_law_457 hl (by decide) rfl (fun ls hl => ?_)
  refine lv_aload_n hx hb dL_law_459 rfl (lv_at hl 3 rfl) ?_
  refine lv_aload_n hx hb dL_law_460 rfl (lv_at hl 5 rfl) ?_
  refine lv_iload hx hb dL_law_461 (lv_at hl 1 rfl) ?_
  refine zr_iconst hx hb dL_law_463 ?_
  refine zr_iadd hx hb dL_law_464 ?_
  refine zr_sls hx hb hXs hbl hbA hS hL (by omega) dL_law_465 ?_
  refine lv_aload_n hx hb dL_law_466 rfl (lv_at hl 5 rfl) ?_
  refine lv_iload hx hb dL_law_467 (lv_at hl 1 rfl) ?_
  refine zr_iconst hx hb dL_law_469 ?_
  refine zr_iadd hx hb dL_law_470 ?_
  refine zr_sls hx hb hXs hbl hbA hS hL (by omega) dL_law_471 ?_
  refine zr_if_eq (tgt := 479) hx hb dL_law_472 (by decide) (by omega) (fun h9 => absurd h9 htv) (fun _ => ?_)
  refine zr_iconst hx hb dL_law_475 ?_
  refine lv_goto (tgt := 480) hx hb dL_law_476 (by decide) ?_
  refine zc_ij (w := zmod cs q A S V xm xth xam f xl xpl gr) (wr := zest cs o A T S0 S1 S2 S3 xm f xl g xk xn xd xe ++ [(ou, .inl (cs 2, 1, .inr (.inl (zAL gu))))]) (va_runV (As := [.int (zI (zX xs (xi + 1))), .int (zI (zB (True)))]) (rest := []) ⟨hx, hb, hml, hown, hts⟩ (met_X6_curve_no1 l D cs q H.size A S V xm xth xam f xl xpl gr (zX xs (xi + 1)) True (zX_r xs _) hc9) (cwV 2 hts gL_law_X6_curve rfl rfl rfl (by decide +kernel) ⟨(Nat.le_of_ble_eq_true rfl), (Nat.le_of_ble_eq_true rfl)⟩) ⟨zPreZ.blind, va_recv hK hP (ci := 6) (q0 := 48) rfl rfl, fun U hU hW => zp_Z (hP.sub (ws' := zmod cs q A S V xm xth xam f xl xpl gr) [48, 49, 50, 51, 52, 53] rfl) hK (hD.sub (ws' := zmod cs q A S V xm xth xam f xl xpl gr) [48, 49, 50, 51, 52, 53] (by decide) rfl) hN hU hW⟩ rfl rfl hl.1 rfl (lv_room (Nat.le_of_ble_eq_true rfl)) dL_law_480 ⟨by show cells + 1 + 0 ≤ 601024; omega, by show slots + 6 + 0 ≤ 7293034; omega⟩) hS hP hD hA [48, 49, 50, 51, 52, 53] [0, 1, 2, 3, 4, 5, 6, 7, 8, 9, 10, 11, 12, 13, 14, 15, 16, 17, 18, 19, 20, 21, 22, 23, 24, 25, 26, 27, 28, 29, 30, 31, 32, 33, 34, 35, 36, 37, 38, 39, 40, 41, 42, 43, 44, 45, 46, 47, 54] rfl rfl (by decide) (by decide) (fun H locs hP hD hS => ?_)
  have hP : va_P D vwCl (zest cs o A T S0 S1 S2 S3 xm f xl g xk xn xd xe ++ (zmod cs q A S V xm 1 xam f xl xpl gr ++ [(ou, .inl (cs 2, 1, .inr (.inl (zAL gu))))])) H := zP_perm hP zPe_m
  have hD : va_D (fun z => s.heap.size ≤ z) (zest cs o A T S0 S1 S2 S3 xm f xl g xk xn xd xe ++ (zmod cs q A S V xm 1 xam f xl xpl gr ++ [(ou, .inl (cs 2, 1, .inr (.inl (zAL gu))))])) := zD_perm hD zPe_m
  refine lv_istore (lv' := [(6, .int (zI 0)), (5, .int (zI 1)), (4, .int (zI xi)), (3, .ref ou), (2, .ref (q 0)), (1, .ref (o 0 0)), (0, .ref b)]) hx hb dL_law_483 hl (by decide) rfl (fun ls hl => ?_)
  refine lv_aload_n hx hb dL_law_485 rfl (lv_at hl 4 rfl) ?_
  refine zc_ri (va_runV (As := []) (rest := []) ⟨hx, hb, hml, hown, hts⟩ (met_X6_thrown l D cs q A S V xm 1 xam f xl xpl gr) (cwV 0 hts gL_law_X6_thrown rfl rfl rfl (by decide +kernel) ⟨(Nat.le_of_ble_eq_true rfl), (Nat.le_of_ble_eq_true rfl)⟩) ⟨zPre.blind, va_recv hK hP (ci := 6) (q0 := 48) rfl rfl, fun U hU hW => zp_R (hP.sub (ws' := zmod cs q A S V xm 1 xam f xl xpl gr) [48, 49, 50, 51, 52, 53] rfl) hK (hD.sub (ws' := zmod cs q A S V xm 1 xam f xl xpl gr) [48, 49, 50, 51, 52, 53] (by decide) rfl) hN hU hW⟩ rfl rfl hl.1 rfl (lv_room (Nat.le_of_ble_eq_true rfl)) dL_law_486 ⟨by show cells + 1 + 0 + 0 ≤ 601024; omega, by show slots + 6 + 0 + 0 ≤ 7293034; omega⟩) ?_
  refine lv_iload hx hb dL_law_489 (lv_at hl 1 rfl) ?_
  refine zr_iceq (tgt := 496) hx hb dL_law_491 (by decide) ?_
  refine lv_iload hx hb dL_law_496 (lv_at hl 1 rfl) ?_
  refine zr_if_ne (tgt := 513) hx hb dL_law_498 (by decide) (by decide) (fun _ => ?_) (fun h9 => absurd h9 (by decide))
  refine lv_goto (tgt := 1683) hx hb dL_law_513 (by decide) ?_
  refine W.widen (k := cells + 1) (n := slots + 6) (by show cells + 1 + 0 ≤ cells + 1; omega) (by show slots + 6 + 0 ≤ slots + 6; omega) ?_
  exact kk o q n A T S0 S1 S2 S3 S V xm f xl g xk xn xd xe 1 xam xpl gr gu (by exact hI9) (by omega) H locs hP hD hS ls (lv_sub hl [2, 3, 4, 5, 6] rfl)
