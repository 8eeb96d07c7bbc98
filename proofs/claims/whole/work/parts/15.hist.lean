/-! the saved states -/
def zR (a b c d : Nat) : Nat → Option Nat := fun k => if k = 0 then some a else if k = 1 then some b else if k = 2 then some c else if k = 3 then some d else none
theorem zR_0 (a b c d x : Nat) : va_up (zR a b c d) (0 : Int).toNat (some x) = zR x b c d := by
  funext k; unfold va_up zR; by_cases h0 : k = 0 <;> simp [h0]
theorem zR_1 (a b c d x : Nat) : va_up (zR a b c d) (1 : Int).toNat (some x) = zR a x c d := by
  funext k; unfold va_up zR; by_cases h0 : k = 0 <;> by_cases h1 : k = 1 <;> simp [h0, h1] <;> omega
theorem zR_2 (a b c d x : Nat) : va_up (zR a b c d) (2 : Int).toNat (some x) = zR a b x d := by
  funext k; unfold va_up zR; by_cases h0 : k = 0 <;> by_cases h1 : k = 1 <;> by_cases h2 : k = 2 <;> simp [h0, h1, h2] <;> omega
theorem zR_3 (a b c d x : Nat) : va_up (zR a b c d) (3 : Int).toNat (some x) = zR a b c x := by
  funext k; unfold va_up zR; by_cases h0 : k = 0 <;> by_cases h1 : k = 1 <;> by_cases h2 : k = 2 <;> by_cases h3 : k = 3 <;> simp [h0, h1, h2, h3] <;> omega
section ZRF
variable {p : Program} {l : Launch} {e : Env} {R : Room} {s : State} {m : MethodId} {args : Array Value} {below : List Frame} {meth : Method} {c : Code} {H : Heap} {locs : List Loc} {cells slots : Nat} {Q : State → Prop}
variable {cc : ByteArray} {pc : Nat} {ls : Array Slot} {rest : List Value} {D : va_G} {cl : List vw_C} {A : Nat → Prop} {a : Nat} {tys : List (ClassId × FieldType)} {ws : va_W} {H0 : Heap}
theorem zr_aald (hx : p.tables.exec = Jvm.exec) (hb : c.code = cc) (hK : va_K D cl tys s) (hP : va_P D cl ws H) (q0 t0 : Nat) {cA : ClassId} {C : String} {n : Nat} {f : Nat → Option Nat} (ha : ws[q0]? = some (a, .inl (cA, n, .inr (.inr (.inr (.inr f)))))) (ht : tys[t0]? = some (cA, .object C)) {i : Int} (hn : n < 2147483648) (hi : 0 ≤ i ∧ i < n) {v : Nat} (hv : f i.toNat = some v) (d : decode cc pc = .ok (.aaload, 1)) (k : W p l e R s m args below meth c H locs cells slots Q (F0 m (pc + 1) ls (.ref v :: rest))) : W p l e R s m args below meth c H locs cells slots Q (F0 m pc ls (.int (zI i) :: .ref a :: rest)) :=
  va_aldq hx hb hK hP q0 t0 ha ht (zI_in hn hi) d (by rw [zI_cl (by omega), hv]; exact k)
theorem zr_aast (hx : p.tables.exec = Jvm.exec) (hb : c.code = cc) (hK : va_K D cl tys s) (hP : va_P D cl ws H) (hD : va_D A ws) (hS : va_S A H0 H locs) (q0 t0 qk : Nat) {ci : Nat} {cA : ClassId} {r : vw_C} {n v : Nat} {vs : List Value} {f g : Nat → Option Nat} (ha : ws[q0]? = some (a, .inl (cA, n, .inr (.inr (.inr (.inr f)))))) (ht : tys[t0]? = some (cA, .object r.1)) (hv : ws[qk]? = some (v, .inr (ci, vs))) (hc : cl[ci]? = some r) {i : Int} (hn : n < 2147483648) (hi : 0 ≤ i ∧ i < n) (hg : va_up f i.toNat (some v) = g) (d : decode cc pc = .ok (.aastore, 1)) (k : ∀ (H1 : Heap) (locs1 : List Loc), va_P D cl (ws.set q0 (a, .inl (cA, n, .inr (.inr (.inr (.inr g)))))) H1 → va_D A (ws.set q0 (a, .inl (cA, n, .inr (.inr (.inr (.inr g)))))) → va_S A H0 H1 locs1 → W p l e R s m args below meth c H1 locs1 cells slots Q (F0 m (pc + 1) ls rest)) : W p l e R s m args below meth c H locs cells slots Q (F0 m pc ls (.ref v :: .int (zI i) :: .ref a :: rest)) :=
  va_astq hx hb hK hP hD hS q0 t0 qk ci ha ht hv hc (zI_in hn hi) d (by rw [zI_cl (by omega), hg]; exact k)
end ZRF
theorem zat_q {D : va_G} {cl : List vw_C} {q n : Nat} {cA : ClassId} {f g : Nat → Option Nat} {H : Heap} (h : va_at D cl (q, .inl (cA, n, .inr (.inr (.inr (.inr f))))) H) (e : ∀ k : Nat, k < n → f k = g k) : va_at D cl (q, .inl (cA, n, .inr (.inr (.inr (.inr g))))) H := by
  have h1 : H[q]? = some (vp_cell cA (n, .inr (.inr (.inr (.inr f))))) := h
  show H[q]? = some (vp_cell cA (n, .inr (.inr (.inr (.inr g)))))
  rw [h1, vp_cell_q, vp_cell_q]
  congr 1
  exact zV_congr cA (fun k hk => by rw [e k hk])
abbrev zhis (cs : Nat → ClassId) (r h0 h1 h2 h3 : Nat → Nat) (S0 S1 S2 S3 : Int → Int) (xm : Int) : va_W := [(r 0, .inr (3, [.ref (r 1), .int (zI xm)])), (r 1, .inl (cs 3, 4, .inr (.inr (.inr (.inr (zR (h0 0) (h1 0) (h2 0) (h3 0)))))))] ++ (zbat cs h0 S0 ++ (zbat cs h1 S1 ++ (zbat cs h2 S2 ++ zbat cs h3 S3)))
set_option maxHeartbeats 4000000 in
set_option maxRecDepth 100000 in
theorem met_X3_dropOldest (l : Launch) (D : va_G) (cs : Nat → ClassId) (r h0 h1 h2 h3 : Nat → Nat) (sz : Nat) (S0 S1 S2 S3 : Int → Int) (xm : Int)  : Met l yX3_dropOldest wsX3_dropOldest ({ frames := 0, cells := 0, slots := 0, locals := 0 }) (va_Pc [.ref (r 0)] (zPreZ D (zTy cs) ([(r 0, .inr (3, [.ref (r 1), .int (zI xm)])), (r 1, .inl (cs 3, 4, .inr (.inr (.inr (.inr (zR (h0 0) (h1 0) (h2 0) (h3 0)))))))] ++ (zbat cs h0 S0 ++ (zbat cs h1 S1 ++ (zbat cs h2 S2 ++ zbat cs h3 S3)))) sz)) (zQv D ([(r 0, .inr (3, [.ref (r 1), .int (zI xm)])), (r 1, .inl (cs 3, 4, .inr (.inr (.inr (.inr (zR (h0 0) (h1 0) (h2 0) (h3 0)))))))] ++ (zbat cs h0 S0 ++ (zbat cs h1 S1 ++ (zbat cs h2 S2 ++ zbat cs h3 S3)))) sz ([(r 0, .inr (3, [.ref (r 1), .int (zI 3)])), (r 1, .inl (cs 3, 4, .inr (.inr (.inr (.inr (zR (h1 0) (h2 0) (h3 0) (h0 0)))))))] ++ (zbat cs h0 S0 ++ (zbat cs h1 S1 ++ (zbat cs h2 S2 ++ zbat cs h3 S3))))) 0 0 (va_A ([(r 0, .inr (3, [.ref (r 1), .int (zI xm)])), (r 1, .inl (cs 3, 4, .inr (.inr (.inr (.inr (zR (h0 0) (h1 0) (h2 0) (h3 0)))))))] ++ (zbat cs h0 S0 ++ (zbat cs h1 S1 ++ (zbat cs h2 S2 ++ zbat cs h3 S3)))) sz) := by
  refine Met.ofW (cc := cX3_dropOldest) (maxL := 3) (ret := none) (by decide) rfl ?_
  intro p e s m args below meth c s₁ B hml hv
  obtain ⟨rfl, hsz, hP, hK, hD0, hN⟩ := hv
  have hx := B.exec
  have hb := B.bytes
  have hr := B.returns
  have hts := atoms_spec (ws := wsX3_dropOldest) B.pre
  have hown : s.vm.findClass RX3 = some m.cls := findClass_of_methodNamed B.named
  have hlocks := B.notSynchronized
  subst hsz
  obtain ⟨A0, hAe⟩ : ∃ A0, A0 = va_A ([(r 0, .inr (3, [.ref (r 1), .int (zI xm)])), (r 1, .inl (cs 3, 4, .inr (.inr (.inr (.inr (zR (h0 0) (h1 0) (h2 0) (h3 0)))))))] ++ (zbat cs h0 S0 ++ (zbat cs h1 S1 ++ (zbat cs h2 S2 ++ zbat cs h3 S3)))) s.heap.size := ⟨_, rfl⟩
  have hD := hD0.self (sz := s.heap.size)
  rw [← hAe] at hD
  have hA : ∀ q : Nat, s.heap.size ≤ q → A0 q := fun q h => by rw [hAe]; exact Or.inr h
  have hS : va_S A0 s.heap s.heap [] := va_S.rf
  have hP : va_P D vwCl ([(r 0, .inr (3, [.ref (r 1), .int (zI xm)])), (r 1, .inl (cs 3, 4, .inr (.inr (.inr (.inr (zR (h0 0) (h1 0) (h2 0) (h3 0)))))))] ++ (zbat cs h0 S0 ++ (zbat cs h1 S1 ++ (zbat cs h2 S2 ++ zbat cs h3 S3)))) s.heap := hP
  have hl := lv_entry ([.ref (r 0)]) (n := 3) (Nat.le_of_ble_eq_true rfl)
  rw [lg_entry_eq]
  generalize (lg_sl ([.ref (r 0)]) ++ List.replicate (3 - (lg_sl ([.ref (r 0)])).length) Slot.unset).toArray = ls at hl ⊢
  have hl : lv_has ls 3 [(0, .ref (r 0))] := hl
  have hiX3 : ∀ w ∈ wsX30, w ∈ wsX3_dropOldest := by decide +kernel
  refine lv_aload_n hx hb dX3_dropOldest_0 rfl (lv_at hl 0 rfl) ?_
  refine va_get (D := D) (ci := 3) (v := .ref (r 1)) (C := RX3) (T := TX3) (N := 2) hx hb hts hiX3 hown hK hP 0 rfl rfl 0 (by decide) (hts (.fieldLink RX3 11 "ChargeEstimator$History" "states" "[LChargeEstimator$Battery;") (List.mem_of_getElem? (i := 1) rfl)) (fun _ h9 => h9) rfl dX3_dropOldest_1 ?_
  refine zr_iconst hx hb dX3_dropOldest_4 ?_
  refine zr_aald (D := D) (C := RX1) hx hb hK hP 1 3 rfl rfl (by decide) (by decide) (show _ = some (h0 0) from rfl) dX3_dropOldest_5 ?_
  refine lv_astore_n (lv' := [(1, .ref (h0 0)), (0, .ref (r 0))]) hx hb dX3_dropOldest_6 rfl hl (by decide) rfl (fun ls hl => ?_)
  refine zr_iconst hx hb dX3_dropOldest_7 ?_
  refine lv_istore_n (lv' := [(2, .int (zI 1)), (1, .ref (h0 0)), (0, .ref (r 0))]) hx hb dX3_dropOldest_8 rfl hl (by decide) rfl (fun ls hl => ?_)
  refine lv_iload_n hx hb dX3_dropOldest_9 rfl (lv_at hl 0 rfl) ?_
  refine zr_iconst hx hb dX3_dropOldest_10 ?_
  refine zr_icmp_ge (tgt := 34) hx hb dX3_dropOldest_11 (by decide) (by decide) (by decide) (fun c1 => ?_) (fun c1 => ?_)
  · exact absurd c1 (by decide)
  · refine lv_aload_n hx hb dX3_dropOldest_14 rfl (lv_at hl 2 rfl) ?_
    refine va_get (D := D) (ci := 3) (v := .ref (r 1)) (C := RX3) (T := TX3) (N := 2) hx hb hts hiX3 hown hK hP 0 rfl rfl 0 (by decide) (hts (.fieldLink RX3 11 "ChargeEstimator$History" "states" "[LChargeEstimator$Battery;") (List.mem_of_getElem? (i := 1) rfl)) (fun _ h9 => h9) rfl dX3_dropOldest_15 ?_
    refine lv_iload_n hx hb dX3_dropOldest_18 rfl (lv_at hl 0 rfl) ?_
    refine zr_iconst hx hb dX3_dropOldest_19 ?_
    refine zr_isub hx hb dX3_dropOldest_20 ?_
    refine zr_topi (b := 0) (by decide) ?_
    refine lv_aload_n hx hb dX3_dropOldest_21 rfl (lv_at hl 2 rfl) ?_
    refine va_get (D := D) (ci := 3) (v := .ref (r 1)) (C := RX3) (T := TX3) (N := 2) hx hb hts hiX3 hown hK hP 0 rfl rfl 0 (by decide) (hts (.fieldLink RX3 11 "ChargeEstimator$History" "states" "[LChargeEstimator$Battery;") (List.mem_of_getElem? (i := 1) rfl)) (fun _ h9 => h9) rfl dX3_dropOldest_22 ?_
    refine lv_iload_n hx hb dX3_dropOldest_25 rfl (lv_at hl 0 rfl) ?_
    refine zr_aald (D := D) (C := RX1) hx hb hK hP 1 3 rfl rfl (by decide) (by decide) (show _ = some (h1 0) from rfl) dX3_dropOldest_26 ?_
    refine zr_aast (D := D) (ci := 1) (g := zR (h1 0) (h1 0) (h2 0) (h3 0)) hx hb hK hP hD hS 1 3 9 rfl rfl rfl (r := (RX1, TX1, 18)) rfl (by decide) (by decide) (zR_0 _ _ _ _ _) dX3_dropOldest_27 (fun H locs hP hD hS => ?_)
    have hP : va_P D vwCl ([(r 0, .inr (3, [.ref (r 1), .int (zI xm)])), (r 1, .inl (cs 3, 4, .inr (.inr (.inr (.inr (zR (h1 0) (h1 0) (h2 0) (h3 0)))))))] ++ (zbat cs h0 S0 ++ (zbat cs h1 S1 ++ (zbat cs h2 S2 ++ zbat cs h3 S3)))) H := hP
    have hD : va_D A0 ([(r 0, .inr (3, [.ref (r 1), .int (zI xm)])), (r 1, .inl (cs 3, 4, .inr (.inr (.inr (.inr (zR (h1 0) (h1 0) (h2 0) (h3 0)))))))] ++ (zbat cs h0 S0 ++ (zbat cs h1 S1 ++ (zbat cs h2 S2 ++ zbat cs h3 S3)))) := zD_addr hD rfl
    refine zr_iinc (kk := 0) (lv' := [(2, .int (zI 2)), (1, .ref (h0 0)), (0, .ref (r 0))]) hx hb dX3_dropOldest_28 hl rfl (by decide) rfl (fun ls hl => ?_)
    refine lv_goto (tgt := 9) hx hb dX3_dropOldest_31 (by decide) ?_
    refine lv_iload_n hx hb dX3_dropOldest_9 rfl (lv_at hl 0 rfl) ?_
    refine zr_iconst hx hb dX3_dropOldest_10 ?_
    refine zr_icmp_ge (tgt := 34) hx hb dX3_dropOldest_11 (by decide) (by decide) (by decide) (fun c2 => ?_) (fun c2 => ?_)
    · exact absurd c2 (by decide)
    · refine lv_aload_n hx hb dX3_dropOldest_14 rfl (lv_at hl 2 rfl) ?_
      refine va_get (D := D) (ci := 3) (v := .ref (r 1)) (C := RX3) (T := TX3) (N := 2) hx hb hts hiX3 hown hK hP 0 rfl rfl 0 (by decide) (hts (.fieldLink RX3 11 "ChargeEstimator$History" "states" "[LChargeEstimator$Battery;") (List.mem_of_getElem? (i := 1) rfl)) (fun _ h9 => h9) rfl dX3_dropOldest_15 ?_
      refine lv_iload_n hx hb dX3_dropOldest_18 rfl (lv_at hl 0 rfl) ?_
      refine zr_iconst hx hb dX3_dropOldest_19 ?_
      refine zr_isub hx hb dX3_dropOldest_20 ?_
      refine zr_topi (b := 1) (by decide) ?_
      refine lv_aload_n hx hb dX3_dropOldest_21 rfl (lv_at hl 2 rfl) ?_
      refine va_get (D := D) (ci := 3) (v := .ref (r 1)) (C := RX3) (T := TX3) (N := 2) hx hb hts hiX3 hown hK hP 0 rfl rfl 0 (by decide) (hts (.fieldLink RX3 11 "ChargeEstimator$History" "states" "[LChargeEstimator$Battery;") (List.mem_of_getElem? (i := 1) rfl)) (fun _ h9 => h9) rfl dX3_dropOldest_22 ?_
      refine lv_iload_n hx hb dX3_dropOldest_25 rfl (lv_at hl 0 rfl) ?_
      refine zr_aald (D := D) (C := RX1) hx hb hK hP 1 3 rfl rfl (by decide) (by decide) (show _ = some (h2 0) from rfl) dX3_dropOldest_26 ?_
      refine zr_aast (D := D) (ci := 1) (g := zR (h1 0) (h2 0) (h2 0) (h3 0)) hx hb hK hP hD hS 1 3 16 rfl rfl rfl (r := (RX1, TX1, 18)) rfl (by decide) (by decide) (zR_1 _ _ _ _ _) dX3_dropOldest_27 (fun H locs hP hD hS => ?_)
      have hP : va_P D vwCl ([(r 0, .inr (3, [.ref (r 1), .int (zI xm)])), (r 1, .inl (cs 3, 4, .inr (.inr (.inr (.inr (zR (h1 0) (h2 0) (h2 0) (h3 0)))))))] ++ (zbat cs h0 S0 ++ (zbat cs h1 S1 ++ (zbat cs h2 S2 ++ zbat cs h3 S3)))) H := hP
      have hD : va_D A0 ([(r 0, .inr (3, [.ref (r 1), .int (zI xm)])), (r 1, .inl (cs 3, 4, .inr (.inr (.inr (.inr (zR (h1 0) (h2 0) (h2 0) (h3 0)))))))] ++ (zbat cs h0 S0 ++ (zbat cs h1 S1 ++ (zbat cs h2 S2 ++ zbat cs h3 S3)))) := zD_addr hD rfl
      refine zr_iinc (kk := 0) (lv' := [(2, .int (zI 3)), (1, .ref (h0 0)), (0, .ref (r 0))]) hx hb dX3_dropOldest_28 hl rfl (by decide) rfl (fun ls hl => ?_)
      refine lv_goto (tgt := 9) hx hb dX3_dropOldest_31 (by decide) ?_
      refine lv_iload_n hx hb dX3_dropOldest_9 rfl (lv_at hl 0 rfl) ?_
      refine zr_iconst hx hb dX3_dropOldest_10 ?_
      refine zr_icmp_ge (tgt := 34) hx hb dX3_dropOldest_11 (by decide) (by decide) (by decide) (fun c3 => ?_) (fun c3 => ?_)
      · exact absurd c3 (by decide)
      · refine lv_aload_n hx hb dX3_dropOldest_14 rfl (lv_at hl 2 rfl) ?_
        refine va_get (D := D) (ci := 3) (v := .ref (r 1)) (C := RX3) (T := TX3) (N := 2) hx hb hts hiX3 hown hK hP 0 rfl rfl 0 (by decide) (hts (.fieldLink RX3 11 "ChargeEstimator$History" "states" "[LChargeEstimator$Battery;") (List.mem_of_getElem? (i := 1) rfl)) (fun _ h9 => h9) rfl dX3_dropOldest_15 ?_
        refine lv_iload_n hx hb dX3_dropOldest_18 rfl (lv_at hl 0 rfl) ?_
        refine zr_iconst hx hb dX3_dropOldest_19 ?_
        refine zr_isub hx hb dX3_dropOldest_20 ?_
        refine zr_topi (b := 2) (by decide) ?_
        refine lv_aload_n hx hb dX3_dropOldest_21 rfl (lv_at hl 2 rfl) ?_
        refine va_get (D := D) (ci := 3) (v := .ref (r 1)) (C := RX3) (T := TX3) (N := 2) hx hb hts hiX3 hown hK hP 0 rfl rfl 0 (by decide) (hts (.fieldLink RX3 11 "ChargeEstimator$History" "states" "[LChargeEstimator$Battery;") (List.mem_of_getElem? (i := 1) rfl)) (fun _ h9 => h9) rfl dX3_dropOldest_22 ?_
        refine lv_iload_n hx hb dX3_dropOldest_25 rfl (lv_at hl 0 rfl) ?_
        refine zr_aald (D := D) (C := RX1) hx hb hK hP 1 3 rfl rfl (by decide) (by decide) (show _ = some (h3 0) from rfl) dX3_dropOldest_26 ?_
        refine zr_aast (D := D) (ci := 1) (g := zR (h1 0) (h2 0) (h3 0) (h3 0)) hx hb hK hP hD hS 1 3 23 rfl rfl rfl (r := (RX1, TX1, 18)) rfl (by decide) (by decide) (zR_2 _ _ _ _ _) dX3_dropOldest_27 (fun H locs hP hD hS => ?_)
        have hP : va_P D vwCl ([(r 0, .inr (3, [.ref (r 1), .int (zI xm)])), (r 1, .inl (cs 3, 4, .inr (.inr (.inr (.inr (zR (h1 0) (h2 0) (h3 0) (h3 0)))))))] ++ (zbat cs h0 S0 ++ (zbat cs h1 S1 ++ (zbat cs h2 S2 ++ zbat cs h3 S3)))) H := hP
        have hD : va_D A0 ([(r 0, .inr (3, [.ref (r 1), .int (zI xm)])), (r 1, .inl (cs 3, 4, .inr (.inr (.inr (.inr (zR (h1 0) (h2 0) (h3 0) (h3 0)))))))] ++ (zbat cs h0 S0 ++ (zbat cs h1 S1 ++ (zbat cs h2 S2 ++ zbat cs h3 S3)))) := zD_addr hD rfl
        refine zr_iinc (kk := 0) (lv' := [(2, .int (zI 4)), (1, .ref (h0 0)), (0, .ref (r 0))]) hx hb dX3_dropOldest_28 hl rfl (by decide) rfl (fun ls hl => ?_)
        refine lv_goto (tgt := 9) hx hb dX3_dropOldest_31 (by decide) ?_
        refine lv_iload_n hx hb dX3_dropOldest_9 rfl (lv_at hl 0 rfl) ?_
        refine zr_iconst hx hb dX3_dropOldest_10 ?_
        refine zr_icmp_ge (tgt := 34) hx hb dX3_dropOldest_11 (by decide) (by decide) (by decide) (fun c4 => ?_) (fun c4 => ?_)
        · refine lv_aload_n hx hb dX3_dropOldest_34 rfl (lv_at hl 2 rfl) ?_
          refine va_get (D := D) (ci := 3) (v := .ref (r 1)) (C := RX3) (T := TX3) (N := 2) hx hb hts hiX3 hown hK hP 0 rfl rfl 0 (by decide) (hts (.fieldLink RX3 11 "ChargeEstimator$History" "states" "[LChargeEstimator$Battery;") (List.mem_of_getElem? (i := 1) rfl)) (fun _ h9 => h9) rfl dX3_dropOldest_35 ?_
          refine zr_iconst hx hb dX3_dropOldest_38 ?_
          refine lv_aload_n hx hb dX3_dropOldest_39 rfl (lv_at hl 1 rfl) ?_
          refine zr_aast (D := D) (ci := 1) (g := zR (h1 0) (h2 0) (h3 0) (h0 0)) hx hb hK hP hD hS 1 3 2 rfl rfl rfl (r := (RX1, TX1, 18)) rfl (by decide) (by decide) (zR_3 _ _ _ _ _) dX3_dropOldest_40 (fun H locs hP hD hS => ?_)
          have hP : va_P D vwCl ([(r 0, .inr (3, [.ref (r 1), .int (zI xm)])), (r 1, .inl (cs 3, 4, .inr (.inr (.inr (.inr (zR (h1 0) (h2 0) (h3 0) (h0 0)))))))] ++ (zbat cs h0 S0 ++ (zbat cs h1 S1 ++ (zbat cs h2 S2 ++ zbat cs h3 S3)))) H := hP
          have hD : va_D A0 ([(r 0, .inr (3, [.ref (r 1), .int (zI xm)])), (r 1, .inl (cs 3, 4, .inr (.inr (.inr (.inr (zR (h1 0) (h2 0) (h3 0) (h0 0)))))))] ++ (zbat cs h0 S0 ++ (zbat cs h1 S1 ++ (zbat cs h2 S2 ++ zbat cs h3 S3)))) := zD_addr hD rfl
          refine lv_aload_n hx hb dX3_dropOldest_41 rfl (lv_at hl 2 rfl) ?_
          refine zr_iconst hx hb dX3_dropOldest_42 ?_
          refine va_put (D := D) (ci := 3) (v := .int (zI 3)) (ty := .int) (C := RX3) (T := TX3) (N := 2) hx hb hts hiX3 tyX3 tyX3_ok nmX3 hown hK hP hD hS 0 rfl rfl 1 (by decide) (hts (.fieldLink RX3 16 "ChargeEstimator$History" "size" "I") (List.mem_of_getElem? (i := 2) rfl)) (fun _ h9 => h9) rfl (by decide +kernel) rfl rfl (Nat.le_of_ble_eq_true rfl) dX3_dropOldest_43 (fun H locs hP hD hS => ?_)
          have hP : va_P D vwCl ([(r 0, .inr (3, [.ref (r 1), .int (zI 3)])), (r 1, .inl (cs 3, 4, .inr (.inr (.inr (.inr (zR (h1 0) (h2 0) (h3 0) (h0 0)))))))] ++ (zbat cs h0 S0 ++ (zbat cs h1 S1 ++ (zbat cs h2 S2 ++ zbat cs h3 S3)))) H := hP
          have hD : va_D A0 ([(r 0, .inr (3, [.ref (r 1), .int (zI 3)])), (r 1, .inl (cs 3, 4, .inr (.inr (.inr (.inr (zR (h1 0) (h2 0) (h3 0) (h0 0)))))))] ++ (zbat cs h0 S0 ++ (zbat cs h1 S1 ++ (zbat cs h2 S2 ++ zbat cs h3 S3)))) := zD_addr hD rfl
          have hP9 : va_P D vwCl ([(r 0, .inr (3, [.ref (r 1), .int (zI 3)])), (r 1, .inl (cs 3, 4, .inr (.inr (.inr (.inr (zR (h1 0) (h2 0) (h3 0) (h0 0)))))))] ++ (zbat cs h0 S0 ++ (zbat cs h1 S1 ++ (zbat cs h2 S2 ++ zbat cs h3 S3)))) H := hP
          have hD9 : va_D A0 ([(r 0, .inr (3, [.ref (r 1), .int (zI 3)])), (r 1, .inl (cs 3, 4, .inr (.inr (.inr (.inr (zR (h1 0) (h2 0) (h3 0) (h0 0)))))))] ++ (zbat cs h0 S0 ++ (zbat cs h1 S1 ++ (zbat cs h2 S2 ++ zbat cs h3 S3)))) := zD_addr hD rfl
          subst hAe
          exact W.vret hx hb hr (fun t ht hW => ⟨⟨(), rfl, trivial, by rw [ht]; exact hP9, hD9⟩, hS.F ht⟩) hS.2.2 dX3_dropOldest_46
        · exact absurd c4 (by decide)
set_option maxHeartbeats 4000000 in
set_option maxRecDepth 100000 in
theorem met_X3_save_0 (l : Launch) (D : va_G) (cs : Nat → ClassId) (q r h0 h1 h2 h3 : Nat → Nat) (sz : Nat) (A S0 S1 S2 S3 : Int → Int) (k47 : 0 ≤ A 47 ∧ A 47 ≤ 1) : Met l yX3_save wsX3_save ({ frames := 3, cells := 0, slots := 0, locals := 60 }) (va_Pc [.ref (r 0), .ref (q 0)] (zPreZ D (zTy cs) (zbat cs q A ++ ([(r 0, .inr (3, [.ref (r 1), .int (zI 0)])), (r 1, .inl (cs 3, 4, .inr (.inr (.inr (.inr (zR (h0 0) (h1 0) (h2 0) (h3 0)))))))] ++ (zbat cs h0 S0 ++ (zbat cs h1 S1 ++ (zbat cs h2 S2 ++ zbat cs h3 S3))))) sz)) (zQv D (zbat cs q A ++ ([(r 0, .inr (3, [.ref (r 1), .int (zI 0)])), (r 1, .inl (cs 3, 4, .inr (.inr (.inr (.inr (zR (h0 0) (h1 0) (h2 0) (h3 0)))))))] ++ (zbat cs h0 S0 ++ (zbat cs h1 S1 ++ (zbat cs h2 S2 ++ zbat cs h3 S3))))) sz (zbat cs q A ++ ([(r 0, .inr (3, [.ref (r 1), .int (zI 1)])), (r 1, .inl (cs 3, 4, .inr (.inr (.inr (.inr (zR (h0 0) (h1 0) (h2 0) (h3 0)))))))] ++ (zbat cs h0 A ++ (zbat cs h1 S1 ++ (zbat cs h2 S2 ++ zbat cs h3 S3)))))) 0 0 (va_A (zbat cs q A ++ ([(r 0, .inr (3, [.ref (r 1), .int (zI 0)])), (r 1, .inl (cs 3, 4, .inr (.inr (.inr (.inr (zR (h0 0) (h1 0) (h2 0) (h3 0)))))))] ++ (zbat cs h0 S0 ++ (zbat cs h1 S1 ++ (zbat cs h2 S2 ++ zbat cs h3 S3))))) sz) := by
  refine Met.ofW (cc := cX3_save) (maxL := 3) (ret := none) (by decide) rfl ?_
  intro p e s m args below meth c s₁ B hml hv
  obtain ⟨rfl, hsz, hP, hK, hD0, hN⟩ := hv
  have hx := B.exec
  have hb := B.bytes
  have hr := B.returns
  have hts := atoms_spec (ws := wsX3_save) B.pre
  have hown : s.vm.findClass RX3 = some m.cls := findClass_of_methodNamed B.named
  have hlocks := B.notSynchronized
  subst hsz
  obtain ⟨A0, hAe⟩ : ∃ A0, A0 = va_A (zbat cs q A ++ ([(r 0, .inr (3, [.ref (r 1), .int (zI 0)])), (r 1, .inl (cs 3, 4, .inr (.inr (.inr (.inr (zR (h0 0) (h1 0) (h2 0) (h3 0)))))))] ++ (zbat cs h0 S0 ++ (zbat cs h1 S1 ++ (zbat cs h2 S2 ++ zbat cs h3 S3))))) s.heap.size := ⟨_, rfl⟩
  have hD := hD0.self (sz := s.heap.size)
  rw [← hAe] at hD
  have hA : ∀ q : Nat, s.heap.size ≤ q → A0 q := fun q h => by rw [hAe]; exact Or.inr h
  have hS : va_S A0 s.heap s.heap [] := va_S.rf
  have hP : va_P D vwCl (zbat cs q A ++ ([(r 0, .inr (3, [.ref (r 1), .int (zI 0)])), (r 1, .inl (cs 3, 4, .inr (.inr (.inr (.inr (zR (h0 0) (h1 0) (h2 0) (h3 0)))))))] ++ (zbat cs h0 S0 ++ (zbat cs h1 S1 ++ (zbat cs h2 S2 ++ zbat cs h3 S3))))) s.heap := hP
  have hl := lv_entry ([.ref (r 0), .ref (q 0)]) (n := 3) (Nat.le_of_ble_eq_true rfl)
  rw [lg_entry_eq]
  generalize (lg_sl ([.ref (r 0), .ref (q 0)]) ++ List.replicate (3 - (lg_sl ([.ref (r 0), .ref (q 0)])).length) Slot.unset).toArray = ls at hl ⊢
  have hl : lv_has ls 3 [(0, .ref (r 0)), (1, .ref (q 0))] := hl
  have hiX3 : ∀ w ∈ wsX30, w ∈ wsX3_save := by decide +kernel
  refine lv_aload_n hx hb dX3_save_0 rfl (lv_at hl 0 rfl) ?_
  refine va_get (D := D) (ci := 3) (v := .int (zI 0)) (C := RX3) (T := TX3) (N := 2) hx hb hts hiX3 hown hK hP 7 rfl rfl 1 (by decide) (hts (.fieldLink RX3 16 "ChargeEstimator$History" "size" "I") (List.mem_of_getElem? (i := 1) rfl)) (fun _ h9 => h9) rfl dX3_save_1 ?_
  refine zr_iconst hx hb dX3_save_4 ?_
  refine zr_icmp_lt (tgt := 12) hx hb dX3_save_5 (by decide) (by decide) (by decide) (fun c1 => ?_) (fun c1 => ?_)
  · refine lv_aload_n hx hb dX3_save_12 rfl (lv_at hl 0 rfl) ?_
    refine va_get (D := D) (ci := 3) (v := .ref (r 1)) (C := RX3) (T := TX3) (N := 2) hx hb hts hiX3 hown hK hP 7 rfl rfl 0 (by decide) (hts (.fieldLink RX3 11 "ChargeEstimator$History" "states" "[LChargeEstimator$Battery;") (List.mem_of_getElem? (i := 2) rfl)) (fun _ h9 => h9) rfl dX3_save_13 ?_
    refine lv_aload_n hx hb dX3_save_16 rfl (lv_at hl 0 rfl) ?_
    refine va_get (D := D) (ci := 3) (v := .int (zI 0)) (C := RX3) (T := TX3) (N := 2) hx hb hts hiX3 hown hK hP 7 rfl rfl 1 (by decide) (hts (.fieldLink RX3 16 "ChargeEstimator$History" "size" "I") (List.mem_of_getElem? (i := 1) rfl)) (fun _ h9 => h9) rfl dX3_save_17 ?_
    refine zr_aald (D := D) (C := RX1) hx hb hK hP 8 3 rfl rfl (by decide) (by decide) (show _ = some (h0 0) from rfl) dX3_save_20 ?_
    refine lv_astore_n (lv' := [(2, .ref (h0 0)), (0, .ref (r 0)), (1, .ref (q 0))]) hx hb dX3_save_21 rfl hl (by decide) rfl (fun ls hl => ?_)
    refine lv_aload_n hx hb dX3_save_22 rfl (lv_at hl 0 rfl) ?_
    refine lv_ifnull hx hb dX3_save_23 ?_
    refine lv_aload_n hx hb dX3_save_26 rfl (lv_at hl 0 rfl) ?_
    refine lv_aload_n hx hb dX3_save_27 rfl (lv_at hl 2 rfl) ?_
    refine zc_vj (w := zbat cs h0 S0 ++ zbat cs q A) (wr := [(r 0, .inr (3, [.ref (r 1), .int (zI 0)])), (r 1, .inl (cs 3, 4, .inr (.inr (.inr (.inr (zR (h0 0) (h1 0) (h2 0) (h3 0)))))))] ++ (zbat cs h1 S1 ++ (zbat cs h2 S2 ++ zbat cs h3 S3))) (va_runV (As := [.ref (q 0)]) (rest := []) ⟨hx, hb, hml, hown, hts⟩ (met_X1_copyFrom l D cs h0 q s.heap.size S0 A (by first | assumption | omega)) (cwV 1 hts gX3_save_X1_copyFrom rfl rfl rfl (by decide +kernel) ⟨Nat.le_of_ble_eq_true rfl, Nat.le_of_ble_eq_true rfl⟩) ⟨zPreZ.blind, va_recv hK hP (ci := 1) (q0 := 9) rfl rfl, fun U hU hW => zp_Z (hP.sub (ws' := zbat cs h0 S0 ++ zbat cs q A) [9, 10, 11, 12, 13, 14, 15, 0, 1, 2, 3, 4, 5, 6] rfl) hK (hD.sub (ws' := zbat cs h0 S0 ++ zbat cs q A) [9, 10, 11, 12, 13, 14, 15, 0, 1, 2, 3, 4, 5, 6] (by decide) rfl) hN hU hW⟩ rfl rfl hl.1 rfl (lv_room (Nat.le_of_ble_eq_true rfl)) dX3_save_28 ⟨Nat.le_of_ble_eq_true rfl, Nat.le_of_ble_eq_true rfl⟩) hS hP hD hA [9, 10, 11, 12, 13, 14, 15, 0, 1, 2, 3, 4, 5, 6] [7, 8, 16, 17, 18, 19, 20, 21, 22, 23, 24, 25, 26, 27, 28, 29, 30, 31, 32, 33, 34, 35, 36] rfl rfl (by decide) (by decide) (fun H locs hP hD hS => ?_)
    have hP : va_P D vwCl (zbat cs q A ++ ([(r 0, .inr (3, [.ref (r 1), .int (zI 0)])), (r 1, .inl (cs 3, 4, .inr (.inr (.inr (.inr (zR (h0 0) (h1 0) (h2 0) (h3 0)))))))] ++ (zbat cs h0 A ++ (zbat cs h1 S1 ++ (zbat cs h2 S2 ++ zbat cs h3 S3))))) H := hP.sub (ws' := zbat cs q A ++ ([(r 0, .inr (3, [.ref (r 1), .int (zI 0)])), (r 1, .inl (cs 3, 4, .inr (.inr (.inr (.inr (zR (h0 0) (h1 0) (h2 0) (h3 0)))))))] ++ (zbat cs h0 A ++ (zbat cs h1 S1 ++ (zbat cs h2 S2 ++ zbat cs h3 S3))))) [30, 31, 32, 33, 34, 35, 36, 0, 1, 23, 24, 25, 26, 27, 28, 29, 2, 3, 4, 5, 6, 7, 8, 9, 10, 11, 12, 13, 14, 15, 16, 17, 18, 19, 20, 21, 22] rfl
    have hD : va_D A0 (zbat cs q A ++ ([(r 0, .inr (3, [.ref (r 1), .int (zI 0)])), (r 1, .inl (cs 3, 4, .inr (.inr (.inr (.inr (zR (h0 0) (h1 0) (h2 0) (h3 0)))))))] ++ (zbat cs h0 A ++ (zbat cs h1 S1 ++ (zbat cs h2 S2 ++ zbat cs h3 S3))))) := hD.sub (ws' := zbat cs q A ++ ([(r 0, .inr (3, [.ref (r 1), .int (zI 0)])), (r 1, .inl (cs 3, 4, .inr (.inr (.inr (.inr (zR (h0 0) (h1 0) (h2 0) (h3 0)))))))] ++ (zbat cs h0 A ++ (zbat cs h1 S1 ++ (zbat cs h2 S2 ++ zbat cs h3 S3))))) [30, 31, 32, 33, 34, 35, 36, 0, 1, 23, 24, 25, 26, 27, 28, 29, 2, 3, 4, 5, 6, 7, 8, 9, 10, 11, 12, 13, 14, 15, 16, 17, 18, 19, 20, 21, 22] (by decide) rfl
    refine lv_aload_n hx hb dX3_save_31 rfl (lv_at hl 1 rfl) ?_
    refine lv_dup hx hb dX3_save_32 rfl ?_
    refine va_get (D := D) (ci := 3) (v := .int (zI 0)) (C := RX3) (T := TX3) (N := 2) hx hb hts hiX3 hown hK hP 7 rfl rfl 1 (by decide) (hts (.fieldLink RX3 16 "ChargeEstimator$History" "size" "I") (List.mem_of_getElem? (i := 1) rfl)) (fun _ h9 => h9) rfl dX3_save_33 ?_
    refine zr_iconst hx hb dX3_save_36 ?_
    refine zr_iadd hx hb dX3_save_37 ?_
    refine zr_topi (b := 1) (by decide) ?_
    refine va_put (D := D) (ci := 3) (v := .int (zI 1)) (ty := .int) (C := RX3) (T := TX3) (N := 2) hx hb hts hiX3 tyX3 tyX3_ok nmX3 hown hK hP hD hS 7 rfl rfl 1 (by decide) (hts (.fieldLink RX3 16 "ChargeEstimator$History" "size" "I") (List.mem_of_getElem? (i := 1) rfl)) (fun _ h9 => h9) rfl (by decide +kernel) rfl rfl (Nat.le_of_ble_eq_true rfl) dX3_save_38 (fun H locs hP hD hS => ?_)
    have hP : va_P D vwCl (zbat cs q A ++ ([(r 0, .inr (3, [.ref (r 1), .int (zI 1)])), (r 1, .inl (cs 3, 4, .inr (.inr (.inr (.inr (zR (h0 0) (h1 0) (h2 0) (h3 0)))))))] ++ (zbat cs h0 A ++ (zbat cs h1 S1 ++ (zbat cs h2 S2 ++ zbat cs h3 S3))))) H := hP
    have hD : va_D A0 (zbat cs q A ++ ([(r 0, .inr (3, [.ref (r 1), .int (zI 1)])), (r 1, .inl (cs 3, 4, .inr (.inr (.inr (.inr (zR (h0 0) (h1 0) (h2 0) (h3 0)))))))] ++ (zbat cs h0 A ++ (zbat cs h1 S1 ++ (zbat cs h2 S2 ++ zbat cs h3 S3))))) := zD_addr hD rfl
    have hP9 : va_P D vwCl (zbat cs q A ++ ([(r 0, .inr (3, [.ref (r 1), .int (zI 1)])), (r 1, .inl (cs 3, 4, .inr (.inr (.inr (.inr (zR (h0 0) (h1 0) (h2 0) (h3 0)))))))] ++ (zbat cs h0 A ++ (zbat cs h1 S1 ++ (zbat cs h2 S2 ++ zbat cs h3 S3))))) H := hP
    have hD9 : va_D A0 (zbat cs q A ++ ([(r 0, .inr (3, [.ref (r 1), .int (zI 1)])), (r 1, .inl (cs 3, 4, .inr (.inr (.inr (.inr (zR (h0 0) (h1 0) (h2 0) (h3 0)))))))] ++ (zbat cs h0 A ++ (zbat cs h1 S1 ++ (zbat cs h2 S2 ++ zbat cs h3 S3))))) := zD_addr hD rfl
    subst hAe
    exact W.vret hx hb hr (fun t ht hW => ⟨⟨(), rfl, trivial, by rw [ht]; exact hP9, hD9⟩, hS.F ht⟩) hS.2.2 dX3_save_41
  · exact absurd c1 (by decide)
set_option maxHeartbeats 4000000 in
set_option maxRecDepth 100000 in
theorem met_X3_save_1 (l : Launch) (D : va_G) (cs : Nat → ClassId) (q r h0 h1 h2 h3 : Nat → Nat) (sz : Nat) (A S0 S1 S2 S3 : Int → Int) (k47 : 0 ≤ A 47 ∧ A 47 ≤ 1) : Met l yX3_save wsX3_save ({ frames := 3, cells := 0, slots := 0, locals := 60 }) (va_Pc [.ref (r 0), .ref (q 0)] (zPreZ D (zTy cs) (zbat cs q A ++ ([(r 0, .inr (3, [.ref (r 1), .int (zI 1)])), (r 1, .inl (cs 3, 4, .inr (.inr (.inr (.inr (zR (h0 0) (h1 0) (h2 0) (h3 0)))))))] ++ (zbat cs h0 S0 ++ (zbat cs h1 S1 ++ (zbat cs h2 S2 ++ zbat cs h3 S3))))) sz)) (zQv D (zbat cs q A ++ ([(r 0, .inr (3, [.ref (r 1), .int (zI 1)])), (r 1, .inl (cs 3, 4, .inr (.inr (.inr (.inr (zR (h0 0) (h1 0) (h2 0) (h3 0)))))))] ++ (zbat cs h0 S0 ++ (zbat cs h1 S1 ++ (zbat cs h2 S2 ++ zbat cs h3 S3))))) sz (zbat cs q A ++ ([(r 0, .inr (3, [.ref (r 1), .int (zI 2)])), (r 1, .inl (cs 3, 4, .inr (.inr (.inr (.inr (zR (h0 0) (h1 0) (h2 0) (h3 0)))))))] ++ (zbat cs h0 S0 ++ (zbat cs h1 A ++ (zbat cs h2 S2 ++ zbat cs h3 S3)))))) 0 0 (va_A (zbat cs q A ++ ([(r 0, .inr (3, [.ref (r 1), .int (zI 1)])), (r 1, .inl (cs 3, 4, .inr (.inr (.inr (.inr (zR (h0 0) (h1 0) (h2 0) (h3 0)))))))] ++ (zbat cs h0 S0 ++ (zbat cs h1 S1 ++ (zbat cs h2 S2 ++ zbat cs h3 S3))))) sz) := by
  refine Met.ofW (cc := cX3_save) (maxL := 3) (ret := none) (by decide) rfl ?_
  intro p e s m args below meth c s₁ B hml hv
  obtain ⟨rfl, hsz, hP, hK, hD0, hN⟩ := hv
  have hx := B.exec
  have hb := B.bytes
  have hr := B.returns
  have hts := atoms_spec (ws := wsX3_save) B.pre
  have hown : s.vm.findClass RX3 = some m.cls := findClass_of_methodNamed B.named
  have hlocks := B.notSynchronized
  subst hsz
  obtain ⟨A0, hAe⟩ : ∃ A0, A0 = va_A (zbat cs q A ++ ([(r 0, .inr (3, [.ref (r 1), .int (zI 1)])), (r 1, .inl (cs 3, 4, .inr (.inr (.inr (.inr (zR (h0 0) (h1 0) (h2 0) (h3 0)))))))] ++ (zbat cs h0 S0 ++ (zbat cs h1 S1 ++ (zbat cs h2 S2 ++ zbat cs h3 S3))))) s.heap.size := ⟨_, rfl⟩
  have hD := hD0.self (sz := s.heap.size)
  rw [← hAe] at hD
  have hA : ∀ q : Nat, s.heap.size ≤ q → A0 q := fun q h => by rw [hAe]; exact Or.inr h
  have hS : va_S A0 s.heap s.heap [] := va_S.rf
  have hP : va_P D vwCl (zbat cs q A ++ ([(r 0, .inr (3, [.ref (r 1), .int (zI 1)])), (r 1, .inl (cs 3, 4, .inr (.inr (.inr (.inr (zR (h0 0) (h1 0) (h2 0) (h3 0)))))))] ++ (zbat cs h0 S0 ++ (zbat cs h1 S1 ++ (zbat cs h2 S2 ++ zbat cs h3 S3))))) s.heap := hP
  have hl := lv_entry ([.ref (r 0), .ref (q 0)]) (n := 3) (Nat.le_of_ble_eq_true rfl)
  rw [lg_entry_eq]
  generalize (lg_sl ([.ref (r 0), .ref (q 0)]) ++ List.replicate (3 - (lg_sl ([.ref (r 0), .ref (q 0)])).length) Slot.unset).toArray = ls at hl ⊢
  have hl : lv_has ls 3 [(0, .ref (r 0)), (1, .ref (q 0))] := hl
  have hiX3 : ∀ w ∈ wsX30, w ∈ wsX3_save := by decide +kernel
  refine lv_aload_n hx hb dX3_save_0 rfl (lv_at hl 0 rfl) ?_
  refine va_get (D := D) (ci := 3) (v := .int (zI 1)) (C := RX3) (T := TX3) (N := 2) hx hb hts hiX3 hown hK hP 7 rfl rfl 1 (by decide) (hts (.fieldLink RX3 16 "ChargeEstimator$History" "size" "I") (List.mem_of_getElem? (i := 1) rfl)) (fun _ h9 => h9) rfl dX3_save_1 ?_
  refine zr_iconst hx hb dX3_save_4 ?_
  refine zr_icmp_lt (tgt := 12) hx hb dX3_save_5 (by decide) (by decide) (by decide) (fun c1 => ?_) (fun c1 => ?_)
  · refine lv_aload_n hx hb dX3_save_12 rfl (lv_at hl 0 rfl) ?_
    refine va_get (D := D) (ci := 3) (v := .ref (r 1)) (C := RX3) (T := TX3) (N := 2) hx hb hts hiX3 hown hK hP 7 rfl rfl 0 (by decide) (hts (.fieldLink RX3 11 "ChargeEstimator$History" "states" "[LChargeEstimator$Battery;") (List.mem_of_getElem? (i := 2) rfl)) (fun _ h9 => h9) rfl dX3_save_13 ?_
    refine lv_aload_n hx hb dX3_save_16 rfl (lv_at hl 0 rfl) ?_
    refine va_get (D := D) (ci := 3) (v := .int (zI 1)) (C := RX3) (T := TX3) (N := 2) hx hb hts hiX3 hown hK hP 7 rfl rfl 1 (by decide) (hts (.fieldLink RX3 16 "ChargeEstimator$History" "size" "I") (List.mem_of_getElem? (i := 1) rfl)) (fun _ h9 => h9) rfl dX3_save_17 ?_
    refine zr_aald (D := D) (C := RX1) hx hb hK hP 8 3 rfl rfl (by decide) (by decide) (show _ = some (h1 0) from rfl) dX3_save_20 ?_
    refine lv_astore_n (lv' := [(2, .ref (h1 0)), (0, .ref (r 0)), (1, .ref (q 0))]) hx hb dX3_save_21 rfl hl (by decide) rfl (fun ls hl => ?_)
    refine lv_aload_n hx hb dX3_save_22 rfl (lv_at hl 0 rfl) ?_
    refine lv_ifnull hx hb dX3_save_23 ?_
    refine lv_aload_n hx hb dX3_save_26 rfl (lv_at hl 0 rfl) ?_
    refine lv_aload_n hx hb dX3_save_27 rfl (lv_at hl 2 rfl) ?_
    refine zc_vj (w := zbat cs h1 S1 ++ zbat cs q A) (wr := [(r 0, .inr (3, [.ref (r 1), .int (zI 1)])), (r 1, .inl (cs 3, 4, .inr (.inr (.inr (.inr (zR (h0 0) (h1 0) (h2 0) (h3 0)))))))] ++ (zbat cs h0 S0 ++ (zbat cs h2 S2 ++ zbat cs h3 S3))) (va_runV (As := [.ref (q 0)]) (rest := []) ⟨hx, hb, hml, hown, hts⟩ (met_X1_copyFrom l D cs h1 q s.heap.size S1 A (by first | assumption | omega)) (cwV 1 hts gX3_save_X1_copyFrom rfl rfl rfl (by decide +kernel) ⟨Nat.le_of_ble_eq_true rfl, Nat.le_of_ble_eq_true rfl⟩) ⟨zPreZ.blind, va_recv hK hP (ci := 1) (q0 := 16) rfl rfl, fun U hU hW => zp_Z (hP.sub (ws' := zbat cs h1 S1 ++ zbat cs q A) [16, 17, 18, 19, 20, 21, 22, 0, 1, 2, 3, 4, 5, 6] rfl) hK (hD.sub (ws' := zbat cs h1 S1 ++ zbat cs q A) [16, 17, 18, 19, 20, 21, 22, 0, 1, 2, 3, 4, 5, 6] (by decide) rfl) hN hU hW⟩ rfl rfl hl.1 rfl (lv_room (Nat.le_of_ble_eq_true rfl)) dX3_save_28 ⟨Nat.le_of_ble_eq_true rfl, Nat.le_of_ble_eq_true rfl⟩) hS hP hD hA [16, 17, 18, 19, 20, 21, 22, 0, 1, 2, 3, 4, 5, 6] [7, 8, 9, 10, 11, 12, 13, 14, 15, 23, 24, 25, 26, 27, 28, 29, 30, 31, 32, 33, 34, 35, 36] rfl rfl (by decide) (by decide) (fun H locs hP hD hS => ?_)
    have hP : va_P D vwCl (zbat cs q A ++ ([(r 0, .inr (3, [.ref (r 1), .int (zI 1)])), (r 1, .inl (cs 3, 4, .inr (.inr (.inr (.inr (zR (h0 0) (h1 0) (h2 0) (h3 0)))))))] ++ (zbat cs h0 S0 ++ (zbat cs h1 A ++ (zbat cs h2 S2 ++ zbat cs h3 S3))))) H := hP.sub (ws' := zbat cs q A ++ ([(r 0, .inr (3, [.ref (r 1), .int (zI 1)])), (r 1, .inl (cs 3, 4, .inr (.inr (.inr (.inr (zR (h0 0) (h1 0) (h2 0) (h3 0)))))))] ++ (zbat cs h0 S0 ++ (zbat cs h1 A ++ (zbat cs h2 S2 ++ zbat cs h3 S3))))) [30, 31, 32, 33, 34, 35, 36, 0, 1, 2, 3, 4, 5, 6, 7, 8, 23, 24, 25, 26, 27, 28, 29, 9, 10, 11, 12, 13, 14, 15, 16, 17, 18, 19, 20, 21, 22] rfl
    have hD : va_D A0 (zbat cs q A ++ ([(r 0, .inr (3, [.ref (r 1), .int (zI 1)])), (r 1, .inl (cs 3, 4, .inr (.inr (.inr (.inr (zR (h0 0) (h1 0) (h2 0) (h3 0)))))))] ++ (zbat cs h0 S0 ++ (zbat cs h1 A ++ (zbat cs h2 S2 ++ zbat cs h3 S3))))) := hD.sub (ws' := zbat cs q A ++ ([(r 0, .inr (3, [.ref (r 1), .int (zI 1)])), (r 1, .inl (cs 3, 4, .inr (.inr (.inr (.inr (zR (h0 0) (h1 0) (h2 0) (h3 0)))))))] ++ (zbat cs h0 S0 ++ (zbat cs h1 A ++ (zbat cs h2 S2 ++ zbat cs h3 S3))))) [30, 31, 32, 33, 34, 35, 36, 0, 1, 2, 3, 4, 5, 6, 7, 8, 23, 24, 25, 26, 27, 28, 29, 9, 10, 11, 12, 13, 14, 15, 16, 17, 18, 19, 20, 21, 22] (by decide) rfl
    refine lv_aload_n hx hb dX3_save_31 rfl (lv_at hl 1 rfl) ?_
    refine lv_dup hx hb dX3_save_32 rfl ?_
    refine va_get (D := D) (ci := 3) (v := .int (zI 1)) (C := RX3) (T := TX3) (N := 2) hx hb hts hiX3 hown hK hP 7 rfl rfl 1 (by decide) (hts (.fieldLink RX3 16 "ChargeEstimator$History" "size" "I") (List.mem_of_getElem? (i := 1) rfl)) (fun _ h9 => h9) rfl dX3_save_33 ?_
    refine zr_iconst hx hb dX3_save_36 ?_
    refine zr_iadd hx hb dX3_save_37 ?_
    refine zr_topi (b := 2) (by decide) ?_
    refine va_put (D := D) (ci := 3) (v := .int (zI 2)) (ty := .int) (C := RX3) (T := TX3) (N := 2) hx hb hts hiX3 tyX3 tyX3_ok nmX3 hown hK hP hD hS 7 rfl rfl 1 (by decide) (hts (.fieldLink RX3 16 "ChargeEstimator$History" "size" "I") (List.mem_of_getElem? (i := 1) rfl)) (fun _ h9 => h9) rfl (by decide +kernel) rfl rfl (Nat.le_of_ble_eq_true rfl) dX3_save_38 (fun H locs hP hD hS => ?_)
    have hP : va_P D vwCl (zbat cs q A ++ ([(r 0, .inr (3, [.ref (r 1), .int (zI 2)])), (r 1, .inl (cs 3, 4, .inr (.inr (.inr (.inr (zR (h0 0) (h1 0) (h2 0) (h3 0)))))))] ++ (zbat cs h0 S0 ++ (zbat cs h1 A ++ (zbat cs h2 S2 ++ zbat cs h3 S3))))) H := hP
    have hD : va_D A0 (zbat cs q A ++ ([(r 0, .inr (3, [.ref (r 1), .int (zI 2)])), (r 1, .inl (cs 3, 4, .inr (.inr (.inr (.inr (zR (h0 0) (h1 0) (h2 0) (h3 0)))))))] ++ (zbat cs h0 S0 ++ (zbat cs h1 A ++ (zbat cs h2 S2 ++ zbat cs h3 S3))))) := zD_addr hD rfl
    have hP9 : va_P D vwCl (zbat cs q A ++ ([(r 0, .inr (3, [.ref (r 1), .int (zI 2)])), (r 1, .inl (cs 3, 4, .inr (.inr (.inr (.inr (zR (h0 0) (h1 0) (h2 0) (h3 0)))))))] ++ (zbat cs h0 S0 ++ (zbat cs h1 A ++ (zbat cs h2 S2 ++ zbat cs h3 S3))))) H := hP
    have hD9 : va_D A0 (zbat cs q A ++ ([(r 0, .inr (3, [.ref (r 1), .int (zI 2)])), (r 1, .inl (cs 3, 4, .inr (.inr (.inr (.inr (zR (h0 0) (h1 0) (h2 0) (h3 0)))))))] ++ (zbat cs h0 S0 ++ (zbat cs h1 A ++ (zbat cs h2 S2 ++ zbat cs h3 S3))))) := zD_addr hD rfl
    subst hAe
    exact W.vret hx hb hr (fun t ht hW => ⟨⟨(), rfl, trivial, by rw [ht]; exact hP9, hD9⟩, hS.F ht⟩) hS.2.2 dX3_save_41
  · exact absurd c1 (by decide)
set_option maxHeartbeats 4000000 in
set_option maxRecDepth 100000 in
theorem met_X3_save_2 (l : Launch) (D : va_G) (cs : Nat → ClassId) (q r h0 h1 h2 h3 : Nat → Nat) (sz : Nat) (A S0 S1 S2 S3 : Int → Int) (k47 : 0 ≤ A 47 ∧ A 47 ≤ 1) : Met l yX3_save wsX3_save ({ frames := 3, cells := 0, slots := 0, locals := 60 }) (va_Pc [.ref (r 0), .ref (q 0)] (zPreZ D (zTy cs) (zbat cs q A ++ ([(r 0, .inr (3, [.ref (r 1), .int (zI 2)])), (r 1, .inl (cs 3, 4, .inr (.inr (.inr (.inr (zR (h0 0) (h1 0) (h2 0) (h3 0)))))))] ++ (zbat cs h0 S0 ++ (zbat cs h1 S1 ++ (zbat cs h2 S2 ++ zbat cs h3 S3))))) sz)) (zQv D (zbat cs q A ++ ([(r 0, .inr (3, [.ref (r 1), .int (zI 2)])), (r 1, .inl (cs 3, 4, .inr (.inr (.inr (.inr (zR (h0 0) (h1 0) (h2 0) (h3 0)))))))] ++ (zbat cs h0 S0 ++ (zbat cs h1 S1 ++ (zbat cs h2 S2 ++ zbat cs h3 S3))))) sz (zbat cs q A ++ ([(r 0, .inr (3, [.ref (r 1), .int (zI 3)])), (r 1, .inl (cs 3, 4, .inr (.inr (.inr (.inr (zR (h0 0) (h1 0) (h2 0) (h3 0)))))))] ++ (zbat cs h0 S0 ++ (zbat cs h1 S1 ++ (zbat cs h2 A ++ zbat cs h3 S3)))))) 0 0 (va_A (zbat cs q A ++ ([(r 0, .inr (3, [.ref (r 1), .int (zI 2)])), (r 1, .inl (cs 3, 4, .inr (.inr (.inr (.inr (zR (h0 0) (h1 0) (h2 0) (h3 0)))))))] ++ (zbat cs h0 S0 ++ (zbat cs h1 S1 ++ (zbat cs h2 S2 ++ zbat cs h3 S3))))) sz) := by
  refine Met.ofW (cc := cX3_save) (maxL := 3) (ret := none) (by decide) rfl ?_
  intro p e s m args below meth c s₁ B hml hv
  obtain ⟨rfl, hsz, hP, hK, hD0, hN⟩ := hv
  have hx := B.exec
  have hb := B.bytes
  have hr := B.returns
  have hts := atoms_spec (ws := wsX3_save) B.pre
  have hown : s.vm.findClass RX3 = some m.cls := findClass_of_methodNamed B.named
  have hlocks := B.notSynchronized
  subst hsz
  obtain ⟨A0, hAe⟩ : ∃ A0, A0 = va_A (zbat cs q A ++ ([(r 0, .inr (3, [.ref (r 1), .int (zI 2)])), (r 1, .inl (cs 3, 4, .inr (.inr (.inr (.inr (zR (h0 0) (h1 0) (h2 0) (h3 0)))))))] ++ (zbat cs h0 S0 ++ (zbat cs h1 S1 ++ (zbat cs h2 S2 ++ zbat cs h3 S3))))) s.heap.size := ⟨_, rfl⟩
  have hD := hD0.self (sz := s.heap.size)
  rw [← hAe] at hD
  have hA : ∀ q : Nat, s.heap.size ≤ q → A0 q := fun q h => by rw [hAe]; exact Or.inr h
  have hS : va_S A0 s.heap s.heap [] := va_S.rf
  have hP : va_P D vwCl (zbat cs q A ++ ([(r 0, .inr (3, [.ref (r 1), .int (zI 2)])), (r 1, .inl (cs 3, 4, .inr (.inr (.inr (.inr (zR (h0 0) (h1 0) (h2 0) (h3 0)))))))] ++ (zbat cs h0 S0 ++ (zbat cs h1 S1 ++ (zbat cs h2 S2 ++ zbat cs h3 S3))))) s.heap := hP
  have hl := lv_entry ([.ref (r 0), .ref (q 0)]) (n := 3) (Nat.le_of_ble_eq_true rfl)
  rw [lg_entry_eq]
  generalize (lg_sl ([.ref (r 0), .ref (q 0)]) ++ List.replicate (3 - (lg_sl ([.ref (r 0), .ref (q 0)])).length) Slot.unset).toArray = ls at hl ⊢
  have hl : lv_has ls 3 [(0, .ref (r 0)), (1, .ref (q 0))] := hl
  have hiX3 : ∀ w ∈ wsX30, w ∈ wsX3_save := by decide +kernel
  refine lv_aload_n hx hb dX3_save_0 rfl (lv_at hl 0 rfl) ?_
  refine va_get (D := D) (ci := 3) (v := .int (zI 2)) (C := RX3) (T := TX3) (N := 2) hx hb hts hiX3 hown hK hP 7 rfl rfl 1 (by decide) (hts (.fieldLink RX3 16 "ChargeEstimator$History" "size" "I") (List.mem_of_getElem? (i := 1) rfl)) (fun _ h9 => h9) rfl dX3_save_1 ?_
  refine zr_iconst hx hb dX3_save_4 ?_
  refine zr_icmp_lt (tgt := 12) hx hb dX3_save_5 (by decide) (by decide) (by decide) (fun c1 => ?_) (fun c1 => ?_)
  · refine lv_aload_n hx hb dX3_save_12 rfl (lv_at hl 0 rfl) ?_
    refine va_get (D := D) (ci := 3) (v := .ref (r 1)) (C := RX3) (T := TX3) (N := 2) hx hb hts hiX3 hown hK hP 7 rfl rfl 0 (by decide) (hts (.fieldLink RX3 11 "ChargeEstimator$History" "states" "[LChargeEstimator$Battery;") (List.mem_of_getElem? (i := 2) rfl)) (fun _ h9 => h9) rfl dX3_save_13 ?_
    refine lv_aload_n hx hb dX3_save_16 rfl (lv_at hl 0 rfl) ?_
    refine va_get (D := D) (ci := 3) (v := .int (zI 2)) (C := RX3) (T := TX3) (N := 2) hx hb hts hiX3 hown hK hP 7 rfl rfl 1 (by decide) (hts (.fieldLink RX3 16 "ChargeEstimator$History" "size" "I") (List.mem_of_getElem? (i := 1) rfl)) (fun _ h9 => h9) rfl dX3_save_17 ?_
    refine zr_aald (D := D) (C := RX1) hx hb hK hP 8 3 rfl rfl (by decide) (by decide) (show _ = some (h2 0) from rfl) dX3_save_20 ?_
    refine lv_astore_n (lv' := [(2, .ref (h2 0)), (0, .ref (r 0)), (1, .ref (q 0))]) hx hb dX3_save_21 rfl hl (by decide) rfl (fun ls hl => ?_)
    refine lv_aload_n hx hb dX3_save_22 rfl (lv_at hl 0 rfl) ?_
    refine lv_ifnull hx hb dX3_save_23 ?_
    refine lv_aload_n hx hb dX3_save_26 rfl (lv_at hl 0 rfl) ?_
    refine lv_aload_n hx hb dX3_save_27 rfl (lv_at hl 2 rfl) ?_
    refine zc_vj (w := zbat cs h2 S2 ++ zbat cs q A) (wr := [(r 0, .inr (3, [.ref (r 1), .int (zI 2)])), (r 1, .inl (cs 3, 4, .inr (.inr (.inr (.inr (zR (h0 0) (h1 0) (h2 0) (h3 0)))))))] ++ (zbat cs h0 S0 ++ (zbat cs h1 S1 ++ zbat cs h3 S3))) (va_runV (As := [.ref (q 0)]) (rest := []) ⟨hx, hb, hml, hown, hts⟩ (met_X1_copyFrom l D cs h2 q s.heap.size S2 A (by first | assumption | omega)) (cwV 1 hts gX3_save_X1_copyFrom rfl rfl rfl (by decide +kernel) ⟨Nat.le_of_ble_eq_true rfl, Nat.le_of_ble_eq_true rfl⟩) ⟨zPreZ.blind, va_recv hK hP (ci := 1) (q0 := 23) rfl rfl, fun U hU hW => zp_Z (hP.sub (ws' := zbat cs h2 S2 ++ zbat cs q A) [23, 24, 25, 26, 27, 28, 29, 0, 1, 2, 3, 4, 5, 6] rfl) hK (hD.sub (ws' := zbat cs h2 S2 ++ zbat cs q A) [23, 24, 25, 26, 27, 28, 29, 0, 1, 2, 3, 4, 5, 6] (by decide) rfl) hN hU hW⟩ rfl rfl hl.1 rfl (lv_room (Nat.le_of_ble_eq_true rfl)) dX3_save_28 ⟨Nat.le_of_ble_eq_true rfl, Nat.le_of_ble_eq_true rfl⟩) hS hP hD hA [23, 24, 25, 26, 27, 28, 29, 0, 1, 2, 3, 4, 5, 6] [7, 8, 9, 10, 11, 12, 13, 14, 15, 16, 17, 18, 19, 20, 21, 22, 30, 31, 32, 33, 34, 35, 36] rfl rfl (by decide) (by decide) (fun H locs hP hD hS => ?_)
    have hP : va_P D vwCl (zbat cs q A ++ ([(r 0, .inr (3, [.ref (r 1), .int (zI 2)])), (r 1, .inl (cs 3, 4, .inr (.inr (.inr (.inr (zR (h0 0) (h1 0) (h2 0) (h3 0)))))))] ++ (zbat cs h0 S0 ++ (zbat cs h1 S1 ++ (zbat cs h2 A ++ zbat cs h3 S3))))) H := hP.sub (ws' := zbat cs q A ++ ([(r 0, .inr (3, [.ref (r 1), .int (zI 2)])), (r 1, .inl (cs 3, 4, .inr (.inr (.inr (.inr (zR (h0 0) (h1 0) (h2 0) (h3 0)))))))] ++ (zbat cs h0 S0 ++ (zbat cs h1 S1 ++ (zbat cs h2 A ++ zbat cs h3 S3))))) [30, 31, 32, 33, 34, 35, 36, 0, 1, 2, 3, 4, 5, 6, 7, 8, 9, 10, 11, 12, 13, 14, 15, 23, 24, 25, 26, 27, 28, 29, 16, 17, 18, 19, 20, 21, 22] rfl
    have hD : va_D A0 (zbat cs q A ++ ([(r 0, .inr (3, [.ref (r 1), .int (zI 2)])), (r 1, .inl (cs 3, 4, .inr (.inr (.inr (.inr (zR (h0 0) (h1 0) (h2 0) (h3 0)))))))] ++ (zbat cs h0 S0 ++ (zbat cs h1 S1 ++ (zbat cs h2 A ++ zbat cs h3 S3))))) := hD.sub (ws' := zbat cs q A ++ ([(r 0, .inr (3, [.ref (r 1), .int (zI 2)])), (r 1, .inl (cs 3, 4, .inr (.inr (.inr (.inr (zR (h0 0) (h1 0) (h2 0) (h3 0)))))))] ++ (zbat cs h0 S0 ++ (zbat cs h1 S1 ++ (zbat cs h2 A ++ zbat cs h3 S3))))) [30, 31, 32, 33, 34, 35, 36, 0, 1, 2, 3, 4, 5, 6, 7, 8, 9, 10, 11, 12, 13, 14, 15, 23, 24, 25, 26, 27, 28, 29, 16, 17, 18, 19, 20, 21, 22] (by decide) rfl
    refine lv_aload_n hx hb dX3_save_31 rfl (lv_at hl 1 rfl) ?_
    refine lv_dup hx hb dX3_save_32 rfl ?_
    refine va_get (D := D) (ci := 3) (v := .int (zI 2)) (C := RX3) (T := TX3) (N := 2) hx hb hts hiX3 hown hK hP 7 rfl rfl 1 (by decide) (hts (.fieldLink RX3 16 "ChargeEstimator$History" "size" "I") (List.mem_of_getElem? (i := 1) rfl)) (fun _ h9 => h9) rfl dX3_save_33 ?_
    refine zr_iconst hx hb dX3_save_36 ?_
    refine zr_iadd hx hb dX3_save_37 ?_
    refine zr_topi (b := 3) (by decide) ?_
    refine va_put (D := D) (ci := 3) (v := .int (zI 3)) (ty := .int) (C := RX3) (T := TX3) (N := 2) hx hb hts hiX3 tyX3 tyX3_ok nmX3 hown hK hP hD hS 7 rfl rfl 1 (by decide) (hts (.fieldLink RX3 16 "ChargeEstimator$History" "size" "I") (List.mem_of_getElem? (i := 1) rfl)) (fun _ h9 => h9) rfl (by decide +kernel) rfl rfl (Nat.le_of_ble_eq_true rfl) dX3_save_38 (fun H locs hP hD hS => ?_)
    have hP : va_P D vwCl (zbat cs q A ++ ([(r 0, .inr (3, [.ref (r 1), .int (zI 3)])), (r 1, .inl (cs 3, 4, .inr (.inr (.inr (.inr (zR (h0 0) (h1 0) (h2 0) (h3 0)))))))] ++ (zbat cs h0 S0 ++ (zbat cs h1 S1 ++ (zbat cs h2 A ++ zbat cs h3 S3))))) H := hP
    have hD : va_D A0 (zbat cs q A ++ ([(r 0, .inr (3, [.ref (r 1), .int (zI 3)])), (r 1, .inl (cs 3, 4, .inr (.inr (.inr (.inr (zR (h0 0) (h1 0) (h2 0) (h3 0)))))))] ++ (zbat cs h0 S0 ++ (zbat cs h1 S1 ++ (zbat cs h2 A ++ zbat cs h3 S3))))) := zD_addr hD rfl
    have hP9 : va_P D vwCl (zbat cs q A ++ ([(r 0, .inr (3, [.ref (r 1), .int (zI 3)])), (r 1, .inl (cs 3, 4, .inr (.inr (.inr (.inr (zR (h0 0) (h1 0) (h2 0) (h3 0)))))))] ++ (zbat cs h0 S0 ++ (zbat cs h1 S1 ++ (zbat cs h2 A ++ zbat cs h3 S3))))) H := hP
    have hD9 : va_D A0 (zbat cs q A ++ ([(r 0, .inr (3, [.ref (r 1), .int (zI 3)])), (r 1, .inl (cs 3, 4, .inr (.inr (.inr (.inr (zR (h0 0) (h1 0) (h2 0) (h3 0)))))))] ++ (zbat cs h0 S0 ++ (zbat cs h1 S1 ++ (zbat cs h2 A ++ zbat cs h3 S3))))) := zD_addr hD rfl
    subst hAe
    exact W.vret hx hb hr (fun t ht hW => ⟨⟨(), rfl, trivial, by rw [ht]; exact hP9, hD9⟩, hS.F ht⟩) hS.2.2 dX3_save_41
  · exact absurd c1 (by decide)
set_option maxHeartbeats 4000000 in
set_option maxRecDepth 100000 in
theorem met_X3_save_3 (l : Launch) (D : va_G) (cs : Nat → ClassId) (q r h0 h1 h2 h3 : Nat → Nat) (sz : Nat) (A S0 S1 S2 S3 : Int → Int) (k47 : 0 ≤ A 47 ∧ A 47 ≤ 1) : Met l yX3_save wsX3_save ({ frames := 3, cells := 0, slots := 0, locals := 60 }) (va_Pc [.ref (r 0), .ref (q 0)] (zPreZ D (zTy cs) (zbat cs q A ++ ([(r 0, .inr (3, [.ref (r 1), .int (zI 3)])), (r 1, .inl (cs 3, 4, .inr (.inr (.inr (.inr (zR (h0 0) (h1 0) (h2 0) (h3 0)))))))] ++ (zbat cs h0 S0 ++ (zbat cs h1 S1 ++ (zbat cs h2 S2 ++ zbat cs h3 S3))))) sz)) (zQv D (zbat cs q A ++ ([(r 0, .inr (3, [.ref (r 1), .int (zI 3)])), (r 1, .inl (cs 3, 4, .inr (.inr (.inr (.inr (zR (h0 0) (h1 0) (h2 0) (h3 0)))))))] ++ (zbat cs h0 S0 ++ (zbat cs h1 S1 ++ (zbat cs h2 S2 ++ zbat cs h3 S3))))) sz (zbat cs q A ++ ([(r 0, .inr (3, [.ref (r 1), .int (zI 4)])), (r 1, .inl (cs 3, 4, .inr (.inr (.inr (.inr (zR (h0 0) (h1 0) (h2 0) (h3 0)))))))] ++ (zbat cs h0 S0 ++ (zbat cs h1 S1 ++ (zbat cs h2 S2 ++ zbat cs h3 A)))))) 0 0 (va_A (zbat cs q A ++ ([(r 0, .inr (3, [.ref (r 1), .int (zI 3)])), (r 1, .inl (cs 3, 4, .inr (.inr (.inr (.inr (zR (h0 0) (h1 0) (h2 0) (h3 0)))))))] ++ (zbat cs h0 S0 ++ (zbat cs h1 S1 ++ (zbat cs h2 S2 ++ zbat cs h3 S3))))) sz) := by
  refine Met.ofW (cc := cX3_save) (maxL := 3) (ret := none) (by decide) rfl ?_
  intro p e s m args below meth c s₁ B hml hv
  obtain ⟨rfl, hsz, hP, hK, hD0, hN⟩ := hv
  have hx := B.exec
  have hb := B.bytes
  have hr := B.returns
  have hts := atoms_spec (ws := wsX3_save) B.pre
  have hown : s.vm.findClass RX3 = some m.cls := findClass_of_methodNamed B.named
  have hlocks := B.notSynchronized
  subst hsz
  obtain ⟨A0, hAe⟩ : ∃ A0, A0 = va_A (zbat cs q A ++ ([(r 0, .inr (3, [.ref (r 1), .int (zI 3)])), (r 1, .inl (cs 3, 4, .inr (.inr (.inr (.inr (zR (h0 0) (h1 0) (h2 0) (h3 0)))))))] ++ (zbat cs h0 S0 ++ (zbat cs h1 S1 ++ (zbat cs h2 S2 ++ zbat cs h3 S3))))) s.heap.size := ⟨_, rfl⟩
  have hD := hD0.self (sz := s.heap.size)
  rw [← hAe] at hD
  have hA : ∀ q : Nat, s.heap.size ≤ q → A0 q := fun q h => by rw [hAe]; exact Or.inr h
  have hS : va_S A0 s.heap s.heap [] := va_S.rf
  have hP : va_P D vwCl (zbat cs q A ++ ([(r 0, .inr (3, [.ref (r 1), .int (zI 3)])), (r 1, .inl (cs 3, 4, .inr (.inr (.inr (.inr (zR (h0 0) (h1 0) (h2 0) (h3 0)))))))] ++ (zbat cs h0 S0 ++ (zbat cs h1 S1 ++ (zbat cs h2 S2 ++ zbat cs h3 S3))))) s.heap := hP
  have hl := lv_entry ([.ref (r 0), .ref (q 0)]) (n := 3) (Nat.le_of_ble_eq_true rfl)
  rw [lg_entry_eq]
  generalize (lg_sl ([.ref (r 0), .ref (q 0)]) ++ List.replicate (3 - (lg_sl ([.ref (r 0), .ref (q 0)])).length) Slot.unset).toArray = ls at hl ⊢
  have hl : lv_has ls 3 [(0, .ref (r 0)), (1, .ref (q 0))] := hl
  have hiX3 : ∀ w ∈ wsX30, w ∈ wsX3_save := by decide +kernel
  refine lv_aload_n hx hb dX3_save_0 rfl (lv_at hl 0 rfl) ?_
  refine va_get (D := D) (ci := 3) (v := .int (zI 3)) (C := RX3) (T := TX3) (N := 2) hx hb hts hiX3 hown hK hP 7 rfl rfl 1 (by decide) (hts (.fieldLink RX3 16 "ChargeEstimator$History" "size" "I") (List.mem_of_getElem? (i := 1) rfl)) (fun _ h9 => h9) rfl dX3_save_1 ?_
  refine zr_iconst hx hb dX3_save_4 ?_
  refine zr_icmp_lt (tgt := 12) hx hb dX3_save_5 (by decide) (by decide) (by decide) (fun c1 => ?_) (fun c1 => ?_)
  · refine lv_aload_n hx hb dX3_save_12 rfl (lv_at hl 0 rfl) ?_
    refine va_get (D := D) (ci := 3) (v := .ref (r 1)) (C := RX3) (T := TX3) (N := 2) hx hb hts hiX3 hown hK hP 7 rfl rfl 0 (by decide) (hts (.fieldLink RX3 11 "ChargeEstimator$History" "states" "[LChargeEstimator$Battery;") (List.mem_of_getElem? (i := 2) rfl)) (fun _ h9 => h9) rfl dX3_save_13 ?_
    refine lv_aload_n hx hb dX3_save_16 rfl (lv_at hl 0 rfl) ?_
    refine va_get (D := D) (ci := 3) (v := .int (zI 3)) (C := RX3) (T := TX3) (N := 2) hx hb hts hiX3 hown hK hP 7 rfl rfl 1 (by decide) (hts (.fieldLink RX3 16 "ChargeEstimator$History" "size" "I") (List.mem_of_getElem? (i := 1) rfl)) (fun _ h9 => h9) rfl dX3_save_17 ?_
    refine zr_aald (D := D) (C := RX1) hx hb hK hP 8 3 rfl rfl (by decide) (by decide) (show _ = some (h3 0) from rfl) dX3_save_20 ?_
    refine lv_astore_n (lv' := [(2, .ref (h3 0)), (0, .ref (r 0)), (1, .ref (q 0))]) hx hb dX3_save_21 rfl hl (by decide) rfl (fun ls hl => ?_)
    refine lv_aload_n hx hb dX3_save_22 rfl (lv_at hl 0 rfl) ?_
    refine lv_ifnull hx hb dX3_save_23 ?_
    refine lv_aload_n hx hb dX3_save_26 rfl (lv_at hl 0 rfl) ?_
    refine lv_aload_n hx hb dX3_save_27 rfl (lv_at hl 2 rfl) ?_
    refine zc_vj (w := zbat cs h3 S3 ++ zbat cs q A) (wr := [(r 0, .inr (3, [.ref (r 1), .int (zI 3)])), (r 1, .inl (cs 3, 4, .inr (.inr (.inr (.inr (zR (h0 0) (h1 0) (h2 0) (h3 0)))))))] ++ (zbat cs h0 S0 ++ (zbat cs h1 S1 ++ zbat cs h2 S2))) (va_runV (As := [.ref (q 0)]) (rest := []) ⟨hx, hb, hml, hown, hts⟩ (met_X1_copyFrom l D cs h3 q s.heap.size S3 A (by first | assumption | omega)) (cwV 1 hts gX3_save_X1_copyFrom rfl rfl rfl (by decide +kernel) ⟨Nat.le_of_ble_eq_true rfl, Nat.le_of_ble_eq_true rfl⟩) ⟨zPreZ.blind, va_recv hK hP (ci := 1) (q0 := 30) rfl rfl, fun U hU hW => zp_Z (hP.sub (ws' := zbat cs h3 S3 ++ zbat cs q A) [30, 31, 32, 33, 34, 35, 36, 0, 1, 2, 3, 4, 5, 6] rfl) hK (hD.sub (ws' := zbat cs h3 S3 ++ zbat cs q A) [30, 31, 32, 33, 34, 35, 36, 0, 1, 2, 3, 4, 5, 6] (by decide) rfl) hN hU hW⟩ rfl rfl hl.1 rfl (lv_room (Nat.le_of_ble_eq_true rfl)) dX3_save_28 ⟨Nat.le_of_ble_eq_true rfl, Nat.le_of_ble_eq_true rfl⟩) hS hP hD hA [30, 31, 32, 33, 34, 35, 36, 0, 1, 2, 3, 4, 5, 6] [7, 8, 9, 10, 11, 12, 13, 14, 15, 16, 17, 18, 19, 20, 21, 22, 23, 24, 25, 26, 27, 28, 29] rfl rfl (by decide) (by decide) (fun H locs hP hD hS => ?_)
    have hP : va_P D vwCl (zbat cs q A ++ ([(r 0, .inr (3, [.ref (r 1), .int (zI 3)])), (r 1, .inl (cs 3, 4, .inr (.inr (.inr (.inr (zR (h0 0) (h1 0) (h2 0) (h3 0)))))))] ++ (zbat cs h0 S0 ++ (zbat cs h1 S1 ++ (zbat cs h2 S2 ++ zbat cs h3 A))))) H := hP.sub (ws' := zbat cs q A ++ ([(r 0, .inr (3, [.ref (r 1), .int (zI 3)])), (r 1, .inl (cs 3, 4, .inr (.inr (.inr (.inr (zR (h0 0) (h1 0) (h2 0) (h3 0)))))))] ++ (zbat cs h0 S0 ++ (zbat cs h1 S1 ++ (zbat cs h2 S2 ++ zbat cs h3 A))))) [30, 31, 32, 33, 34, 35, 36, 0, 1, 2, 3, 4, 5, 6, 7, 8, 9, 10, 11, 12, 13, 14, 15, 16, 17, 18, 19, 20, 21, 22, 23, 24, 25, 26, 27, 28, 29] rfl
    have hD : va_D A0 (zbat cs q A ++ ([(r 0, .inr (3, [.ref (r 1), .int (zI 3)])), (r 1, .inl (cs 3, 4, .inr (.inr (.inr (.inr (zR (h0 0) (h1 0) (h2 0) (h3 0)))))))] ++ (zbat cs h0 S0 ++ (zbat cs h1 S1 ++ (zbat cs h2 S2 ++ zbat cs h3 A))))) := hD.sub (ws' := zbat cs q A ++ ([(r 0, .inr (3, [.ref (r 1), .int (zI 3)])), (r 1, .inl (cs 3, 4, .inr (.inr (.inr (.inr (zR (h0 0) (h1 0) (h2 0) (h3 0)))))))] ++ (zbat cs h0 S0 ++ (zbat cs h1 S1 ++ (zbat cs h2 S2 ++ zbat cs h3 A))))) [30, 31, 32, 33, 34, 35, 36, 0, 1, 2, 3, 4, 5, 6, 7, 8, 9, 10, 11, 12, 13, 14, 15, 16, 17, 18, 19, 20, 21, 22, 23, 24, 25, 26, 27, 28, 29] (by decide) rfl
    refine lv_aload_n hx hb dX3_save_31 rfl (lv_at hl 1 rfl) ?_
    refine lv_dup hx hb dX3_save_32 rfl ?_
    refine va_get (D := D) (ci := 3) (v := .int (zI 3)) (C := RX3) (T := TX3) (N := 2) hx hb hts hiX3 hown hK hP 7 rfl rfl 1 (by decide) (hts (.fieldLink RX3 16 "ChargeEstimator$History" "size" "I") (List.mem_of_getElem? (i := 1) rfl)) (fun _ h9 => h9) rfl dX3_save_33 ?_
    refine zr_iconst hx hb dX3_save_36 ?_
    refine zr_iadd hx hb dX3_save_37 ?_
    refine zr_topi (b := 4) (by decide) ?_
    refine va_put (D := D) (ci := 3) (v := .int (zI 4)) (ty := .int) (C := RX3) (T := TX3) (N := 2) hx hb hts hiX3 tyX3 tyX3_ok nmX3 hown hK hP hD hS 7 rfl rfl 1 (by decide) (hts (.fieldLink RX3 16 "ChargeEstimator$History" "size" "I") (List.mem_of_getElem? (i := 1) rfl)) (fun _ h9 => h9) rfl (by decide +kernel) rfl rfl (Nat.le_of_ble_eq_true rfl) dX3_save_38 (fun H locs hP hD hS => ?_)
    have hP : va_P D vwCl (zbat cs q A ++ ([(r 0, .inr (3, [.ref (r 1), .int (zI 4)])), (r 1, .inl (cs 3, 4, .inr (.inr (.inr (.inr (zR (h0 0) (h1 0) (h2 0) (h3 0)))))))] ++ (zbat cs h0 S0 ++ (zbat cs h1 S1 ++ (zbat cs h2 S2 ++ zbat cs h3 A))))) H := hP
    have hD : va_D A0 (zbat cs q A ++ ([(r 0, .inr (3, [.ref (r 1), .int (zI 4)])), (r 1, .inl (cs 3, 4, .inr (.inr (.inr (.inr (zR (h0 0) (h1 0) (h2 0) (h3 0)))))))] ++ (zbat cs h0 S0 ++ (zbat cs h1 S1 ++ (zbat cs h2 S2 ++ zbat cs h3 A))))) := zD_addr hD rfl
    have hP9 : va_P D vwCl (zbat cs q A ++ ([(r 0, .inr (3, [.ref (r 1), .int (zI 4)])), (r 1, .inl (cs 3, 4, .inr (.inr (.inr (.inr (zR (h0 0) (h1 0) (h2 0) (h3 0)))))))] ++ (zbat cs h0 S0 ++ (zbat cs h1 S1 ++ (zbat cs h2 S2 ++ zbat cs h3 A))))) H := hP
    have hD9 : va_D A0 (zbat cs q A ++ ([(r 0, .inr (3, [.ref (r 1), .int (zI 4)])), (r 1, .inl (cs 3, 4, .inr (.inr (.inr (.inr (zR (h0 0) (h1 0) (h2 0) (h3 0)))))))] ++ (zbat cs h0 S0 ++ (zbat cs h1 S1 ++ (zbat cs h2 S2 ++ zbat cs h3 A))))) := zD_addr hD rfl
    subst hAe
    exact W.vret hx hb hr (fun t ht hW => ⟨⟨(), rfl, trivial, by rw [ht]; exact hP9, hD9⟩, hS.F ht⟩) hS.2.2 dX3_save_41
  · exact absurd c1 (by decide)
set_option maxHeartbeats 4000000 in
set_option maxRecDepth 100000 in
theorem met_X3_save_4 (l : Launch) (D : va_G) (cs : Nat → ClassId) (q r h0 h1 h2 h3 : Nat → Nat) (sz : Nat) (A S0 S1 S2 S3 : Int → Int) (k47 : 0 ≤ A 47 ∧ A 47 ≤ 1) : Met l yX3_save wsX3_save ({ frames := 3, cells := 0, slots := 0, locals := 60 }) (va_Pc [.ref (r 0), .ref (q 0)] (zPreZ D (zTy cs) (zbat cs q A ++ ([(r 0, .inr (3, [.ref (r 1), .int (zI 4)])), (r 1, .inl (cs 3, 4, .inr (.inr (.inr (.inr (zR (h0 0) (h1 0) (h2 0) (h3 0)))))))] ++ (zbat cs h0 S0 ++ (zbat cs h1 S1 ++ (zbat cs h2 S2 ++ zbat cs h3 S3))))) sz)) (zQv D (zbat cs q A ++ ([(r 0, .inr (3, [.ref (r 1), .int (zI 4)])), (r 1, .inl (cs 3, 4, .inr (.inr (.inr (.inr (zR (h0 0) (h1 0) (h2 0) (h3 0)))))))] ++ (zbat cs h0 S0 ++ (zbat cs h1 S1 ++ (zbat cs h2 S2 ++ zbat cs h3 S3))))) sz (zbat cs q A ++ ([(r 0, .inr (3, [.ref (r 1), .int (zI 4)])), (r 1, .inl (cs 3, 4, .inr (.inr (.inr (.inr (zR (h1 0) (h2 0) (h3 0) (h0 0)))))))] ++ (zbat cs h1 S1 ++ (zbat cs h2 S2 ++ (zbat cs h3 S3 ++ zbat cs h0 A)))))) 0 0 (va_A (zbat cs q A ++ ([(r 0, .inr (3, [.ref (r 1), .int (zI 4)])), (r 1, .inl (cs 3, 4, .inr (.inr (.inr (.inr (zR (h0 0) (h1 0) (h2 0) (h3 0)))))))] ++ (zbat cs h0 S0 ++ (zbat cs h1 S1 ++ (zbat cs h2 S2 ++ zbat cs h3 S3))))) sz) := by
  refine Met.ofW (cc := cX3_save) (maxL := 3) (ret := none) (by decide) rfl ?_
  intro p e s m args below meth c s₁ B hml hv
  obtain ⟨rfl, hsz, hP, hK, hD0, hN⟩ := hv
  have hx := B.exec
  have hb := B.bytes
  have hr := B.returns
  have hts := atoms_spec (ws := wsX3_save) B.pre
  have hown : s.vm.findClass RX3 = some m.cls := findClass_of_methodNamed B.named
  have hlocks := B.notSynchronized
  subst hsz
  obtain ⟨A0, hAe⟩ : ∃ A0, A0 = va_A (zbat cs q A ++ ([(r 0, .inr (3, [.ref (r 1), .int (zI 4)])), (r 1, .inl (cs 3, 4, .inr (.inr (.inr (.inr (zR (h0 0) (h1 0) (h2 0) (h3 0)))))))] ++ (zbat cs h0 S0 ++ (zbat cs h1 S1 ++ (zbat cs h2 S2 ++ zbat cs h3 S3))))) s.heap.size := ⟨_, rfl⟩
  have hD := hD0.self (sz := s.heap.size)
  rw [← hAe] at hD
  have hA : ∀ q : Nat, s.heap.size ≤ q → A0 q := fun q h => by rw [hAe]; exact Or.inr h
  have hS : va_S A0 s.heap s.heap [] := va_S.rf
  have hP : va_P D vwCl (zbat cs q A ++ ([(r 0, .inr (3, [.ref (r 1), .int (zI 4)])), (r 1, .inl (cs 3, 4, .inr (.inr (.inr (.inr (zR (h0 0) (h1 0) (h2 0) (h3 0)))))))] ++ (zbat cs h0 S0 ++ (zbat cs h1 S1 ++ (zbat cs h2 S2 ++ zbat cs h3 S3))))) s.heap := hP
  have hl := lv_entry ([.ref (r 0), .ref (q 0)]) (n := 3) (Nat.le_of_ble_eq_true rfl)
  rw [lg_entry_eq]
  generalize (lg_sl ([.ref (r 0), .ref (q 0)]) ++ List.replicate (3 - (lg_sl ([.ref (r 0), .ref (q 0)])).length) Slot.unset).toArray = ls at hl ⊢
  have hl : lv_has ls 3 [(0, .ref (r 0)), (1, .ref (q 0))] := hl
  have hiX3 : ∀ w ∈ wsX30, w ∈ wsX3_save := by decide +kernel
  refine lv_aload_n hx hb dX3_save_0 rfl (lv_at hl 0 rfl) ?_
  refine va_get (D := D) (ci := 3) (v := .int (zI 4)) (C := RX3) (T := TX3) (N := 2) hx hb hts hiX3 hown hK hP 7 rfl rfl 1 (by decide) (hts (.fieldLink RX3 16 "ChargeEstimator$History" "size" "I") (List.mem_of_getElem? (i := 1) rfl)) (fun _ h9 => h9) rfl dX3_save_1 ?_
  refine zr_iconst hx hb dX3_save_4 ?_
  refine zr_icmp_lt (tgt := 12) hx hb dX3_save_5 (by decide) (by decide) (by decide) (fun c1 => ?_) (fun c1 => ?_)
  · exact absurd c1 (by decide)
  · refine lv_aload_n hx hb dX3_save_8 rfl (lv_at hl 0 rfl) ?_
    refine zc_vj (w := [(r 0, .inr (3, [.ref (r 1), .int (zI 4)])), (r 1, .inl (cs 3, 4, .inr (.inr (.inr (.inr (zR (h0 0) (h1 0) (h2 0) (h3 0)))))))] ++ (zbat cs h0 S0 ++ (zbat cs h1 S1 ++ (zbat cs h2 S2 ++ zbat cs h3 S3)))) (wr := zbat cs q A) (va_runV (As := []) (rest := []) ⟨hx, hb, hml, hown, hts⟩ (met_X3_dropOldest l D cs r h0 h1 h2 h3 s.heap.size S0 S1 S2 S3 4 ) (cwV 0 hts gX3_save_X3_dropOldest rfl rfl rfl (by decide +kernel) ⟨Nat.le_of_ble_eq_true rfl, Nat.le_of_ble_eq_true rfl⟩) ⟨zPreZ.blind, va_recv hK hP (ci := 3) (q0 := 7) rfl rfl, fun U hU hW => zp_Z (hP.sub (ws' := [(r 0, .inr (3, [.ref (r 1), .int (zI 4)])), (r 1, .inl (cs 3, 4, .inr (.inr (.inr (.inr (zR (h0 0) (h1 0) (h2 0) (h3 0)))))))] ++ (zbat cs h0 S0 ++ (zbat cs h1 S1 ++ (zbat cs h2 S2 ++ zbat cs h3 S3)))) [7, 8, 9, 10, 11, 12, 13, 14, 15, 16, 17, 18, 19, 20, 21, 22, 23, 24, 25, 26, 27, 28, 29, 30, 31, 32, 33, 34, 35, 36] rfl) hK (hD.sub (ws' := [(r 0, .inr (3, [.ref (r 1), .int (zI 4)])), (r 1, .inl (cs 3, 4, .inr (.inr (.inr (.inr (zR (h0 0) (h1 0) (h2 0) (h3 0)))))))] ++ (zbat cs h0 S0 ++ (zbat cs h1 S1 ++ (zbat cs h2 S2 ++ zbat cs h3 S3)))) [7, 8, 9, 10, 11, 12, 13, 14, 15, 16, 17, 18, 19, 20, 21, 22, 23, 24, 25, 26, 27, 28, 29, 30, 31, 32, 33, 34, 35, 36] (by decide) rfl) hN hU hW⟩ rfl rfl hl.1 rfl (lv_room (Nat.le_of_ble_eq_true rfl)) dX3_save_9 ⟨Nat.le_of_ble_eq_true rfl, Nat.le_of_ble_eq_true rfl⟩) hS hP hD hA [7, 8, 9, 10, 11, 12, 13, 14, 15, 16, 17, 18, 19, 20, 21, 22, 23, 24, 25, 26, 27, 28, 29, 30, 31, 32, 33, 34, 35, 36] [0, 1, 2, 3, 4, 5, 6] rfl rfl (by decide) (by decide) (fun H locs hP hD hS => ?_)
    have hP : va_P D vwCl (zbat cs q A ++ ([(r 0, .inr (3, [.ref (r 1), .int (zI 3)])), (r 1, .inl (cs 3, 4, .inr (.inr (.inr (.inr (zR (h1 0) (h2 0) (h3 0) (h0 0)))))))] ++ (zbat cs h0 S0 ++ (zbat cs h1 S1 ++ (zbat cs h2 S2 ++ zbat cs h3 S3))))) H := hP.sub (ws' := zbat cs q A ++ ([(r 0, .inr (3, [.ref (r 1), .int (zI 3)])), (r 1, .inl (cs 3, 4, .inr (.inr (.inr (.inr (zR (h1 0) (h2 0) (h3 0) (h0 0)))))))] ++ (zbat cs h0 S0 ++ (zbat cs h1 S1 ++ (zbat cs h2 S2 ++ zbat cs h3 S3))))) [0, 1, 2, 3, 4, 5, 6, 7, 8, 9, 10, 11, 12, 13, 14, 15, 16, 17, 18, 19, 20, 21, 22, 23, 24, 25, 26, 27, 28, 29, 30, 31, 32, 33, 34, 35, 36] rfl
    have hD : va_D A0 (zbat cs q A ++ ([(r 0, .inr (3, [.ref (r 1), .int (zI 3)])), (r 1, .inl (cs 3, 4, .inr (.inr (.inr (.inr (zR (h1 0) (h2 0) (h3 0) (h0 0)))))))] ++ (zbat cs h0 S0 ++ (zbat cs h1 S1 ++ (zbat cs h2 S2 ++ zbat cs h3 S3))))) := hD.sub (ws' := zbat cs q A ++ ([(r 0, .inr (3, [.ref (r 1), .int (zI 3)])), (r 1, .inl (cs 3, 4, .inr (.inr (.inr (.inr (zR (h1 0) (h2 0) (h3 0) (h0 0)))))))] ++ (zbat cs h0 S0 ++ (zbat cs h1 S1 ++ (zbat cs h2 S2 ++ zbat cs h3 S3))))) [0, 1, 2, 3, 4, 5, 6, 7, 8, 9, 10, 11, 12, 13, 14, 15, 16, 17, 18, 19, 20, 21, 22, 23, 24, 25, 26, 27, 28, 29, 30, 31, 32, 33, 34, 35, 36] (by decide) rfl
    refine lv_aload_n hx hb dX3_save_12 rfl (lv_at hl 0 rfl) ?_
    refine va_get (D := D) (ci := 3) (v := .ref (r 1)) (C := RX3) (T := TX3) (N := 2) hx hb hts hiX3 hown hK hP 7 rfl rfl 0 (by decide) (hts (.fieldLink RX3 11 "ChargeEstimator$History" "states" "[LChargeEstimator$Battery;") (List.mem_of_getElem? (i := 2) rfl)) (fun _ h9 => h9) rfl dX3_save_13 ?_
    refine lv_aload_n hx hb dX3_save_16 rfl (lv_at hl 0 rfl) ?_
    refine va_get (D := D) (ci := 3) (v := .int (zI 3)) (C := RX3) (T := TX3) (N := 2) hx hb hts hiX3 hown hK hP 7 rfl rfl 1 (by decide) (hts (.fieldLink RX3 16 "ChargeEstimator$History" "size" "I") (List.mem_of_getElem? (i := 1) rfl)) (fun _ h9 => h9) rfl dX3_save_17 ?_
    refine zr_aald (D := D) (C := RX1) hx hb hK hP 8 3 rfl rfl (by decide) (by decide) (show _ = some (h0 0) from rfl) dX3_save_20 ?_
    refine lv_astore_n (lv' := [(2, .ref (h0 0)), (0, .ref (r 0)), (1, .ref (q 0))]) hx hb dX3_save_21 rfl hl (by decide) rfl (fun ls hl => ?_)
    refine lv_aload_n hx hb dX3_save_22 rfl (lv_at hl 0 rfl) ?_
    refine lv_ifnull hx hb dX3_save_23 ?_
    refine lv_aload_n hx hb dX3_save_26 rfl (lv_at hl 0 rfl) ?_
    refine lv_aload_n hx hb dX3_save_27 rfl (lv_at hl 2 rfl) ?_
    refine zc_vj (w := zbat cs h0 S0 ++ zbat cs q A) (wr := [(r 0, .inr (3, [.ref (r 1), .int (zI 3)])), (r 1, .inl (cs 3, 4, .inr (.inr (.inr (.inr (zR (h1 0) (h2 0) (h3 0) (h0 0)))))))] ++ (zbat cs h1 S1 ++ (zbat cs h2 S2 ++ zbat cs h3 S3))) (va_runV (As := [.ref (q 0)]) (rest := []) ⟨hx, hb, hml, hown, hts⟩ (met_X1_copyFrom l D cs h0 q H.size S0 A (by first | assumption | omega)) (cwV 1 hts gX3_save_X1_copyFrom rfl rfl rfl (by decide +kernel) ⟨Nat.le_of_ble_eq_true rfl, Nat.le_of_ble_eq_true rfl⟩) ⟨zPreZ.blind, va_recv hK hP (ci := 1) (q0 := 9) rfl rfl, fun U hU hW => zp_Z (hP.sub (ws' := zbat cs h0 S0 ++ zbat cs q A) [9, 10, 11, 12, 13, 14, 15, 0, 1, 2, 3, 4, 5, 6] rfl) hK (hD.sub (ws' := zbat cs h0 S0 ++ zbat cs q A) [9, 10, 11, 12, 13, 14, 15, 0, 1, 2, 3, 4, 5, 6] (by decide) rfl) hN hU hW⟩ rfl rfl hl.1 rfl (lv_room (Nat.le_of_ble_eq_true rfl)) dX3_save_28 ⟨Nat.le_of_ble_eq_true rfl, Nat.le_of_ble_eq_true rfl⟩) hS hP hD hA [9, 10, 11, 12, 13, 14, 15, 0, 1, 2, 3, 4, 5, 6] [7, 8, 16, 17, 18, 19, 20, 21, 22, 23, 24, 25, 26, 27, 28, 29, 30, 31, 32, 33, 34, 35, 36] rfl rfl (by decide) (by decide) (fun H locs hP hD hS => ?_)
    have hP : va_P D vwCl (zbat cs q A ++ ([(r 0, .inr (3, [.ref (r 1), .int (zI 3)])), (r 1, .inl (cs 3, 4, .inr (.inr (.inr (.inr (zR (h1 0) (h2 0) (h3 0) (h0 0)))))))] ++ (zbat cs h0 A ++ (zbat cs h1 S1 ++ (zbat cs h2 S2 ++ zbat cs h3 S3))))) H := hP.sub (ws' := zbat cs q A ++ ([(r 0, .inr (3, [.ref (r 1), .int (zI 3)])), (r 1, .inl (cs 3, 4, .inr (.inr (.inr (.inr (zR (h1 0) (h2 0) (h3 0) (h0 0)))))))] ++ (zbat cs h0 A ++ (zbat cs h1 S1 ++ (zbat cs h2 S2 ++ zbat cs h3 S3))))) [30, 31, 32, 33, 34, 35, 36, 0, 1, 23, 24, 25, 26, 27, 28, 29, 2, 3, 4, 5, 6, 7, 8, 9, 10, 11, 12, 13, 14, 15, 16, 17, 18, 19, 20, 21, 22] rfl
    have hD : va_D A0 (zbat cs q A ++ ([(r 0, .inr (3, [.ref (r 1), .int (zI 3)])), (r 1, .inl (cs 3, 4, .inr (.inr (.inr (.inr (zR (h1 0) (h2 0) (h3 0) (h0 0)))))))] ++ (zbat cs h0 A ++ (zbat cs h1 S1 ++ (zbat cs h2 S2 ++ zbat cs h3 S3))))) := hD.sub (ws' := zbat cs q A ++ ([(r 0, .inr (3, [.ref (r 1), .int (zI 3)])), (r 1, .inl (cs 3, 4, .inr (.inr (.inr (.inr (zR (h1 0) (h2 0) (h3 0) (h0 0)))))))] ++ (zbat cs h0 A ++ (zbat cs h1 S1 ++ (zbat cs h2 S2 ++ zbat cs h3 S3))))) [30, 31, 32, 33, 34, 35, 36, 0, 1, 23, 24, 25, 26, 27, 28, 29, 2, 3, 4, 5, 6, 7, 8, 9, 10, 11, 12, 13, 14, 15, 16, 17, 18, 19, 20, 21, 22] (by decide) rfl
    refine lv_aload_n hx hb dX3_save_31 rfl (lv_at hl 1 rfl) ?_
    refine lv_dup hx hb dX3_save_32 rfl ?_
    refine va_get (D := D) (ci := 3) (v := .int (zI 3)) (C := RX3) (T := TX3) (N := 2) hx hb hts hiX3 hown hK hP 7 rfl rfl 1 (by decide) (hts (.fieldLink RX3 16 "ChargeEstimator$History" "size" "I") (List.mem_of_getElem? (i := 1) rfl)) (fun _ h9 => h9) rfl dX3_save_33 ?_
    refine zr_iconst hx hb dX3_save_36 ?_
    refine zr_iadd hx hb dX3_save_37 ?_
    refine zr_topi (b := 4) (by decide) ?_
    refine va_put (D := D) (ci := 3) (v := .int (zI 4)) (ty := .int) (C := RX3) (T := TX3) (N := 2) hx hb hts hiX3 tyX3 tyX3_ok nmX3 hown hK hP hD hS 7 rfl rfl 1 (by decide) (hts (.fieldLink RX3 16 "ChargeEstimator$History" "size" "I") (List.mem_of_getElem? (i := 1) rfl)) (fun _ h9 => h9) rfl (by decide +kernel) rfl rfl (Nat.le_of_ble_eq_true rfl) dX3_save_38 (fun H locs hP hD hS => ?_)
    have hP : va_P D vwCl (zbat cs q A ++ ([(r 0, .inr (3, [.ref (r 1), .int (zI 4)])), (r 1, .inl (cs 3, 4, .inr (.inr (.inr (.inr (zR (h1 0) (h2 0) (h3 0) (h0 0)))))))] ++ (zbat cs h0 A ++ (zbat cs h1 S1 ++ (zbat cs h2 S2 ++ zbat cs h3 S3))))) H := hP
    have hD : va_D A0 (zbat cs q A ++ ([(r 0, .inr (3, [.ref (r 1), .int (zI 4)])), (r 1, .inl (cs 3, 4, .inr (.inr (.inr (.inr (zR (h1 0) (h2 0) (h3 0) (h0 0)))))))] ++ (zbat cs h0 A ++ (zbat cs h1 S1 ++ (zbat cs h2 S2 ++ zbat cs h3 S3))))) := zD_addr hD rfl
    have hP : va_P D vwCl (zbat cs q A ++ ([(r 0, .inr (3, [.ref (r 1), .int (zI 4)])), (r 1, .inl (cs 3, 4, .inr (.inr (.inr (.inr (zR (h1 0) (h2 0) (h3 0) (h0 0)))))))] ++ (zbat cs h1 S1 ++ (zbat cs h2 S2 ++ (zbat cs h3 S3 ++ zbat cs h0 A))))) H := hP.sub (ws' := zbat cs q A ++ ([(r 0, .inr (3, [.ref (r 1), .int (zI 4)])), (r 1, .inl (cs 3, 4, .inr (.inr (.inr (.inr (zR (h1 0) (h2 0) (h3 0) (h0 0)))))))] ++ (zbat cs h1 S1 ++ (zbat cs h2 S2 ++ (zbat cs h3 S3 ++ zbat cs h0 A))))) [0, 1, 2, 3, 4, 5, 6, 7, 8, 16, 17, 18, 19, 20, 21, 22, 23, 24, 25, 26, 27, 28, 29, 30, 31, 32, 33, 34, 35, 36, 9, 10, 11, 12, 13, 14, 15] rfl
    have hD : va_D A0 (zbat cs q A ++ ([(r 0, .inr (3, [.ref (r 1), .int (zI 4)])), (r 1, .inl (cs 3, 4, .inr (.inr (.inr (.inr (zR (h1 0) (h2 0) (h3 0) (h0 0)))))))] ++ (zbat cs h1 S1 ++ (zbat cs h2 S2 ++ (zbat cs h3 S3 ++ zbat cs h0 A))))) := hD.sub (ws' := zbat cs q A ++ ([(r 0, .inr (3, [.ref (r 1), .int (zI 4)])), (r 1, .inl (cs 3, 4, .inr (.inr (.inr (.inr (zR (h1 0) (h2 0) (h3 0) (h0 0)))))))] ++ (zbat cs h1 S1 ++ (zbat cs h2 S2 ++ (zbat cs h3 S3 ++ zbat cs h0 A))))) [0, 1, 2, 3, 4, 5, 6, 7, 8, 16, 17, 18, 19, 20, 21, 22, 23, 24, 25, 26, 27, 28, 29, 30, 31, 32, 33, 34, 35, 36, 9, 10, 11, 12, 13, 14, 15] (by decide) rfl
    have hP9 : va_P D vwCl (zbat cs q A ++ ([(r 0, .inr (3, [.ref (r 1), .int (zI 4)])), (r 1, .inl (cs 3, 4, .inr (.inr (.inr (.inr (zR (h1 0) (h2 0) (h3 0) (h0 0)))))))] ++ (zbat cs h1 S1 ++ (zbat cs h2 S2 ++ (zbat cs h3 S3 ++ zbat cs h0 A))))) H := hP
    have hD9 : va_D A0 (zbat cs q A ++ ([(r 0, .inr (3, [.ref (r 1), .int (zI 4)])), (r 1, .inl (cs 3, 4, .inr (.inr (.inr (.inr (zR (h1 0) (h2 0) (h3 0) (h0 0)))))))] ++ (zbat cs h1 S1 ++ (zbat cs h2 S2 ++ (zbat cs h3 S3 ++ zbat cs h0 A))))) := zD_addr hD rfl
    subst hAe
    exact W.vret hx hb hr (fun t ht hW => ⟨⟨(), rfl, trivial, by rw [ht]; exact hP9, hD9⟩, hS.F ht⟩) hS.2.2 dX3_save_41
def zq4 (m : Int) (x y : Nat → Nat) : Nat → Nat := if m = 4 then x else y
def zs4 (m j : Int) (A S S1 : Int → Int) : Int → Int := if m = 4 then S1 else if m = j then A else S
def zm4 (m : Int) : Int := if m = 4 then 4 else m + 1
set_option maxRecDepth 100000 in
theorem met_X3_save (l : Launch) (D : va_G) (cs : Nat → ClassId) (q r h0 h1 h2 h3 : Nat → Nat) (sz : Nat) (A S0 S1 S2 S3 : Int → Int) (xm : Int) (k47 : 0 ≤ A 47 ∧ A 47 ≤ 1) (kxm : 0 ≤ xm ∧ xm ≤ 4) : Met l yX3_save wsX3_save ({ frames := 3, cells := 0, slots := 0, locals := 60 }) (va_Pc [.ref (r 0), .ref (q 0)] (zPreZ D (zTy cs) (zbat cs q A ++ zhis cs r h0 h1 h2 h3 S0 S1 S2 S3 xm) sz)) (zQv D (zbat cs q A ++ zhis cs r h0 h1 h2 h3 S0 S1 S2 S3 xm) sz (zbat cs q A ++ zhis cs r (zq4 xm h1 h0) (zq4 xm h2 h1) (zq4 xm h3 h2) (zq4 xm h0 h3) (zs4 xm 0 A S0 S1) (zs4 xm 1 A S1 S2) (zs4 xm 2 A S2 S3) (zs4 xm 3 A S3 A) (zm4 xm))) 0 0 (va_A (zbat cs q A ++ zhis cs r h0 h1 h2 h3 S0 S1 S2 S3 xm) sz) := by
  rcases (show xm = 0 ∨ xm = 1 ∨ xm = 2 ∨ xm = 3 ∨ xm = 4 by omega) with rfl | rfl | rfl | rfl | rfl
  · exact met_X3_save_0 l D cs q r h0 h1 h2 h3 sz A S0 S1 S2 S3 k47
  · exact met_X3_save_1 l D cs q r h0 h1 h2 h3 sz A S0 S1 S2 S3 k47
  · exact met_X3_save_2 l D cs q r h0 h1 h2 h3 sz A S0 S1 S2 S3 k47
  · exact met_X3_save_3 l D cs q r h0 h1 h2 h3 sz A S0 S1 S2 S3 k47
  · exact met_X3_save_4 l D cs q r h0 h1 h2 h3 sz A S0 S1 S2 S3 k47
set_option maxHeartbeats 4000000 in
set_option maxRecDepth 100000 in
theorem met_X3_restore_1 (l : Launch) (D : va_G) (cs : Nat → ClassId) (q r h0 h1 h2 h3 : Nat → Nat) (sz : Nat) (A S0 S1 S2 S3 : Int → Int) (k47 : 0 ≤ S0 47 ∧ S0 47 ≤ 1) : Met l yX3_restore wsX3_restore ({ frames := 3, cells := 0, slots := 0, locals := 60 }) (va_Pc [.ref (r 0), .ref (q 0)] (zPreZ D (zTy cs) (zbat cs q A ++ ([(r 0, .inr (3, [.ref (r 1), .int (zI 1)])), (r 1, .inl (cs 3, 4, .inr (.inr (.inr (.inr (zR (h0 0) (h1 0) (h2 0) (h3 0)))))))] ++ (zbat cs h0 S0 ++ (zbat cs h1 S1 ++ (zbat cs h2 S2 ++ zbat cs h3 S3))))) sz)) (zQv D (zbat cs q A ++ ([(r 0, .inr (3, [.ref (r 1), .int (zI 1)])), (r 1, .inl (cs 3, 4, .inr (.inr (.inr (.inr (zR (h0 0) (h1 0) (h2 0) (h3 0)))))))] ++ (zbat cs h0 S0 ++ (zbat cs h1 S1 ++ (zbat cs h2 S2 ++ zbat cs h3 S3))))) sz (zbat cs q S0 ++ ([(r 0, .inr (3, [.ref (r 1), .int (zI 0)])), (r 1, .inl (cs 3, 4, .inr (.inr (.inr (.inr (zR (h0 0) (h1 0) (h2 0) (h3 0)))))))] ++ (zbat cs h0 S0 ++ (zbat cs h1 S1 ++ (zbat cs h2 S2 ++ zbat cs h3 S3)))))) 0 0 (va_A (zbat cs q A ++ ([(r 0, .inr (3, [.ref (r 1), .int (zI 1)])), (r 1, .inl (cs 3, 4, .inr (.inr (.inr (.inr (zR (h0 0) (h1 0) (h2 0) (h3 0)))))))] ++ (zbat cs h0 S0 ++ (zbat cs h1 S1 ++ (zbat cs h2 S2 ++ zbat cs h3 S3))))) sz) := by
  refine Met.ofW (cc := cX3_restore) (maxL := 3) (ret := none) (by decide) rfl ?_
  intro p e s m args below meth c s₁ B hml hv
  obtain ⟨rfl, hsz, hP, hK, hD0, hN⟩ := hv
  have hx := B.exec
  have hb := B.bytes
  have hr := B.returns
  have hts := atoms_spec (ws := wsX3_restore) B.pre
  have hown : s.vm.findClass RX3 = some m.cls := findClass_of_methodNamed B.named
  have hlocks := B.notSynchronized
  subst hsz
  obtain ⟨A0, hAe⟩ : ∃ A0, A0 = va_A (zbat cs q A ++ ([(r 0, .inr (3, [.ref (r 1), .int (zI 1)])), (r 1, .inl (cs 3, 4, .inr (.inr (.inr (.inr (zR (h0 0) (h1 0) (h2 0) (h3 0)))))))] ++ (zbat cs h0 S0 ++ (zbat cs h1 S1 ++ (zbat cs h2 S2 ++ zbat cs h3 S3))))) s.heap.size := ⟨_, rfl⟩
  have hD := hD0.self (sz := s.heap.size)
  rw [← hAe] at hD
  have hA : ∀ q : Nat, s.heap.size ≤ q → A0 q := fun q h => by rw [hAe]; exact Or.inr h
  have hS : va_S A0 s.heap s.heap [] := va_S.rf
  have hP : va_P D vwCl (zbat cs q A ++ ([(r 0, .inr (3, [.ref (r 1), .int (zI 1)])), (r 1, .inl (cs 3, 4, .inr (.inr (.inr (.inr (zR (h0 0) (h1 0) (h2 0) (h3 0)))))))] ++ (zbat cs h0 S0 ++ (zbat cs h1 S1 ++ (zbat cs h2 S2 ++ zbat cs h3 S3))))) s.heap := hP
  have hl := lv_entry ([.ref (r 0), .ref (q 0)]) (n := 3) (Nat.le_of_ble_eq_true rfl)
  rw [lg_entry_eq]
  generalize (lg_sl ([.ref (r 0), .ref (q 0)]) ++ List.replicate (3 - (lg_sl ([.ref (r 0), .ref (q 0)])).length) Slot.unset).toArray = ls at hl ⊢
  have hl : lv_has ls 3 [(0, .ref (r 0)), (1, .ref (q 0))] := hl
  have hiX3 : ∀ w ∈ wsX30, w ∈ wsX3_restore := by decide +kernel
  refine lv_aload_n hx hb dX3_restore_0 rfl (lv_at hl 0 rfl) ?_
  refine va_get (D := D) (ci := 3) (v := .int (zI 1)) (C := RX3) (T := TX3) (N := 2) hx hb hts hiX3 hown hK hP 7 rfl rfl 1 (by decide) (hts (.fieldLink RX3 16 "ChargeEstimator$History" "size" "I") (List.mem_of_getElem? (i := 1) rfl)) (fun _ h9 => h9) rfl dX3_restore_1 ?_
  refine zr_if_le (tgt := 15) hx hb dX3_restore_4 (by decide) (by decide) (fun c1 => ?_) (fun c1 => ?_)
  · exact absurd c1 (by decide)
  · refine lv_aload_n hx hb dX3_restore_7 rfl (lv_at hl 0 rfl) ?_
    refine va_get (D := D) (ci := 3) (v := .int (zI 1)) (C := RX3) (T := TX3) (N := 2) hx hb hts hiX3 hown hK hP 7 rfl rfl 1 (by decide) (hts (.fieldLink RX3 16 "ChargeEstimator$History" "size" "I") (List.mem_of_getElem? (i := 1) rfl)) (fun _ h9 => h9) rfl dX3_restore_8 ?_
    refine zr_iconst hx hb dX3_restore_11 ?_
    refine zr_icmp_le (tgt := 16) hx hb dX3_restore_12 (by decide) (by decide) (by decide) (fun c2 => ?_) (fun c2 => ?_)
    · refine lv_aload_n hx hb dX3_restore_16 rfl (lv_at hl 0 rfl) ?_
      refine lv_dup hx hb dX3_restore_17 rfl ?_
      refine va_get (D := D) (ci := 3) (v := .int (zI 1)) (C := RX3) (T := TX3) (N := 2) hx hb hts hiX3 hown hK hP 7 rfl rfl 1 (by decide) (hts (.fieldLink RX3 16 "ChargeEstimator$History" "size" "I") (List.mem_of_getElem? (i := 1) rfl)) (fun _ h9 => h9) rfl dX3_restore_18 ?_
      refine zr_iconst hx hb dX3_restore_21 ?_
      refine zr_isub hx hb dX3_restore_22 ?_
      refine zr_topi (b := 0) (by decide) ?_
      refine va_put (D := D) (ci := 3) (v := .int (zI 0)) (ty := .int) (C := RX3) (T := TX3) (N := 2) hx hb hts hiX3 tyX3 tyX3_ok nmX3 hown hK hP hD hS 7 rfl rfl 1 (by decide) (hts (.fieldLink RX3 16 "ChargeEstimator$History" "size" "I") (List.mem_of_getElem? (i := 1) rfl)) (fun _ h9 => h9) rfl (by decide +kernel) rfl rfl (Nat.le_of_ble_eq_true rfl) dX3_restore_23 (fun H locs hP hD hS => ?_)
      have hP : va_P D vwCl (zbat cs q A ++ ([(r 0, .inr (3, [.ref (r 1), .int (zI 0)])), (r 1, .inl (cs 3, 4, .inr (.inr (.inr (.inr (zR (h0 0) (h1 0) (h2 0) (h3 0)))))))] ++ (zbat cs h0 S0 ++ (zbat cs h1 S1 ++ (zbat cs h2 S2 ++ zbat cs h3 S3))))) H := hP
      have hD : va_D A0 (zbat cs q A ++ ([(r 0, .inr (3, [.ref (r 1), .int (zI 0)])), (r 1, .inl (cs 3, 4, .inr (.inr (.inr (.inr (zR (h0 0) (h1 0) (h2 0) (h3 0)))))))] ++ (zbat cs h0 S0 ++ (zbat cs h1 S1 ++ (zbat cs h2 S2 ++ zbat cs h3 S3))))) := zD_addr hD rfl
      refine lv_aload_n hx hb dX3_restore_26 rfl (lv_at hl 0 rfl) ?_
      refine va_get (D := D) (ci := 3) (v := .ref (r 1)) (C := RX3) (T := TX3) (N := 2) hx hb hts hiX3 hown hK hP 7 rfl rfl 0 (by decide) (hts (.fieldLink RX3 11 "ChargeEstimator$History" "states" "[LChargeEstimator$Battery;") (List.mem_of_getElem? (i := 2) rfl)) (fun _ h9 => h9) rfl dX3_restore_27 ?_
      refine lv_aload_n hx hb dX3_restore_30 rfl (lv_at hl 0 rfl) ?_
      refine va_get (D := D) (ci := 3) (v := .int (zI 0)) (C := RX3) (T := TX3) (N := 2) hx hb hts hiX3 hown hK hP 7 rfl rfl 1 (by decide) (hts (.fieldLink RX3 16 "ChargeEstimator$History" "size" "I") (List.mem_of_getElem? (i := 1) rfl)) (fun _ h9 => h9) rfl dX3_restore_31 ?_
      refine zr_aald (D := D) (C := RX1) hx hb hK hP 8 3 rfl rfl (by decide) (by decide) (show _ = some (h0 0) from rfl) dX3_restore_34 ?_
      refine lv_astore_n (lv' := [(2, .ref (h0 0)), (0, .ref (r 0)), (1, .ref (q 0))]) hx hb dX3_restore_35 rfl hl (by decide) rfl (fun ls hl => ?_)
      refine lv_aload_n hx hb dX3_restore_36 rfl (lv_at hl 0 rfl) ?_
      refine lv_ifnull hx hb dX3_restore_37 ?_
      refine lv_aload_n hx hb dX3_restore_40 rfl (lv_at hl 2 rfl) ?_
      refine lv_aload_n hx hb dX3_restore_41 rfl (lv_at hl 0 rfl) ?_
      refine zc_vj (w := zbat cs q A ++ zbat cs h0 S0) (wr := [(r 0, .inr (3, [.ref (r 1), .int (zI 0)])), (r 1, .inl (cs 3, 4, .inr (.inr (.inr (.inr (zR (h0 0) (h1 0) (h2 0) (h3 0)))))))] ++ (zbat cs h1 S1 ++ (zbat cs h2 S2 ++ zbat cs h3 S3))) (va_runV (As := [.ref (h0 0)]) (rest := []) ⟨hx, hb, hml, hown, hts⟩ (met_X1_copyFrom l D cs q h0 H.size A S0 (by first | assumption | omega)) (cwV 1 hts gX3_restore_X1_copyFrom rfl rfl rfl (by decide +kernel) ⟨Nat.le_of_ble_eq_true rfl, Nat.le_of_ble_eq_true rfl⟩) ⟨zPreZ.blind, va_recv hK hP (ci := 1) (q0 := 0) rfl rfl, fun U hU hW => zp_Z (hP.sub (ws' := zbat cs q A ++ zbat cs h0 S0) [0, 1, 2, 3, 4, 5, 6, 9, 10, 11, 12, 13, 14, 15] rfl) hK (hD.sub (ws' := zbat cs q A ++ zbat cs h0 S0) [0, 1, 2, 3, 4, 5, 6, 9, 10, 11, 12, 13, 14, 15] (by decide) rfl) hN hU hW⟩ rfl rfl hl.1 rfl (lv_room (Nat.le_of_ble_eq_true rfl)) dX3_restore_42 ⟨Nat.le_of_ble_eq_true rfl, Nat.le_of_ble_eq_true rfl⟩) hS hP hD hA [0, 1, 2, 3, 4, 5, 6, 9, 10, 11, 12, 13, 14, 15] [7, 8, 16, 17, 18, 19, 20, 21, 22, 23, 24, 25, 26, 27, 28, 29, 30, 31, 32, 33, 34, 35, 36] rfl rfl (by decide) (by decide) (fun H locs hP hD hS => ?_)
      have hP : va_P D vwCl (zbat cs q S0 ++ ([(r 0, .inr (3, [.ref (r 1), .int (zI 0)])), (r 1, .inl (cs 3, 4, .inr (.inr (.inr (.inr (zR (h0 0) (h1 0) (h2 0) (h3 0)))))))] ++ (zbat cs h0 S0 ++ (zbat cs h1 S1 ++ (zbat cs h2 S2 ++ zbat cs h3 S3))))) H := hP.sub (ws' := zbat cs q S0 ++ ([(r 0, .inr (3, [.ref (r 1), .int (zI 0)])), (r 1, .inl (cs 3, 4, .inr (.inr (.inr (.inr (zR (h0 0) (h1 0) (h2 0) (h3 0)))))))] ++ (zbat cs h0 S0 ++ (zbat cs h1 S1 ++ (zbat cs h2 S2 ++ zbat cs h3 S3))))) [23, 24, 25, 26, 27, 28, 29, 0, 1, 30, 31, 32, 33, 34, 35, 36, 2, 3, 4, 5, 6, 7, 8, 9, 10, 11, 12, 13, 14, 15, 16, 17, 18, 19, 20, 21, 22] rfl
      have hD : va_D A0 (zbat cs q S0 ++ ([(r 0, .inr (3, [.ref (r 1), .int (zI 0)])), (r 1, .inl (cs 3, 4, .inr (.inr (.inr (.inr (zR (h0 0) (h1 0) (h2 0) (h3 0)))))))] ++ (zbat cs h0 S0 ++ (zbat cs h1 S1 ++ (zbat cs h2 S2 ++ zbat cs h3 S3))))) := hD.sub (ws' := zbat cs q S0 ++ ([(r 0, .inr (3, [.ref (r 1), .int (zI 0)])), (r 1, .inl (cs 3, 4, .inr (.inr (.inr (.inr (zR (h0 0) (h1 0) (h2 0) (h3 0)))))))] ++ (zbat cs h0 S0 ++ (zbat cs h1 S1 ++ (zbat cs h2 S2 ++ zbat cs h3 S3))))) [23, 24, 25, 26, 27, 28, 29, 0, 1, 30, 31, 32, 33, 34, 35, 36, 2, 3, 4, 5, 6, 7, 8, 9, 10, 11, 12, 13, 14, 15, 16, 17, 18, 19, 20, 21, 22] (by decide) rfl
      have hP9 : va_P D vwCl (zbat cs q S0 ++ ([(r 0, .inr (3, [.ref (r 1), .int (zI 0)])), (r 1, .inl (cs 3, 4, .inr (.inr (.inr (.inr (zR (h0 0) (h1 0) (h2 0) (h3 0)))))))] ++ (zbat cs h0 S0 ++ (zbat cs h1 S1 ++ (zbat cs h2 S2 ++ zbat cs h3 S3))))) H := hP
      have hD9 : va_D A0 (zbat cs q S0 ++ ([(r 0, .inr (3, [.ref (r 1), .int (zI 0)])), (r 1, .inl (cs 3, 4, .inr (.inr (.inr (.inr (zR (h0 0) (h1 0) (h2 0) (h3 0)))))))] ++ (zbat cs h0 S0 ++ (zbat cs h1 S1 ++ (zbat cs h2 S2 ++ zbat cs h3 S3))))) := zD_addr hD rfl
      subst hAe
      exact W.vret hx hb hr (fun t ht hW => ⟨⟨(), rfl, trivial, by rw [ht]; exact hP9, hD9⟩, hS.F ht⟩) hS.2.2 dX3_restore_45
    · exact absurd c2 (by decide)
set_option maxHeartbeats 4000000 in
set_option maxRecDepth 100000 in
theorem met_X3_restore_2 (l : Launch) (D : va_G) (cs : Nat → ClassId) (q r h0 h1 h2 h3 : Nat → Nat) (sz : Nat) (A S0 S1 S2 S3 : Int → Int) (k47 : 0 ≤ S1 47 ∧ S1 47 ≤ 1) : Met l yX3_restore wsX3_restore ({ frames := 3, cells := 0, slots := 0, locals := 60 }) (va_Pc [.ref (r 0), .ref (q 0)] (zPreZ D (zTy cs) (zbat cs q A ++ ([(r 0, .inr (3, [.ref (r 1), .int (zI 2)])), (r 1, .inl (cs 3, 4, .inr (.inr (.inr (.inr (zR (h0 0) (h1 0) (h2 0) (h3 0)))))))] ++ (zbat cs h0 S0 ++ (zbat cs h1 S1 ++ (zbat cs h2 S2 ++ zbat cs h3 S3))))) sz)) (zQv D (zbat cs q A ++ ([(r 0, .inr (3, [.ref (r 1), .int (zI 2)])), (r 1, .inl (cs 3, 4, .inr (.inr (.inr (.inr (zR (h0 0) (h1 0) (h2 0) (h3 0)))))))] ++ (zbat cs h0 S0 ++ (zbat cs h1 S1 ++ (zbat cs h2 S2 ++ zbat cs h3 S3))))) sz (zbat cs q S1 ++ ([(r 0, .inr (3, [.ref (r 1), .int (zI 1)])), (r 1, .inl (cs 3, 4, .inr (.inr (.inr (.inr (zR (h0 0) (h1 0) (h2 0) (h3 0)))))))] ++ (zbat cs h0 S0 ++ (zbat cs h1 S1 ++ (zbat cs h2 S2 ++ zbat cs h3 S3)))))) 0 0 (va_A (zbat cs q A ++ ([(r 0, .inr (3, [.ref (r 1), .int (zI 2)])), (r 1, .inl (cs 3, 4, .inr (.inr (.inr (.inr (zR (h0 0) (h1 0) (h2 0) (h3 0)))))))] ++ (zbat cs h0 S0 ++ (zbat cs h1 S1 ++ (zbat cs h2 S2 ++ zbat cs h3 S3))))) sz) := by
  refine Met.ofW (cc := cX3_restore) (maxL := 3) (ret := none) (by decide) rfl ?_
  intro p e s m args below meth c s₁ B hml hv
  obtain ⟨rfl, hsz, hP, hK, hD0, hN⟩ := hv
  have hx := B.exec
  have hb := B.bytes
  have hr := B.returns
  have hts := atoms_spec (ws := wsX3_restore) B.pre
  have hown : s.vm.findClass RX3 = some m.cls := findClass_of_methodNamed B.named
  have hlocks := B.notSynchronized
  subst hsz
  obtain ⟨A0, hAe⟩ : ∃ A0, A0 = va_A (zbat cs q A ++ ([(r 0, .inr (3, [.ref (r 1), .int (zI 2)])), (r 1, .inl (cs 3, 4, .inr (.inr (.inr (.inr (zR (h0 0) (h1 0) (h2 0) (h3 0)))))))] ++ (zbat cs h0 S0 ++ (zbat cs h1 S1 ++ (zbat cs h2 S2 ++ zbat cs h3 S3))))) s.heap.size := ⟨_, rfl⟩
  have hD := hD0.self (sz := s.heap.size)
  rw [← hAe] at hD
  have hA : ∀ q : Nat, s.heap.size ≤ q → A0 q := fun q h => by rw [hAe]; exact Or.inr h
  have hS : va_S A0 s.heap s.heap [] := va_S.rf
  have hP : va_P D vwCl (zbat cs q A ++ ([(r 0, .inr (3, [.ref (r 1), .int (zI 2)])), (r 1, .inl (cs 3, 4, .inr (.inr (.inr (.inr (zR (h0 0) (h1 0) (h2 0) (h3 0)))))))] ++ (zbat cs h0 S0 ++ (zbat cs h1 S1 ++ (zbat cs h2 S2 ++ zbat cs h3 S3))))) s.heap := hP
  have hl := lv_entry ([.ref (r 0), .ref (q 0)]) (n := 3) (Nat.le_of_ble_eq_true rfl)
  rw [lg_entry_eq]
  generalize (lg_sl ([.ref (r 0), .ref (q 0)]) ++ List.replicate (3 - (lg_sl ([.ref (r 0), .ref (q 0)])).length) Slot.unset).toArray = ls at hl ⊢
  have hl : lv_has ls 3 [(0, .ref (r 0)), (1, .ref (q 0))] := hl
  have hiX3 : ∀ w ∈ wsX30, w ∈ wsX3_restore := by decide +kernel
  refine lv_aload_n hx hb dX3_restore_0 rfl (lv_at hl 0 rfl) ?_
  refine va_get (D := D) (ci := 3) (v := .int (zI 2)) (C := RX3) (T := TX3) (N := 2) hx hb hts hiX3 hown hK hP 7 rfl rfl 1 (by decide) (hts (.fieldLink RX3 16 "ChargeEstimator$History" "size" "I") (List.mem_of_getElem? (i := 1) rfl)) (fun _ h9 => h9) rfl dX3_restore_1 ?_
  refine zr_if_le (tgt := 15) hx hb dX3_restore_4 (by decide) (by decide) (fun c1 => ?_) (fun c1 => ?_)
  · exact absurd c1 (by decide)
  · refine lv_aload_n hx hb dX3_restore_7 rfl (lv_at hl 0 rfl) ?_
    refine va_get (D := D) (ci := 3) (v := .int (zI 2)) (C := RX3) (T := TX3) (N := 2) hx hb hts hiX3 hown hK hP 7 rfl rfl 1 (by decide) (hts (.fieldLink RX3 16 "ChargeEstimator$History" "size" "I") (List.mem_of_getElem? (i := 1) rfl)) (fun _ h9 => h9) rfl dX3_restore_8 ?_
    refine zr_iconst hx hb dX3_restore_11 ?_
    refine zr_icmp_le (tgt := 16) hx hb dX3_restore_12 (by decide) (by decide) (by decide) (fun c2 => ?_) (fun c2 => ?_)
    · refine lv_aload_n hx hb dX3_restore_16 rfl (lv_at hl 0 rfl) ?_
      refine lv_dup hx hb dX3_restore_17 rfl ?_
      refine va_get (D := D) (ci := 3) (v := .int (zI 2)) (C := RX3) (T := TX3) (N := 2) hx hb hts hiX3 hown hK hP 7 rfl rfl 1 (by decide) (hts (.fieldLink RX3 16 "ChargeEstimator$History" "size" "I") (List.mem_of_getElem? (i := 1) rfl)) (fun _ h9 => h9) rfl dX3_restore_18 ?_
      refine zr_iconst hx hb dX3_restore_21 ?_
      refine zr_isub hx hb dX3_restore_22 ?_
      refine zr_topi (b := 1) (by decide) ?_
      refine va_put (D := D) (ci := 3) (v := .int (zI 1)) (ty := .int) (C := RX3) (T := TX3) (N := 2) hx hb hts hiX3 tyX3 tyX3_ok nmX3 hown hK hP hD hS 7 rfl rfl 1 (by decide) (hts (.fieldLink RX3 16 "ChargeEstimator$History" "size" "I") (List.mem_of_getElem? (i := 1) rfl)) (fun _ h9 => h9) rfl (by decide +kernel) rfl rfl (Nat.le_of_ble_eq_true rfl) dX3_restore_23 (fun H locs hP hD hS => ?_)
      have hP : va_P D vwCl (zbat cs q A ++ ([(r 0, .inr (3, [.ref (r 1), .int (zI 1)])), (r 1, .inl (cs 3, 4, .inr (.inr (.inr (.inr (zR (h0 0) (h1 0) (h2 0) (h3 0)))))))] ++ (zbat cs h0 S0 ++ (zbat cs h1 S1 ++ (zbat cs h2 S2 ++ zbat cs h3 S3))))) H := hP
      have hD : va_D A0 (zbat cs q A ++ ([(r 0, .inr (3, [.ref (r 1), .int (zI 1)])), (r 1, .inl (cs 3, 4, .inr (.inr (.inr (.inr (zR (h0 0) (h1 0) (h2 0) (h3 0)))))))] ++ (zbat cs h0 S0 ++ (zbat cs h1 S1 ++ (zbat cs h2 S2 ++ zbat cs h3 S3))))) := zD_addr hD rfl
      refine lv_aload_n hx hb dX3_restore_26 rfl (lv_at hl 0 rfl) ?_
      refine va_get (D := D) (ci := 3) (v := .ref (r 1)) (C := RX3) (T := TX3) (N := 2) hx hb hts hiX3 hown hK hP 7 rfl rfl 0 (by decide) (hts (.fieldLink RX3 11 "ChargeEstimator$History" "states" "[LChargeEstimator$Battery;") (List.mem_of_getElem? (i := 2) rfl)) (fun _ h9 => h9) rfl dX3_restore_27 ?_
      refine lv_aload_n hx hb dX3_restore_30 rfl (lv_at hl 0 rfl) ?_
      refine va_get (D := D) (ci := 3) (v := .int (zI 1)) (C := RX3) (T := TX3) (N := 2) hx hb hts hiX3 hown hK hP 7 rfl rfl 1 (by decide) (hts (.fieldLink RX3 16 "ChargeEstimator$History" "size" "I") (List.mem_of_getElem? (i := 1) rfl)) (fun _ h9 => h9) rfl dX3_restore_31 ?_
      refine zr_aald (D := D) (C := RX1) hx hb hK hP 8 3 rfl rfl (by decide) (by decide) (show _ = some (h1 0) from rfl) dX3_restore_34 ?_
      refine lv_astore_n (lv' := [(2, .ref (h1 0)), (0, .ref (r 0)), (1, .ref (q 0))]) hx hb dX3_restore_35 rfl hl (by decide) rfl (fun ls hl => ?_)
      refine lv_aload_n hx hb dX3_restore_36 rfl (lv_at hl 0 rfl) ?_
      refine lv_ifnull hx hb dX3_restore_37 ?_
      refine lv_aload_n hx hb dX3_restore_40 rfl (lv_at hl 2 rfl) ?_
      refine lv_aload_n hx hb dX3_restore_41 rfl (lv_at hl 0 rfl) ?_
      refine zc_vj (w := zbat cs q A ++ zbat cs h1 S1) (wr := [(r 0, .inr (3, [.ref (r 1), .int (zI 1)])), (r 1, .inl (cs 3, 4, .inr (.inr (.inr (.inr (zR (h0 0) (h1 0) (h2 0) (h3 0)))))))] ++ (zbat cs h0 S0 ++ (zbat cs h2 S2 ++ zbat cs h3 S3))) (va_runV (As := [.ref (h1 0)]) (rest := []) ⟨hx, hb, hml, hown, hts⟩ (met_X1_copyFrom l D cs q h1 H.size A S1 (by first | assumption | omega)) (cwV 1 hts gX3_restore_X1_copyFrom rfl rfl rfl (by decide +kernel) ⟨Nat.le_of_ble_eq_true rfl, Nat.le_of_ble_eq_true rfl⟩) ⟨zPreZ.blind, va_recv hK hP (ci := 1) (q0 := 0) rfl rfl, fun U hU hW => zp_Z (hP.sub (ws' := zbat cs q A ++ zbat cs h1 S1) [0, 1, 2, 3, 4, 5, 6, 16, 17, 18, 19, 20, 21, 22] rfl) hK (hD.sub (ws' := zbat cs q A ++ zbat cs h1 S1) [0, 1, 2, 3, 4, 5, 6, 16, 17, 18, 19, 20, 21, 22] (by decide) rfl) hN hU hW⟩ rfl rfl hl.1 rfl (lv_room (Nat.le_of_ble_eq_true rfl)) dX3_restore_42 ⟨Nat.le_of_ble_eq_true rfl, Nat.le_of_ble_eq_true rfl⟩) hS hP hD hA [0, 1, 2, 3, 4, 5, 6, 16, 17, 18, 19, 20, 21, 22] [7, 8, 9, 10, 11, 12, 13, 14, 15, 23, 24, 25, 26, 27, 28, 29, 30, 31, 32, 33, 34, 35, 36] rfl rfl (by decide) (by decide) (fun H locs hP hD hS => ?_)
      have hP : va_P D vwCl (zbat cs q S1 ++ ([(r 0, .inr (3, [.ref (r 1), .int (zI 1)])), (r 1, .inl (cs 3, 4, .inr (.inr (.inr (.inr (zR (h0 0) (h1 0) (h2 0) (h3 0)))))))] ++ (zbat cs h0 S0 ++ (zbat cs h1 S1 ++ (zbat cs h2 S2 ++ zbat cs h3 S3))))) H := hP.sub (ws' := zbat cs q S1 ++ ([(r 0, .inr (3, [.ref (r 1), .int (zI 1)])), (r 1, .inl (cs 3, 4, .inr (.inr (.inr (.inr (zR (h0 0) (h1 0) (h2 0) (h3 0)))))))] ++ (zbat cs h0 S0 ++ (zbat cs h1 S1 ++ (zbat cs h2 S2 ++ zbat cs h3 S3))))) [23, 24, 25, 26, 27, 28, 29, 0, 1, 2, 3, 4, 5, 6, 7, 8, 30, 31, 32, 33, 34, 35, 36, 9, 10, 11, 12, 13, 14, 15, 16, 17, 18, 19, 20, 21, 22] rfl
      have hD : va_D A0 (zbat cs q S1 ++ ([(r 0, .inr (3, [.ref (r 1), .int (zI 1)])), (r 1, .inl (cs 3, 4, .inr (.inr (.inr (.inr (zR (h0 0) (h1 0) (h2 0) (h3 0)))))))] ++ (zbat cs h0 S0 ++ (zbat cs h1 S1 ++ (zbat cs h2 S2 ++ zbat cs h3 S3))))) := hD.sub (ws' := zbat cs q S1 ++ ([(r 0, .inr (3, [.ref (r 1), .int (zI 1)])), (r 1, .inl (cs 3, 4, .inr (.inr (.inr (.inr (zR (h0 0) (h1 0) (h2 0) (h3 0)))))))] ++ (zbat cs h0 S0 ++ (zbat cs h1 S1 ++ (zbat cs h2 S2 ++ zbat cs h3 S3))))) [23, 24, 25, 26, 27, 28, 29, 0, 1, 2, 3, 4, 5, 6, 7, 8, 30, 31, 32, 33, 34, 35, 36, 9, 10, 11, 12, 13, 14, 15, 16, 17, 18, 19, 20, 21, 22] (by decide) rfl
      have hP9 : va_P D vwCl (zbat cs q S1 ++ ([(r 0, .inr (3, [.ref (r 1), .int (zI 1)])), (r 1, .inl (cs 3, 4, .inr (.inr (.inr (.inr (zR (h0 0) (h1 0) (h2 0) (h3 0)))))))] ++ (zbat cs h0 S0 ++ (zbat cs h1 S1 ++ (zbat cs h2 S2 ++ zbat cs h3 S3))))) H := hP
      have hD9 : va_D A0 (zbat cs q S1 ++ ([(r 0, .inr (3, [.ref (r 1), .int (zI 1)])), (r 1, .inl (cs 3, 4, .inr (.inr (.inr (.inr (zR (h0 0) (h1 0) (h2 0) (h3 0)))))))] ++ (zbat cs h0 S0 ++ (zbat cs h1 S1 ++ (zbat cs h2 S2 ++ zbat cs h3 S3))))) := zD_addr hD rfl
      subst hAe
      exact W.vret hx hb hr (fun t ht hW => ⟨⟨(), rfl, trivial, by rw [ht]; exact hP9, hD9⟩, hS.F ht⟩) hS.2.2 dX3_restore_45
    · exact absurd c2 (by decide)
set_option maxHeartbeats 4000000 in
set_option maxRecDepth 100000 in
theorem met_X3_restore_3 (l : Launch) (D : va_G) (cs : Nat → ClassId) (q r h0 h1 h2 h3 : Nat → Nat) (sz : Nat) (A S0 S1 S2 S3 : Int → Int) (k47 : 0 ≤ S2 47 ∧ S2 47 ≤ 1) : Met l yX3_restore wsX3_restore ({ frames := 3, cells := 0, slots := 0, locals := 60 }) (va_Pc [.ref (r 0), .ref (q 0)] (zPreZ D (zTy cs) (zbat cs q A ++ ([(r 0, .inr (3, [.ref (r 1), .int (zI 3)])), (r 1, .inl (cs 3, 4, .inr (.inr (.inr (.inr (zR (h0 0) (h1 0) (h2 0) (h3 0)))))))] ++ (zbat cs h0 S0 ++ (zbat cs h1 S1 ++ (zbat cs h2 S2 ++ zbat cs h3 S3))))) sz)) (zQv D (zbat cs q A ++ ([(r 0, .inr (3, [.ref (r 1), .int (zI 3)])), (r 1, .inl (cs 3, 4, .inr (.inr (.inr (.inr (zR (h0 0) (h1 0) (h2 0) (h3 0)))))))] ++ (zbat cs h0 S0 ++ (zbat cs h1 S1 ++ (zbat cs h2 S2 ++ zbat cs h3 S3))))) sz (zbat cs q S2 ++ ([(r 0, .inr (3, [.ref (r 1), .int (zI 2)])), (r 1, .inl (cs 3, 4, .inr (.inr (.inr (.inr (zR (h0 0) (h1 0) (h2 0) (h3 0)))))))] ++ (zbat cs h0 S0 ++ (zbat cs h1 S1 ++ (zbat cs h2 S2 ++ zbat cs h3 S3)))))) 0 0 (va_A (zbat cs q A ++ ([(r 0, .inr (3, [.ref (r 1), .int (zI 3)])), (r 1, .inl (cs 3, 4, .inr (.inr (.inr (.inr (zR (h0 0) (h1 0) (h2 0) (h3 0)))))))] ++ (zbat cs h0 S0 ++ (zbat cs h1 S1 ++ (zbat cs h2 S2 ++ zbat cs h3 S3))))) sz) := by
  refine Met.ofW (cc := cX3_restore) (maxL := 3) (ret := none) (by decide) rfl ?_
  intro p e s m args below meth c s₁ B hml hv
  obtain ⟨rfl, hsz, hP, hK, hD0, hN⟩ := hv
  have hx := B.exec
  have hb := B.bytes
  have hr := B.returns
  have hts := atoms_spec (ws := wsX3_restore) B.pre
  have hown : s.vm.findClass RX3 = some m.cls := findClass_of_methodNamed B.named
  have hlocks := B.notSynchronized
  subst hsz
  obtain ⟨A0, hAe⟩ : ∃ A0, A0 = va_A (zbat cs q A ++ ([(r 0, .inr (3, [.ref (r 1), .int (zI 3)])), (r 1, .inl (cs 3, 4, .inr (.inr (.inr (.inr (zR (h0 0) (h1 0) (h2 0) (h3 0)))))))] ++ (zbat cs h0 S0 ++ (zbat cs h1 S1 ++ (zbat cs h2 S2 ++ zbat cs h3 S3))))) s.heap.size := ⟨_, rfl⟩
  have hD := hD0.self (sz := s.heap.size)
  rw [← hAe] at hD
  have hA : ∀ q : Nat, s.heap.size ≤ q → A0 q := fun q h => by rw [hAe]; exact Or.inr h
  have hS : va_S A0 s.heap s.heap [] := va_S.rf
  have hP : va_P D vwCl (zbat cs q A ++ ([(r 0, .inr (3, [.ref (r 1), .int (zI 3)])), (r 1, .inl (cs 3, 4, .inr (.inr (.inr (.inr (zR (h0 0) (h1 0) (h2 0) (h3 0)))))))] ++ (zbat cs h0 S0 ++ (zbat cs h1 S1 ++ (zbat cs h2 S2 ++ zbat cs h3 S3))))) s.heap := hP
  have hl := lv_entry ([.ref (r 0), .ref (q 0)]) (n := 3) (Nat.le_of_ble_eq_true rfl)
  rw [lg_entry_eq]
  generalize (lg_sl ([.ref (r 0), .ref (q 0)]) ++ List.replicate (3 - (lg_sl ([.ref (r 0), .ref (q 0)])).length) Slot.unset).toArray = ls at hl ⊢
  have hl : lv_has ls 3 [(0, .ref (r 0)), (1, .ref (q 0))] := hl
  have hiX3 : ∀ w ∈ wsX30, w ∈ wsX3_restore := by decide +kernel
  refine lv_aload_n hx hb dX3_restore_0 rfl (lv_at hl 0 rfl) ?_
  refine va_get (D := D) (ci := 3) (v := .int (zI 3)) (C := RX3) (T := TX3) (N := 2) hx hb hts hiX3 hown hK hP 7 rfl rfl 1 (by decide) (hts (.fieldLink RX3 16 "ChargeEstimator$History" "size" "I") (List.mem_of_getElem? (i := 1) rfl)) (fun _ h9 => h9) rfl dX3_restore_1 ?_
  refine zr_if_le (tgt := 15) hx hb dX3_restore_4 (by decide) (by decide) (fun c1 => ?_) (fun c1 => ?_)
  · exact absurd c1 (by decide)
  · refine lv_aload_n hx hb dX3_restore_7 rfl (lv_at hl 0 rfl) ?_
    refine va_get (D := D) (ci := 3) (v := .int (zI 3)) (C := RX3) (T := TX3) (N := 2) hx hb hts hiX3 hown hK hP 7 rfl rfl 1 (by decide) (hts (.fieldLink RX3 16 "ChargeEstimator$History" "size" "I") (List.mem_of_getElem? (i := 1) rfl)) (fun _ h9 => h9) rfl dX3_restore_8 ?_
    refine zr_iconst hx hb dX3_restore_11 ?_
    refine zr_icmp_le (tgt := 16) hx hb dX3_restore_12 (by decide) (by decide) (by decide) (fun c2 => ?_) (fun c2 => ?_)
    · refine lv_aload_n hx hb dX3_restore_16 rfl (lv_at hl 0 rfl) ?_
      refine lv_dup hx hb dX3_restore_17 rfl ?_
      refine va_get (D := D) (ci := 3) (v := .int (zI 3)) (C := RX3) (T := TX3) (N := 2) hx hb hts hiX3 hown hK hP 7 rfl rfl 1 (by decide) (hts (.fieldLink RX3 16 "ChargeEstimator$History" "size" "I") (List.mem_of_getElem? (i := 1) rfl)) (fun _ h9 => h9) rfl dX3_restore_18 ?_
      refine zr_iconst hx hb dX3_restore_21 ?_
      refine zr_isub hx hb dX3_restore_22 ?_
      refine zr_topi (b := 2) (by decide) ?_
      refine va_put (D := D) (ci := 3) (v := .int (zI 2)) (ty := .int) (C := RX3) (T := TX3) (N := 2) hx hb hts hiX3 tyX3 tyX3_ok nmX3 hown hK hP hD hS 7 rfl rfl 1 (by decide) (hts (.fieldLink RX3 16 "ChargeEstimator$History" "size" "I") (List.mem_of_getElem? (i := 1) rfl)) (fun _ h9 => h9) rfl (by decide +kernel) rfl rfl (Nat.le_of_ble_eq_true rfl) dX3_restore_23 (fun H locs hP hD hS => ?_)
      have hP : va_P D vwCl (zbat cs q A ++ ([(r 0, .inr (3, [.ref (r 1), .int (zI 2)])), (r 1, .inl (cs 3, 4, .inr (.inr (.inr (.inr (zR (h0 0) (h1 0) (h2 0) (h3 0)))))))] ++ (zbat cs h0 S0 ++ (zbat cs h1 S1 ++ (zbat cs h2 S2 ++ zbat cs h3 S3))))) H := hP
      have hD : va_D A0 (zbat cs q A ++ ([(r 0, .inr (3, [.ref (r 1), .int (zI 2)])), (r 1, .inl (cs 3, 4, .inr (.inr (.inr (.inr (zR (h0 0) (h1 0) (h2 0) (h3 0)))))))] ++ (zbat cs h0 S0 ++ (zbat cs h1 S1 ++ (zbat cs h2 S2 ++ zbat cs h3 S3))))) := zD_addr hD rfl
      refine lv_aload_n hx hb dX3_restore_26 rfl (lv_at hl 0 rfl) ?_
      refine va_get (D := D) (ci := 3) (v := .ref (r 1)) (C := RX3) (T := TX3) (N := 2) hx hb hts hiX3 hown hK hP 7 rfl rfl 0 (by decide) (hts (.fieldLink RX3 11 "ChargeEstimator$History" "states" "[LChargeEstimator$Battery;") (List.mem_of_getElem? (i := 2) rfl)) (fun _ h9 => h9) rfl dX3_restore_27 ?_
      refine lv_aload_n hx hb dX3_restore_30 rfl (lv_at hl 0 rfl) ?_
      refine va_get (D := D) (ci := 3) (v := .int (zI 2)) (C := RX3) (T := TX3) (N := 2) hx hb hts hiX3 hown hK hP 7 rfl rfl 1 (by decide) (hts (.fieldLink RX3 16 "ChargeEstimator$History" "size" "I") (List.mem_of_getElem? (i := 1) rfl)) (fun _ h9 => h9) rfl dX3_restore_31 ?_
      refine zr_aald (D := D) (C := RX1) hx hb hK hP 8 3 rfl rfl (by decide) (by decide) (show _ = some (h2 0) from rfl) dX3_restore_34 ?_
      refine lv_astore_n (lv' := [(2, .ref (h2 0)), (0, .ref (r 0)), (1, .ref (q 0))]) hx hb dX3_restore_35 rfl hl (by decide) rfl (fun ls hl => ?_)
      refine lv_aload_n hx hb dX3_restore_36 rfl (lv_at hl 0 rfl) ?_
      refine lv_ifnull hx hb dX3_restore_37 ?_
      refine lv_aload_n hx hb dX3_restore_40 rfl (lv_at hl 2 rfl) ?_
      refine lv_aload_n hx hb dX3_restore_41 rfl (lv_at hl 0 rfl) ?_
      refine zc_vj (w := zbat cs q A ++ zbat cs h2 S2) (wr := [(r 0, .inr (3, [.ref (r 1), .int (zI 2)])), (r 1, .inl (cs 3, 4, .inr (.inr (.inr (.inr (zR (h0 0) (h1 0) (h2 0) (h3 0)))))))] ++ (zbat cs h0 S0 ++ (zbat cs h1 S1 ++ zbat cs h3 S3))) (va_runV (As := [.ref (h2 0)]) (rest := []) ⟨hx, hb, hml, hown, hts⟩ (met_X1_copyFrom l D cs q h2 H.size A S2 (by first | assumption | omega)) (cwV 1 hts gX3_restore_X1_copyFrom rfl rfl rfl (by decide +kernel) ⟨Nat.le_of_ble_eq_true rfl, Nat.le_of_ble_eq_true rfl⟩) ⟨zPreZ.blind, va_recv hK hP (ci := 1) (q0 := 0) rfl rfl, fun U hU hW => zp_Z (hP.sub (ws' := zbat cs q A ++ zbat cs h2 S2) [0, 1, 2, 3, 4, 5, 6, 23, 24, 25, 26, 27, 28, 29] rfl) hK (hD.sub (ws' := zbat cs q A ++ zbat cs h2 S2) [0, 1, 2, 3, 4, 5, 6, 23, 24, 25, 26, 27, 28, 29] (by decide) rfl) hN hU hW⟩ rfl rfl hl.1 rfl (lv_room (Nat.le_of_ble_eq_true rfl)) dX3_restore_42 ⟨Nat.le_of_ble_eq_true rfl, Nat.le_of_ble_eq_true rfl⟩) hS hP hD hA [0, 1, 2, 3, 4, 5, 6, 23, 24, 25, 26, 27, 28, 29] [7, 8, 9, 10, 11, 12, 13, 14, 15, 16, 17, 18, 19, 20, 21, 22, 30, 31, 32, 33, 34, 35, 36] rfl rfl (by decide) (by decide) (fun H locs hP hD hS => ?_)
      have hP : va_P D vwCl (zbat cs q S2 ++ ([(r 0, .inr (3, [.ref (r 1), .int (zI 2)])), (r 1, .inl (cs 3, 4, .inr (.inr (.inr (.inr (zR (h0 0) (h1 0) (h2 0) (h3 0)))))))] ++ (zbat cs h0 S0 ++ (zbat cs h1 S1 ++ (zbat cs h2 S2 ++ zbat cs h3 S3))))) H := hP.sub (ws' := zbat cs q S2 ++ ([(r 0, .inr (3, [.ref (r 1), .int (zI 2)])), (r 1, .inl (cs 3, 4, .inr (.inr (.inr (.inr (zR (h0 0) (h1 0) (h2 0) (h3 0)))))))] ++ (zbat cs h0 S0 ++ (zbat cs h1 S1 ++ (zbat cs h2 S2 ++ zbat cs h3 S3))))) [23, 24, 25, 26, 27, 28, 29, 0, 1, 2, 3, 4, 5, 6, 7, 8, 9, 10, 11, 12, 13, 14, 15, 30, 31, 32, 33, 34, 35, 36, 16, 17, 18, 19, 20, 21, 22] rfl
      have hD : va_D A0 (zbat cs q S2 ++ ([(r 0, .inr (3, [.ref (r 1), .int (zI 2)])), (r 1, .inl (cs 3, 4, .inr (.inr (.inr (.inr (zR (h0 0) (h1 0) (h2 0) (h3 0)))))))] ++ (zbat cs h0 S0 ++ (zbat cs h1 S1 ++ (zbat cs h2 S2 ++ zbat cs h3 S3))))) := hD.sub (ws' := zbat cs q S2 ++ ([(r 0, .inr (3, [.ref (r 1), .int (zI 2)])), (r 1, .inl (cs 3, 4, .inr (.inr (.inr (.inr (zR (h0 0) (h1 0) (h2 0) (h3 0)))))))] ++ (zbat cs h0 S0 ++ (zbat cs h1 S1 ++ (zbat cs h2 S2 ++ zbat cs h3 S3))))) [23, 24, 25, 26, 27, 28, 29, 0, 1, 2, 3, 4, 5, 6, 7, 8, 9, 10, 11, 12, 13, 14, 15, 30, 31, 32, 33, 34, 35, 36, 16, 17, 18, 19, 20, 21, 22] (by decide) rfl
      have hP9 : va_P D vwCl (zbat cs q S2 ++ ([(r 0, .inr (3, [.ref (r 1), .int (zI 2)])), (r 1, .inl (cs 3, 4, .inr (.inr (.inr (.inr (zR (h0 0) (h1 0) (h2 0) (h3 0)))))))] ++ (zbat cs h0 S0 ++ (zbat cs h1 S1 ++ (zbat cs h2 S2 ++ zbat cs h3 S3))))) H := hP
      have hD9 : va_D A0 (zbat cs q S2 ++ ([(r 0, .inr (3, [.ref (r 1), .int (zI 2)])), (r 1, .inl (cs 3, 4, .inr (.inr (.inr (.inr (zR (h0 0) (h1 0) (h2 0) (h3 0)))))))] ++ (zbat cs h0 S0 ++ (zbat cs h1 S1 ++ (zbat cs h2 S2 ++ zbat cs h3 S3))))) := zD_addr hD rfl
      subst hAe
      exact W.vret hx hb hr (fun t ht hW => ⟨⟨(), rfl, trivial, by rw [ht]; exact hP9, hD9⟩, hS.F ht⟩) hS.2.2 dX3_restore_45
    · exact absurd c2 (by decide)
set_option maxHeartbeats 4000000 in
set_option maxRecDepth 100000 in
theorem met_X3_restore_4 (l : Launch) (D : va_G) (cs : Nat → ClassId) (q r h0 h1 h2 h3 : Nat → Nat) (sz : Nat) (A S0 S1 S2 S3 : Int → Int) (k47 : 0 ≤ S3 47 ∧ S3 47 ≤ 1) : Met l yX3_restore wsX3_restore ({ frames := 3, cells := 0, slots := 0, locals := 60 }) (va_Pc [.ref (r 0), .ref (q 0)] (zPreZ D (zTy cs) (zbat cs q A ++ ([(r 0, .inr (3, [.ref (r 1), .int (zI 4)])), (r 1, .inl (cs 3, 4, .inr (.inr (.inr (.inr (zR (h0 0) (h1 0) (h2 0) (h3 0)))))))] ++ (zbat cs h0 S0 ++ (zbat cs h1 S1 ++ (zbat cs h2 S2 ++ zbat cs h3 S3))))) sz)) (zQv D (zbat cs q A ++ ([(r 0, .inr (3, [.ref (r 1), .int (zI 4)])), (r 1, .inl (cs 3, 4, .inr (.inr (.inr (.inr (zR (h0 0) (h1 0) (h2 0) (h3 0)))))))] ++ (zbat cs h0 S0 ++ (zbat cs h1 S1 ++ (zbat cs h2 S2 ++ zbat cs h3 S3))))) sz (zbat cs q S3 ++ ([(r 0, .inr (3, [.ref (r 1), .int (zI 3)])), (r 1, .inl (cs 3, 4, .inr (.inr (.inr (.inr (zR (h0 0) (h1 0) (h2 0) (h3 0)))))))] ++ (zbat cs h0 S0 ++ (zbat cs h1 S1 ++ (zbat cs h2 S2 ++ zbat cs h3 S3)))))) 0 0 (va_A (zbat cs q A ++ ([(r 0, .inr (3, [.ref (r 1), .int (zI 4)])), (r 1, .inl (cs 3, 4, .inr (.inr (.inr (.inr (zR (h0 0) (h1 0) (h2 0) (h3 0)))))))] ++ (zbat cs h0 S0 ++ (zbat cs h1 S1 ++ (zbat cs h2 S2 ++ zbat cs h3 S3))))) sz) := by
  refine Met.ofW (cc := cX3_restore) (maxL := 3) (ret := none) (by decide) rfl ?_
  intro p e s m args below meth c s₁ B hml hv
  obtain ⟨rfl, hsz, hP, hK, hD0, hN⟩ := hv
  have hx := B.exec
  have hb := B.bytes
  have hr := B.returns
  have hts := atoms_spec (ws := wsX3_restore) B.pre
  have hown : s.vm.findClass RX3 = some m.cls := findClass_of_methodNamed B.named
  have hlocks := B.notSynchronized
  subst hsz
  obtain ⟨A0, hAe⟩ : ∃ A0, A0 = va_A (zbat cs q A ++ ([(r 0, .inr (3, [.ref (r 1), .int (zI 4)])), (r 1, .inl (cs 3, 4, .inr (.inr (.inr (.inr (zR (h0 0) (h1 0) (h2 0) (h3 0)))))))] ++ (zbat cs h0 S0 ++ (zbat cs h1 S1 ++ (zbat cs h2 S2 ++ zbat cs h3 S3))))) s.heap.size := ⟨_, rfl⟩
  have hD := hD0.self (sz := s.heap.size)
  rw [← hAe] at hD
  have hA : ∀ q : Nat, s.heap.size ≤ q → A0 q := fun q h => by rw [hAe]; exact Or.inr h
  have hS : va_S A0 s.heap s.heap [] := va_S.rf
  have hP : va_P D vwCl (zbat cs q A ++ ([(r 0, .inr (3, [.ref (r 1), .int (zI 4)])), (r 1, .inl (cs 3, 4, .inr (.inr (.inr (.inr (zR (h0 0) (h1 0) (h2 0) (h3 0)))))))] ++ (zbat cs h0 S0 ++ (zbat cs h1 S1 ++ (zbat cs h2 S2 ++ zbat cs h3 S3))))) s.heap := hP
  have hl := lv_entry ([.ref (r 0), .ref (q 0)]) (n := 3) (Nat.le_of_ble_eq_true rfl)
  rw [lg_entry_eq]
  generalize (lg_sl ([.ref (r 0), .ref (q 0)]) ++ List.replicate (3 - (lg_sl ([.ref (r 0), .ref (q 0)])).length) Slot.unset).toArray = ls at hl ⊢
  have hl : lv_has ls 3 [(0, .ref (r 0)), (1, .ref (q 0))] := hl
  have hiX3 : ∀ w ∈ wsX30, w ∈ wsX3_restore := by decide +kernel
  refine lv_aload_n hx hb dX3_restore_0 rfl (lv_at hl 0 rfl) ?_
  refine va_get (D := D) (ci := 3) (v := .int (zI 4)) (C := RX3) (T := TX3) (N := 2) hx hb hts hiX3 hown hK hP 7 rfl rfl 1 (by decide) (hts (.fieldLink RX3 16 "ChargeEstimator$History" "size" "I") (List.mem_of_getElem? (i := 1) rfl)) (fun _ h9 => h9) rfl dX3_restore_1 ?_
  refine zr_if_le (tgt := 15) hx hb dX3_restore_4 (by decide) (by decide) (fun c1 => ?_) (fun c1 => ?_)
  · exact absurd c1 (by decide)
  · refine lv_aload_n hx hb dX3_restore_7 rfl (lv_at hl 0 rfl) ?_
    refine va_get (D := D) (ci := 3) (v := .int (zI 4)) (C := RX3) (T := TX3) (N := 2) hx hb hts hiX3 hown hK hP 7 rfl rfl 1 (by decide) (hts (.fieldLink RX3 16 "ChargeEstimator$History" "size" "I") (List.mem_of_getElem? (i := 1) rfl)) (fun _ h9 => h9) rfl dX3_restore_8 ?_
    refine zr_iconst hx hb dX3_restore_11 ?_
    refine zr_icmp_le (tgt := 16) hx hb dX3_restore_12 (by decide) (by decide) (by decide) (fun c2 => ?_) (fun c2 => ?_)
    · refine lv_aload_n hx hb dX3_restore_16 rfl (lv_at hl 0 rfl) ?_
      refine lv_dup hx hb dX3_restore_17 rfl ?_
      refine va_get (D := D) (ci := 3) (v := .int (zI 4)) (C := RX3) (T := TX3) (N := 2) hx hb hts hiX3 hown hK hP 7 rfl rfl 1 (by decide) (hts (.fieldLink RX3 16 "ChargeEstimator$History" "size" "I") (List.mem_of_getElem? (i := 1) rfl)) (fun _ h9 => h9) rfl dX3_restore_18 ?_
      refine zr_iconst hx hb dX3_restore_21 ?_
      refine zr_isub hx hb dX3_restore_22 ?_
      refine zr_topi (b := 3) (by decide) ?_
      refine va_put (D := D) (ci := 3) (v := .int (zI 3)) (ty := .int) (C := RX3) (T := TX3) (N := 2) hx hb hts hiX3 tyX3 tyX3_ok nmX3 hown hK hP hD hS 7 rfl rfl 1 (by decide) (hts (.fieldLink RX3 16 "ChargeEstimator$History" "size" "I") (List.mem_of_getElem? (i := 1) rfl)) (fun _ h9 => h9) rfl (by decide +kernel) rfl rfl (Nat.le_of_ble_eq_true rfl) dX3_restore_23 (fun H locs hP hD hS => ?_)
      have hP : va_P D vwCl (zbat cs q A ++ ([(r 0, .inr (3, [.ref (r 1), .int (zI 3)])), (r 1, .inl (cs 3, 4, .inr (.inr (.inr (.inr (zR (h0 0) (h1 0) (h2 0) (h3 0)))))))] ++ (zbat cs h0 S0 ++ (zbat cs h1 S1 ++ (zbat cs h2 S2 ++ zbat cs h3 S3))))) H := hP
      have hD : va_D A0 (zbat cs q A ++ ([(r 0, .inr (3, [.ref (r 1), .int (zI 3)])), (r 1, .inl (cs 3, 4, .inr (.inr (.inr (.inr (zR (h0 0) (h1 0) (h2 0) (h3 0)))))))] ++ (zbat cs h0 S0 ++ (zbat cs h1 S1 ++ (zbat cs h2 S2 ++ zbat cs h3 S3))))) := zD_addr hD rfl
      refine lv_aload_n hx hb dX3_restore_26 rfl (lv_at hl 0 rfl) ?_
      refine va_get (D := D) (ci := 3) (v := .ref (r 1)) (C := RX3) (T := TX3) (N := 2) hx hb hts hiX3 hown hK hP 7 rfl rfl 0 (by decide) (hts (.fieldLink RX3 11 "ChargeEstimator$History" "states" "[LChargeEstimator$Battery;") (List.mem_of_getElem? (i := 2) rfl)) (fun _ h9 => h9) rfl dX3_restore_27 ?_
      refine lv_aload_n hx hb dX3_restore_30 rfl (lv_at hl 0 rfl) ?_
      refine va_get (D := D) (ci := 3) (v := .int (zI 3)) (C := RX3) (T := TX3) (N := 2) hx hb hts hiX3 hown hK hP 7 rfl rfl 1 (by decide) (hts (.fieldLink RX3 16 "ChargeEstimator$History" "size" "I") (List.mem_of_getElem? (i := 1) rfl)) (fun _ h9 => h9) rfl dX3_restore_31 ?_
      refine zr_aald (D := D) (C := RX1) hx hb hK hP 8 3 rfl rfl (by decide) (by decide) (show _ = some (h3 0) from rfl) dX3_restore_34 ?_
      refine lv_astore_n (lv' := [(2, .ref (h3 0)), (0, .ref (r 0)), (1, .ref (q 0))]) hx hb dX3_restore_35 rfl hl (by decide) rfl (fun ls hl => ?_)
      refine lv_aload_n hx hb dX3_restore_36 rfl (lv_at hl 0 rfl) ?_
      refine lv_ifnull hx hb dX3_restore_37 ?_
      refine lv_aload_n hx hb dX3_restore_40 rfl (lv_at hl 2 rfl) ?_
      refine lv_aload_n hx hb dX3_restore_41 rfl (lv_at hl 0 rfl) ?_
      refine zc_vj (w := zbat cs q A ++ zbat cs h3 S3) (wr := [(r 0, .inr (3, [.ref (r 1), .int (zI 3)])), (r 1, .inl (cs 3, 4, .inr (.inr (.inr (.inr (zR (h0 0) (h1 0) (h2 0) (h3 0)))))))] ++ (zbat cs h0 S0 ++ (zbat cs h1 S1 ++ zbat cs h2 S2))) (va_runV (As := [.ref (h3 0)]) (rest := []) ⟨hx, hb, hml, hown, hts⟩ (met_X1_copyFrom l D cs q h3 H.size A S3 (by first | assumption | omega)) (cwV 1 hts gX3_restore_X1_copyFrom rfl rfl rfl (by decide +kernel) ⟨Nat.le_of_ble_eq_true rfl, Nat.le_of_ble_eq_true rfl⟩) ⟨zPreZ.blind, va_recv hK hP (ci := 1) (q0 := 0) rfl rfl, fun U hU hW => zp_Z (hP.sub (ws' := zbat cs q A ++ zbat cs h3 S3) [0, 1, 2, 3, 4, 5, 6, 30, 31, 32, 33, 34, 35, 36] rfl) hK (hD.sub (ws' := zbat cs q A ++ zbat cs h3 S3) [0, 1, 2, 3, 4, 5, 6, 30, 31, 32, 33, 34, 35, 36] (by decide) rfl) hN hU hW⟩ rfl rfl hl.1 rfl (lv_room (Nat.le_of_ble_eq_true rfl)) dX3_restore_42 ⟨Nat.le_of_ble_eq_true rfl, Nat.le_of_ble_eq_true rfl⟩) hS hP hD hA [0, 1, 2, 3, 4, 5, 6, 30, 31, 32, 33, 34, 35, 36] [7, 8, 9, 10, 11, 12, 13, 14, 15, 16, 17, 18, 19, 20, 21, 22, 23, 24, 25, 26, 27, 28, 29] rfl rfl (by decide) (by decide) (fun H locs hP hD hS => ?_)
      have hP : va_P D vwCl (zbat cs q S3 ++ ([(r 0, .inr (3, [.ref (r 1), .int (zI 3)])), (r 1, .inl (cs 3, 4, .inr (.inr (.inr (.inr (zR (h0 0) (h1 0) (h2 0) (h3 0)))))))] ++ (zbat cs h0 S0 ++ (zbat cs h1 S1 ++ (zbat cs h2 S2 ++ zbat cs h3 S3))))) H := hP.sub (ws' := zbat cs q S3 ++ ([(r 0, .inr (3, [.ref (r 1), .int (zI 3)])), (r 1, .inl (cs 3, 4, .inr (.inr (.inr (.inr (zR (h0 0) (h1 0) (h2 0) (h3 0)))))))] ++ (zbat cs h0 S0 ++ (zbat cs h1 S1 ++ (zbat cs h2 S2 ++ zbat cs h3 S3))))) [23, 24, 25, 26, 27, 28, 29, 0, 1, 2, 3, 4, 5, 6, 7, 8, 9, 10, 11, 12, 13, 14, 15, 16, 17, 18, 19, 20, 21, 22, 30, 31, 32, 33, 34, 35, 36] rfl
      have hD : va_D A0 (zbat cs q S3 ++ ([(r 0, .inr (3, [.ref (r 1), .int (zI 3)])), (r 1, .inl (cs 3, 4, .inr (.inr (.inr (.inr (zR (h0 0) (h1 0) (h2 0) (h3 0)))))))] ++ (zbat cs h0 S0 ++ (zbat cs h1 S1 ++ (zbat cs h2 S2 ++ zbat cs h3 S3))))) := hD.sub (ws' := zbat cs q S3 ++ ([(r 0, .inr (3, [.ref (r 1), .int (zI 3)])), (r 1, .inl (cs 3, 4, .inr (.inr (.inr (.inr (zR (h0 0) (h1 0) (h2 0) (h3 0)))))))] ++ (zbat cs h0 S0 ++ (zbat cs h1 S1 ++ (zbat cs h2 S2 ++ zbat cs h3 S3))))) [23, 24, 25, 26, 27, 28, 29, 0, 1, 2, 3, 4, 5, 6, 7, 8, 9, 10, 11, 12, 13, 14, 15, 16, 17, 18, 19, 20, 21, 22, 30, 31, 32, 33, 34, 35, 36] (by decide) rfl
      have hP9 : va_P D vwCl (zbat cs q S3 ++ ([(r 0, .inr (3, [.ref (r 1), .int (zI 3)])), (r 1, .inl (cs 3, 4, .inr (.inr (.inr (.inr (zR (h0 0) (h1 0) (h2 0) (h3 0)))))))] ++ (zbat cs h0 S0 ++ (zbat cs h1 S1 ++ (zbat cs h2 S2 ++ zbat cs h3 S3))))) H := hP
      have hD9 : va_D A0 (zbat cs q S3 ++ ([(r 0, .inr (3, [.ref (r 1), .int (zI 3)])), (r 1, .inl (cs 3, 4, .inr (.inr (.inr (.inr (zR (h0 0) (h1 0) (h2 0) (h3 0)))))))] ++ (zbat cs h0 S0 ++ (zbat cs h1 S1 ++ (zbat cs h2 S2 ++ zbat cs h3 S3))))) := zD_addr hD rfl
      subst hAe
      exact W.vret hx hb hr (fun t ht hW => ⟨⟨(), rfl, trivial, by rw [ht]; exact hP9, hD9⟩, hS.F ht⟩) hS.2.2 dX3_restore_45
    · exact absurd c2 (by decide)
def zr4 (m : Int) (S0 S1 S2 S3 : Int → Int) : Int → Int := if m = 1 then S0 else if m = 2 then S1 else if m = 3 then S2 else S3
set_option maxRecDepth 100000 in
theorem met_X3_restore (l : Launch) (D : va_G) (cs : Nat → ClassId) (q r h0 h1 h2 h3 : Nat → Nat) (sz : Nat) (A S0 S1 S2 S3 : Int → Int) (xm : Int) (k47 : 0 ≤ zr4 xm S0 S1 S2 S3 47 ∧ zr4 xm S0 S1 S2 S3 47 ≤ 1) (kxm : 1 ≤ xm ∧ xm ≤ 4) : Met l yX3_restore wsX3_restore ({ frames := 3, cells := 0, slots := 0, locals := 60 }) (va_Pc [.ref (r 0), .ref (q 0)] (zPreZ D (zTy cs) (zbat cs q A ++ zhis cs r h0 h1 h2 h3 S0 S1 S2 S3 xm) sz)) (zQv D (zbat cs q A ++ zhis cs r h0 h1 h2 h3 S0 S1 S2 S3 xm) sz (zbat cs q (zr4 xm S0 S1 S2 S3) ++ zhis cs r h0 h1 h2 h3 S0 S1 S2 S3 (xm - 1))) 0 0 (va_A (zbat cs q A ++ zhis cs r h0 h1 h2 h3 S0 S1 S2 S3 xm) sz) := by
  rcases (show xm = 1 ∨ xm = 2 ∨ xm = 3 ∨ xm = 4 by omega) with rfl | rfl | rfl | rfl
  · exact met_X3_restore_1 l D cs q r h0 h1 h2 h3 sz A S0 S1 S2 S3 k47
  · exact met_X3_restore_2 l D cs q r h0 h1 h2 h3 sz A S0 S1 S2 S3 k47
  · exact met_X3_restore_3 l D cs q r h0 h1 h2 h3 sz A S0 S1 S2 S3 k47
  · exact met_X3_restore_4 l D cs q r h0 h1 h2 h3 sz A S0 S1 S2 S3 k47
set_option maxHeartbeats 4000000 in
set_option maxRecDepth 100000 in
theorem met_X3_size (l : Launch) (D : va_G) (cs : Nat → ClassId) (r : Nat → Nat) (xm : Int)  : Met l yX3_size wsX3_size ({ frames := 0, cells := 0, slots := 0, locals := 0 }) (va_Pc [.ref (r 0)] (zPre D (zTy cs) ([(r 0, .inr (3, [.ref (r 1), .int (zI xm)]))]))) (zRi (zI (xm))) 0 0 (fun _ => False) := by
  refine Met.ofW (cc := cX3_size) (maxL := 1) (ret := (some .int)) (by decide) rfl ?_
  intro p e s m args below meth c s₁ B hml hv
  obtain ⟨rfl, hP, hK, hD0, hN⟩ := hv
  have hx := B.exec
  have hb := B.bytes
  have hr := B.returns
  have hts := atoms_spec (ws := wsX3_size) B.pre
  have hown : s.vm.findClass RX3 = some m.cls := findClass_of_methodNamed B.named
  have hlocks := B.notSynchronized
  have hD := hD0
  have hl := lv_entry ([.ref (r 0)]) (n := 1) (Nat.le_of_ble_eq_true rfl)
  rw [lg_entry_eq]
  generalize (lg_sl ([.ref (r 0)]) ++ List.replicate (1 - (lg_sl ([.ref (r 0)])).length) Slot.unset).toArray = ls at hl ⊢
  have hl : lv_has ls 1 [(0, .ref (r 0))] := hl
  have hiX3 : ∀ w ∈ wsX30, w ∈ wsX3_size := by decide +kernel
  refine lv_aload_n hx hb dX3_size_0 rfl (lv_at hl 0 rfl) ?_
  refine va_get (D := D) (ci := 3) (v := .int (zI xm)) (C := RX3) (T := TX3) (N := 2) hx hb hts hiX3 hown hK hP 0 rfl rfl 1 (by decide) (hts (.fieldLink RX3 16 "ChargeEstimator$History" "size" "I") (List.mem_of_getElem? (i := 1) rfl)) (fun _ h9 => h9) rfl dX3_size_1 ?_
  exact W.iret hx hb hr (fun t ht hW => ⟨_, rfl, (congrArg zI (show xm = xm from by rfl)), ht⟩) (fun q hq => absurd hq List.not_mem_nil) dX3_size_4
