/-! the law: its loop -/
theorem zI_nat (n : Nat) : Int32.ofNat n = zI (n : Int) := by
  unfold zI
  apply Int32.toBitVec_inj.mp
  show BitVec.ofNat 32 n = BitVec.ofInt 32 (n : Int)
  rw [BitVec.ofInt_natCast]
theorem zI_and31 (y : Int32) : ∃ v : Int, y &&& zI 31 = zI v ∧ 0 ≤ v ∧ v ≤ 31 := by
  refine ⟨(y &&& zI 31).toInt, (Int32.ofInt_toInt _).symm, ?_⟩
  have h1 : (y &&& zI 31).toBitVec = y.toBitVec &&& 31#32 := rfl
  have h2 : (y.toBitVec &&& 31#32).toNat ≤ 31 := by
    rw [BitVec.toNat_and]
    exact Nat.and_le_right
  have h3 : (y &&& zI 31).toInt = ((y.toBitVec &&& 31#32).toNat : Int) := by
    show (y &&& zI 31).toBitVec.toInt = _
    rw [h1]
    exact BitVec.toInt_eq_toNat_of_lt (by omega)
  omega
set_option maxHeartbeats 8000000 in
set_option maxRecDepth 100000 in
theorem law_loop {p : Program} {e : Env} {s : State} {m : MethodId} {below : List Frame} {meth : Method} {c : Code} {b L : Nat} {xs : Nat → Int32} {Q : State → Prop} (l : Launch) (hfl : l.stackTraces = false) (D : va_G) (cs : Nat → ClassId) (hx : p.tables.exec = Jvm.exec) (hb : c.code = cL_law) (hml : c.maxLocals = 9) (hown : s.vm.findClass RL = some m.cls) (hts : ∀ w ∈ wsL_law, w.before #[Value.ref b] s = true) (hK : va_K D vwCl (zTy cs) s) (hN : zNW s) (hG : zXG s) (hC : zNcP s) (hO : va_AO RX1 s) (hL : L ≤ 2560) (hXs : va_X b L xs s s.heap) (hbl : b < s.heap.size) (ou : Nat) (hret : ∀ (k : Nat), 5 * k ≤ 2560 → ∀ (H : Heap) (locs : List Loc), va_S (fun z => s.heap.size ≤ z) s.heap H locs → ∀ ls : Array Slot, W p l e room_1 s m #[Value.ref b] below meth c H locs (55 + k) (2965 + 6 * k) Q (F0 m 1689 ls [])) : ∀ (nn k : Nat), (L : Int) + 5 - 5 * (k : Int) < 5 * (nn : Int) → 5 * k ≤ L + 4 → ∀ (o : Nat → Nat → Nat) (q : Nat → Nat) (n : Int) (A T S0 S1 S2 S3 S V : Int → Int) (xm : Int) (f : Int → Int) (xl : Int) (g : Int → Int) (xk xn xd xe xth xam xpl : Int) (gr gu : Int → Int) (hI9 : zInL n A S0 S1 S2 S3 S xm f xl) (hn9 : 0 ≤ n ∧ n ≤ 1200 * (5 * (k : Int))) (H : Heap) (locs : List Loc) (hP : va_P D vwCl (zest cs o A T S0 S1 S2 S3 xm f xl g xk xn xd xe ++ (zmod cs q A S V xm xth xam f xl xpl gr ++ [(ou, .inl (cs 2, 1, .inr (.inl (zAL gu))))])) H) (hD : va_D (fun z => s.heap.size ≤ z) (zest cs o A T S0 S1 S2 S3 xm f xl g xk xn xd xe ++ (zmod cs q A S V xm xth xam f xl xpl gr ++ [(ou, .inl (cs 2, 1, .inr (.inl (zAL gu))))]))) (hS : va_S (fun z => s.heap.size ≤ z) s.heap H locs) (ls : Array Slot) (hl : lv_has ls 9 [(4, .int (zI (5 * (k : Int)))), (3, .ref ou), (2, .ref (q 0)), (1, .ref (o 0 0)), (0, .ref b)]), W p l e room_1 s m #[Value.ref b] below meth c H locs (55 + k) (2965 + 6 * k) Q (F0 m 23 ls []) := by
  intro nn
  induction nn with
  | zero => intro k hk0 hk1; exfalso; omega
  | succ nn ih =>
    intro k hk0 hk1 o q n A T S0 S1 S2 S3 S V xm f xl g xk xn xd xe xth xam xpl gr gu hI9 hn9 H locs hP hD hS ls hl
    have hbA : ¬ (s.heap.size ≤ b) := Nat.not_le.mpr hbl
    refine lv_iload hx hb dL_law_23 (lv_at hl 0 rfl) ?_
    refine lv_aload_n hx hb dL_law_25 rfl (lv_at hl 4 rfl) ?_
    refine va_slen hx hb hXs hbl hbA hS dL_law_26 ?_
    rw [zI_nat]
    refine zr_iconst hx hb dL_law_27 ?_
    refine zr_isub hx hb dL_law_28 ?_
    refine zr_icmp_gt (tgt := 1689) hx hb dL_law_29 (by decide) (by omega) (by omega) (fun c1 => ?_) (fun c1 => ?_)
    · exact hret k (by omega) H locs hS ls
    refine lv_aload_n hx hb dL_law_32 rfl (lv_at hl 4 rfl) ?_
    refine lv_iload hx hb dL_law_33 (lv_at hl 0 rfl) ?_
    refine zr_sls hx hb hXs hbl hbA hS hL (by omega) dL_law_35 ?_
    refine zr_bipush hx hb dL_law_36 (by decide) ?_
    refine lv_iand hx hb dL_law_38 ?_
    obtain ⟨v, hv, hvr⟩ := zI_and31 (zI (zX xs (5 * (k : Int))))
    rw [hv]
    have kk : ∀ (o : Nat → Nat → Nat) (q : Nat → Nat) (n : Int) (A T S0 S1 S2 S3 S V : Int → Int) (xm : Int) (f : Int → Int) (xl : Int) (g : Int → Int) (xk xn xd xe xth xam xpl : Int) (gr gu : Int → Int), zInL n A S0 S1 S2 S3 S xm f xl → (0 ≤ n ∧ n ≤ 1200 * ((5 * (k : Int)) + 5)) → ∀ (H : Heap) (locs : List Loc), va_P D vwCl (zest cs o A T S0 S1 S2 S3 xm f xl g xk xn xd xe ++ (zmod cs q A S V xm xth xam f xl xpl gr ++ [(ou, .inl (cs 2, 1, .inr (.inl (zAL gu))))])) H → va_D (fun z => s.heap.size ≤ z) (zest cs o A T S0 S1 S2 S3 xm f xl g xk xn xd xe ++ (zmod cs q A S V xm xth xam f xl xpl gr ++ [(ou, .inl (cs 2, 1, .inr (.inl (zAL gu))))])) → va_S (fun z => s.heap.size ≤ z) s.heap H locs → ∀ ls : Array Slot, lv_has ls 9 [(4, .int (zI (5 * (k : Int)))), (3, .ref ou), (2, .ref (q 0)), (1, .ref (o 0 0)), (0, .ref b)] → W p l e room_1 s m #[Value.ref b] below meth c H locs (55 + k + 1) (2965 + 6 * k + 6) Q (F0 m 1683 ls []) := by
      intro o q n A T S0 S1 S2 S3 S V xm f xl g xk xn xd xe xth xam xpl gr gu hI9 hn9 H locs hP hD hS ls hl
      refine zr_iinc (kk := 0) (lv' := [(4, .int (zI ((5 * (k : Int)) + 5))), (3, .ref ou), (2, .ref (q 0)), (1, .ref (o 0 0)), (0, .ref b)]) hx hb dL_law_1683 hl rfl (by decide) rfl (fun ls hl => ?_)
      refine lv_goto (tgt := 23) hx hb dL_law_1686 (by decide) ?_
      have e5 : (5 * (k : Int)) + 5 = 5 * ((k + 1 : Nat) : Int) := by omega
      rw [e5] at hl hn9
      exact ih (k + 1) (by omega) (by omega) o q n A T S0 S1 S2 S3 S V xm f xl g xk xn xd xe xth xam xpl gr gu hI9 hn9 H locs hP hD hS ls hl
    rcases (show v = 0 ∨ v = 1 ∨ v = 2 ∨ v = 3 ∨ v = 4 ∨ v = 5 ∨ v = 6 ∨ v = 7 ∨ v = 8 ∨ v = 9 ∨ v = 10 ∨ v = 11 ∨ v = 12 ∨ v = 13 ∨ v = 14 ∨ v = 15 ∨ v = 16 ∨ v = 17 ∨ v = 18 ∨ v = 19 ∨ v = 20 ∨ v = 21 ∨ v = 22 ∨ v = 23 ∨ v = 24 ∨ v = 25 ∨ v = 26 ∨ (v < 0 ∨ 26 < v) by omega) with c2 | c2 | c2 | c2 | c2 | c2 | c2 | c2 | c2 | c2 | c2 | c2 | c2 | c2 | c2 | c2 | c2 | c2 | c2 | c2 | c2 | c2 | c2 | c2 | c2 | c2 | c2 | c2
    · refine zr_tsIn (tgt := 160) (off := 121) hx hb dL_law_39 c2 (by decide) (by decide) (by decide) rfl (by decide) ?_
      exact law_begin l hfl D cs hx hb hml hown hts hK hN hG hC hO hL hXs hbl (5 * (k : Int)) (by omega) (55 + k) (2965 + 6 * k) (by omega) ou o q n A T S0 S1 S2 S3 S V xm f xl g xk xn xd xe xth xam xpl gr gu hI9 hn9 H locs hP hD hS ls hl kk
    · refine zr_tsIn (tgt := 228) (off := 189) hx hb dL_law_39 c2 (by decide) (by decide) (by decide) rfl (by decide) ?_
      exact law_set l hfl D cs hx hb hml hown hts hK hN hG hC hO hL hXs hbl (5 * (k : Int)) (by omega) (55 + k) (2965 + 6 * k) (by omega) ou o q n A T S0 S1 S2 S3 S V xm f xl g xk xn xd xe xth xam xpl gr gu hI9 hn9 H locs hP hD hS ls hl kk
    · refine zr_tsIn (tgt := 296) (off := 257) hx hb dL_law_39 c2 (by decide) (by decide) (by decide) rfl (by decide) ?_
      exact law_value l hfl D cs hx hb hml hown hts hK hN hG hC hO hL hXs hbl (5 * (k : Int)) (by omega) (55 + k) (2965 + 6 * k) (by omega) ou o q n A T S0 S1 S2 S3 S V xm f xl g xk xn xd xe xth xam xpl gr gu hI9 hn9 H locs hP hD hS ls hl kk
    · refine zr_tsIn (tgt := 352) (off := 313) hx hb dL_law_39 c2 (by decide) (by decide) (by decide) rfl (by decide) ?_
      exact law_setCurve l hfl D cs hx hb hml hown hts hK hN hG hC hO hL hXs hbl (5 * (k : Int)) (by omega) (55 + k) (2965 + 6 * k) (by omega) ou o q n A T S0 S1 S2 S3 S V xm f xl g xk xn xd xe xth xam xpl gr gu hI9 hn9 H locs hP hD hS ls hl kk
    · refine zr_tsIn (tgt := 432) (off := 393) hx hb dL_law_39 c2 (by decide) (by decide) (by decide) rfl (by decide) ?_
      exact law_curve l hfl D cs hx hb hml hown hts hK hN hG hC hO hL hXs hbl (5 * (k : Int)) (by omega) (55 + k) (2965 + 6 * k) (by omega) ou o q n A T S0 S1 S2 S3 S V xm f xl g xk xn xd xe xth xam xpl gr gu hI9 hn9 H locs hP hD hS ls hl kk
    · refine zr_tsIn (tgt := 516) (off := 477) hx hb dL_law_39 c2 (by decide) (by decide) (by decide) rfl (by decide) ?_
      exact law_measure l hfl D cs hx hb hml hown hts hK hN hG hC hO hL hXs hbl (5 * (k : Int)) (by omega) (55 + k) (2965 + 6 * k) (by omega) ou o q n A T S0 S1 S2 S3 S V xm f xl g xk xn xd xe xth xam xpl gr gu hI9 hn9 H locs hP hD hS ls hl kk
    · refine zr_tsIn (tgt := 596) (off := 557) hx hb dL_law_39 c2 (by decide) (by decide) (by decide) rfl (by decide) ?_
      exact law_repeat l hfl D cs hx hb hml hown hts hK hN hG hC hO hL hXs hbl (5 * (k : Int)) (by omega) (55 + k) (2965 + 6 * k) (by omega) ou o q n A T S0 S1 S2 S3 S V xm f xl g xk xn xd xe xth xam xpl gr gu hI9 hn9 H locs hP hD hS ls hl kk
    · refine zr_tsIn (tgt := 688) (off := 649) hx hb dL_law_39 c2 (by decide) (by decide) (by decide) rfl (by decide) ?_
      exact law_simulate l hfl D cs hx hb hml hown hts hK hN hG hC hO hL hXs hbl (5 * (k : Int)) (by omega) (55 + k) (2965 + 6 * k) (by omega) ou o q n A T S0 S1 S2 S3 S V xm f xl g xk xn xd xe xth xam xpl gr gu hI9 hn9 H locs hP hD hS ls hl kk
    · refine zr_tsIn (tgt := 780) (off := 741) hx hb dL_law_39 c2 (by decide) (by decide) (by decide) rfl (by decide) ?_
      exact law_charge l hfl D cs hx hb hml hown hts hK hN hG hC hO hL hXs hbl (5 * (k : Int)) (by omega) (55 + k) (2965 + 6 * k) (by omega) ou o q n A T S0 S1 S2 S3 S V xm f xl g xk xn xd xe xth xam xpl gr gu hI9 hn9 H locs hP hD hS ls hl kk
    · refine zr_tsIn (tgt := 835) (off := 796) hx hb dL_law_39 c2 (by decide) (by decide) (by decide) rfl (by decide) ?_
      exact law_soc l hfl D cs hx hb hml hown hts hK hN hG hC hO hL hXs hbl (5 * (k : Int)) (by omega) (55 + k) (2965 + 6 * k) (by omega) ou o q n A T S0 S1 S2 S3 S V xm f xl g xk xn xd xe xth xam xpl gr gu hI9 hn9 H locs hP hD hS ls hl kk
    · refine zr_tsIn (tgt := 891) (off := 852) hx hb dL_law_39 c2 (by decide) (by decide) (by decide) rfl (by decide) ?_
      exact law_status l hfl D cs hx hb hml hown hts hK hN hG hC hO hL hXs hbl (5 * (k : Int)) (by omega) (55 + k) (2965 + 6 * k) (by omega) ou o q n A T S0 S1 S2 S3 S V xm f xl g xk xn xd xe xth xam xpl gr gu hI9 hn9 H locs hP hD hS ls hl kk
    · refine zr_tsIn (tgt := 947) (off := 908) hx hb dL_law_39 c2 (by decide) (by decide) (by decide) rfl (by decide) ?_
      exact law_throughput l hfl D cs hx hb hml hown hts hK hN hG hC hO hL hXs hbl (5 * (k : Int)) (by omega) (55 + k) (2965 + 6 * k) (by omega) ou o q n A T S0 S1 S2 S3 S V xm f xl g xk xn xd xe xth xam xpl gr gu hI9 hn9 H locs hP hD hS ls hl kk
    · refine zr_tsIn (tgt := 961) (off := 922) hx hb dL_law_39 c2 (by decide) (by decide) (by decide) rfl (by decide) ?_
      exact law_cycles l hfl D cs hx hb hml hown hts hK hN hG hC hO hL hXs hbl (5 * (k : Int)) (by omega) (55 + k) (2965 + 6 * k) (by omega) ou o q n A T S0 S1 S2 S3 S V xm f xl g xk xn xd xe xth xam xpl gr gu hI9 hn9 H locs hP hD hS ls hl kk
    · refine zr_tsIn (tgt := 1002) (off := 963) hx hb dL_law_39 c2 (by decide) (by decide) (by decide) rfl (by decide) ?_
      exact law_healthBits l hfl D cs hx hb hml hown hts hK hN hG hC hO hL hXs hbl (5 * (k : Int)) (by omega) (55 + k) (2965 + 6 * k) (by omega) ou o q n A T S0 S1 S2 S3 S V xm f xl g xk xn xd xe xth xam xpl gr gu hI9 hn9 H locs hP hD hS ls hl kk
    · refine zr_tsIn (tgt := 1015) (off := 976) hx hb dL_law_39 c2 (by decide) (by decide) (by decide) rfl (by decide) ?_
      exact law_openVoltage l hfl D cs hx hb hml hown hts hK hN hG hC hO hL hXs hbl (5 * (k : Int)) (by omega) (55 + k) (2965 + 6 * k) (by omega) ou o q n A T S0 S1 S2 S3 S V xm f xl g xk xn xd xe xth xam xpl gr gu hI9 hn9 H locs hP hD hS ls hl kk
    · refine zr_tsIn (tgt := 1083) (off := 1044) hx hb dL_law_39 c2 (by decide) (by decide) (by decide) rfl (by decide) ?_
      exact law_invert l hfl D cs hx hb hml hown hts hK hN hG hC hO hL hXs hbl (5 * (k : Int)) (by omega) (55 + k) (2965 + 6 * k) (by omega) ou o q n A T S0 S1 S2 S3 S V xm f xl g xk xn xd xe xth xam xpl gr gu hI9 hn9 H locs hP hD hS ls hl kk
    · refine zr_tsIn (tgt := 1151) (off := 1112) hx hb dL_law_39 c2 (by decide) (by decide) (by decide) rfl (by decide) ?_
      exact law_anchors l hfl D cs hx hb hml hown hts hK hN hG hC hO hL hXs hbl (5 * (k : Int)) (by omega) (55 + k) (2965 + 6 * k) (by omega) ou o q n A T S0 S1 S2 S3 S V xm f xl g xk xn xd xe xth xam xpl gr gu hI9 hn9 H locs hP hD hS ls hl kk
    · refine zr_tsIn (tgt := 1164) (off := 1125) hx hb dL_law_39 c2 (by decide) (by decide) (by decide) rfl (by decide) ?_
      exact law_anchor l hfl D cs hx hb hml hown hts hK hN hG hC hO hL hXs hbl (5 * (k : Int)) (by omega) (55 + k) (2965 + 6 * k) (by omega) ou o q n A T S0 S1 S2 S3 S V xm f xl g xk xn xd xe xth xam xpl gr gu hI9 hn9 H locs hP hD hS ls hl kk
    · refine zr_tsIn (tgt := 1232) (off := 1193) hx hb dL_law_39 c2 (by decide) (by decide) (by decide) rfl (by decide) ?_
      exact law_boundAfter l hfl D cs hx hb hml hown hts hK hN hG hC hO hL hXs hbl (5 * (k : Int)) (by omega) (55 + k) (2965 + 6 * k) (by omega) ou o q n A T S0 S1 S2 S3 S V xm f xl g xk xn xd xe xth xam xpl gr gu hI9 hn9 H locs hP hD hS ls hl kk
    · refine zr_tsIn (tgt := 1327) (off := 1288) hx hb dL_law_39 c2 (by decide) (by decide) (by decide) rfl (by decide) ?_
      exact law_reaches l hfl D cs hx hb hml hown hts hK hN hG hC hO hL hXs hbl (5 * (k : Int)) (by omega) (55 + k) (2965 + 6 * k) (by omega) ou o q n A T S0 S1 S2 S3 S V xm f xl g xk xn xd xe xth xam xpl gr gu hI9 hn9 H locs hP hD hS ls hl kk
    · refine zr_tsIn (tgt := 1383) (off := 1344) hx hb dL_law_39 c2 (by decide) (by decide) (by decide) rfl (by decide) ?_
      exact law_lasts l hfl D cs hx hb hml hown hts hK hN hG hC hO hL hXs hbl (5 * (k : Int)) (by omega) (55 + k) (2965 + 6 * k) (by omega) ou o q n A T S0 S1 S2 S3 S V xm f xl g xk xn xd xe xth xam xpl gr gu hI9 hn9 H locs hP hD hS ls hl kk
    · refine zr_tsIn (tgt := 1451) (off := 1412) hx hb dL_law_39 c2 (by decide) (by decide) (by decide) rfl (by decide) ?_
      exact law_wouldAnchor l hfl D cs hx hb hml hown hts hK hN hG hC hO hL hXs hbl (5 * (k : Int)) (by omega) (55 + k) (2965 + 6 * k) (by omega) ou o q n A T S0 S1 S2 S3 S V xm f xl g xk xn xd xe xth xam xpl gr gu hI9 hn9 H locs hP hD hS ls hl kk
    · refine zr_tsIn (tgt := 1543) (off := 1504) hx hb dL_law_39 c2 (by decide) (by decide) (by decide) rfl (by decide) ?_
      exact law_append l hfl D cs hx hb hml hown hts hK hN hG hC hO hL hXs hbl (5 * (k : Int)) (by omega) (55 + k) (2965 + 6 * k) (by omega) ou o q n A T S0 S1 S2 S3 S V xm f xl g xk xn xd xe xth xam xpl gr gu hI9 hn9 H locs hP hD hS ls hl kk
    · refine zr_tsIn (tgt := 1599) (off := 1560) hx hb dL_law_39 c2 (by decide) (by decide) (by decide) rfl (by decide) ?_
      exact law_clearText l hfl D cs hx hb hml hown hts hK hN hG hC hO hL hXs hbl (5 * (k : Int)) (by omega) (55 + k) (2965 + 6 * k) (by omega) ou o q n A T S0 S1 S2 S3 S V xm f xl g xk xn xd xe xth xam xpl gr gu hI9 hn9 H locs hP hD hS ls hl kk
    · refine zr_tsIn (tgt := 1612) (off := 1573) hx hb dL_law_39 c2 (by decide) (by decide) (by decide) rfl (by decide) ?_
      by_cases htest : 0 ≤ zRv f xl
      · exact law_replay_ok l hfl D cs hx hb hml hown hts hK hN hG hC hO hL hXs hbl (5 * (k : Int)) (by omega) (55 + k) (2965 + 6 * k) (by omega) ou o q n A T S0 S1 S2 S3 S V xm f xl g xk xn xd xe xth xam xpl gr gu hI9 hn9 H locs hP hD hS ls hl htest kk
      · exact law_replay_no l hfl D cs hx hb hml hown hts hK hN hG hC hO hL hXs hbl (5 * (k : Int)) (by omega) (55 + k) (2965 + 6 * k) (by omega) ou o q n A T S0 S1 S2 S3 S V xm f xl g xk xn xd xe xth xam xpl gr gu hI9 hn9 H locs hP hD hS ls hl htest kk
    · refine zr_tsIn (tgt := 1625) (off := 1586) hx hb dL_law_39 c2 (by decide) (by decide) (by decide) rfl (by decide) ?_
      exact law_undo l hfl D cs hx hb hml hown hts hK hN hG hC hO hL hXs hbl (5 * (k : Int)) (by omega) (55 + k) (2965 + 6 * k) (by omega) ou o q n A T S0 S1 S2 S3 S V xm f xl g xk xn xd xe xth xam xpl gr gu hI9 hn9 H locs hP hD hS ls hl kk
    · refine zr_tsIn (tgt := 1669) (off := 1630) hx hb dL_law_39 c2 (by decide) (by decide) (by decide) rfl (by decide) ?_
      exact law_digest l hfl D cs hx hb hml hown hts hK hN hG hC hO hL hXs hbl (5 * (k : Int)) (by omega) (55 + k) (2965 + 6 * k) (by omega) ou o q n A T S0 S1 S2 S3 S V xm f xl g xk xn xd xe xth xam xpl gr gu hI9 hn9 H locs hP hD hS ls hl kk
    · refine zr_tsOut (tgt := 1683) hx hb dL_law_39 (by omega) c2 (by decide) ?_
      refine W.widen (k := 55 + k + 1) (n := 2965 + 6 * k + 6) (by omega) (by omega) ?_
      exact kk o q n A T S0 S1 S2 S3 S V xm f xl g xk xn xd xe xth xam xpl gr gu hI9 (by omega) H locs hP hD hS ls hl
