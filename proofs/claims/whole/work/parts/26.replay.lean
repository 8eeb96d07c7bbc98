/-! the reference: the text is replayed -/
def zQe (D : va_G) (w : va_W) (sz : Nat) (v : Int32) (w2 : Int → (Int → Int) → Int → va_W) : Array Value → State → Outcome → State → Prop := va_Qi (fun r (_ : Unit) => r = v) (fun _ t => ∃ pl : Int, ∃ g : Int → Int, ∃ am : Int, zB2 D (w2 pl g am) w sz t) (va_A w sz)
theorem zAg_r {f : Int → Int} (g : Int → Int) : ∀ (k : Nat) (j : Int), (∀ i : Int, 0 ≤ i → i < k → zAk (zAs f i.toNat) (f i) ≠ 0) → 0 ≤ j → j < (zAs f k).1 → -99999 ≤ zAg f g k j ∧ zAg f g k j ≤ 99999
  | 0, j, _, a, b => absurd b (by show ¬ j < (0 : Int); omega)
  | k + 1, j, o, a, b => by
    have ho : ∀ i : Int, 0 ≤ i → i < k → zAk (zAs f i.toNat) (f i) ≠ 0 := fun i a b => o i a (by omega)
    have ih9 := zAg_r (f := f) g k j ho a
    have hv := zAs_v f k ho
    have b1 : j < (zAt (zAs f k) (f (k : Int))).1 := b
    show -99999 ≤ zAh (zAs f k) (f (k : Int)) (zAg f g k) j ∧ zAh (zAs f k) (f (k : Int)) (zAg f g k) j ≤ 99999
    revert b1 ih9 hv
    generalize zAs f k = s9
    obtain ⟨c, n, d, e⟩ := s9
    intro ih9 hv b1
    have ih9 : j < c → -99999 ≤ zAg f g k j ∧ zAg f g k j ≤ 99999 := ih9
    have hn : 0 ≤ n ∧ n ≤ 99999 := (zDn_r hv.2.2.2).2
    by_cases c1 : f (k : Int) = 45
    · rw [zAt_a c1] at b1
      rw [zAh_a _ c1]
      exact ih9 b1
    by_cases c2 : 48 ≤ f (k : Int) ∧ f (k : Int) ≤ 57
    · rw [zAt_b c2] at b1
      rw [zAh_b _ c2]
      exact ih9 b1
    by_cases c3 : f (k : Int) = zSep c ∧ d ≠ 0
    · rw [zAt_c c3] at b1
      have b1 : j < c + 1 := b1
      rw [zAh_c _ c3]
      simp only [zU]
      by_cases c4 : j = c
      · rw [if_pos c4]
        unfold zSg
        split <;> omega
      · rw [if_neg c4]
        exact ih9 (by omega)
    · unfold zAt at b1
      rw [zIf3_d c1 c2 c3] at b1
      unfold zAh
      rw [zIf3_d c1 c2 c3]
      exact ih9 b1
theorem zU_cg {x y : Int → Int} {c v : Int} (h : ∀ j : Int, 0 ≤ j → j < c → x j = y j) {j : Int} (a : 0 ≤ j) (b : j < c + 1) : zU x c v j = zU y c v j := by
  simp only [zU]
  by_cases e : j = c
  · rw [if_pos e, if_pos e]
  · rw [if_neg e, if_neg e]
    exact h j a (by omega)
def zCn (f : Int → Int) (L : Int) : Int := (zAs f L.toNat).1
def zTb (f : Int → Int) (L : Int) : Int → Int := zAg f (fun _ => 0) L.toNat
abbrev zMs (G : Int → Int) (j : Int) : Prop := (-50000 ≤ G j ∧ G j ≤ 50000) ∧ (0 ≤ G (j + 1) ∧ G (j + 1) ≤ 6000) ∧ 1 ≤ G (j + 2) ∧ G (j + 2) ≤ 600
def zBad (f : Int → Int) (L : Int) : Int := zFst (fun i => decide (¬ zMs (zTb f L) (3 * i))) (zCn f L / 3).toNat 0
def zRv (f : Int → Int) (L : Int) : Int := if zRd f L ≠ -1 then -10 - zRd f L else if zBad f L < zCn f L / 3 then -1000 - zBad f L else zCn f L / 3
theorem zBad_eq {f : Int → Int} {L r : Int} (h1 : 0 ≤ r ∧ r ≤ zCn f L / 3) (h3 : ∀ k, 0 ≤ k → k < r → zMs (zTb f L) (3 * k)) (h4 : r < zCn f L / 3 → ¬ zMs (zTb f L) (3 * r)) : zBad f L = r :=
  zFst_eq h1.1 (by omega) (fun k a b => decide_eq_false (fun h => h (h3 k a b))) (fun a => decide_eq_true (h4 (by omega)))
noncomputable def zPl (A G : Int → Int) : Nat → Int → Int
  | 0 => A
  | k + 1 => zTr (zPl A G k) (G (3 * (k : Int))) (G (3 * (k : Int) + 1)) (G (3 * (k : Int) + 2))
theorem zPl_s (A G : Int → Int) {j : Int} (h : 0 ≤ j) (h3 : j % 3 = 0) : zPl A G ((j + 3) / 3).toNat = zTr (zPl A G (j / 3).toNat) (G j) (G (j + 1)) (G (j + 2)) := by
  rw [show ((j + 3) / 3).toNat = (j / 3).toNat + 1 by omega]
  show zTr (zPl A G (j / 3).toNat) (G (3 * (((j / 3).toNat : Nat) : Int))) (G (3 * (((j / 3).toNat : Nat) : Int) + 1)) (G (3 * (((j / 3).toNat : Nat) : Int) + 2)) = _
  rw [show 3 * (((j / 3).toNat : Nat) : Int) = j by omega]
theorem zOK_pl {n : Int} {A G : Int → Int} (h : zOK n A) (hn : 0 ≤ n) : ∀ k : Nat, n + 12 * k ≤ 3099900 → (∀ i : Int, 0 ≤ i → i < k → zMs G (3 * i)) → zOK (n + 12 * k) (zPl A G k)
  | 0, _, _ => by
    show zOK (n + 12 * ((0 : Nat) : Int)) A
    exact zOK_mono h (by omega)
  | k + 1, hk, hm => by
    obtain ⟨m1, m2, m3⟩ := hm (k : Int) (by omega) (by omega)
    have h9 := zOK_tr (zOK_pl (G := G) h hn k (by omega) (fun i a b => hm i a (by omega))) (by omega) m1 m2 m3
    exact zOK_mono h9 (by omega)
set_option maxHeartbeats 4000000 in
set_option maxRecDepth 100000 in
theorem met_X6_replay (l : Launch) (D : va_G) (cs : Nat → ClassId) (o : Nat → Nat) (sz : Nat) (A S T : Int → Int) (xsm xth xam : Int) (f : Int → Int) (xtl xpl : Int) (g : Int → Int) (n : Int) (hI : zOK n A) (hn : 0 ≤ n ∧ n ≤ 3100000) (kn6 : n ≤ 3090000) (ksm : 0 ≤ xsm ∧ xsm ≤ 4) (ktl : 0 ≤ xtl ∧ xtl ≤ 120) (kfr : ∀ k : Int, 0 ≤ k → k < xtl → 0 ≤ f k ∧ f k ≤ 127) : Met l yX6_replay wsX6_replay ({ frames := 5, cells := 0, slots := 0, locals := 137 }) (va_Pc [.ref (o 0)] (zPreZ D (zTy cs) (zmod cs o A S T xsm xth xam f xtl xpl g) sz)) (zQe D (zmod cs o A S T xsm xth xam f xtl xpl g) sz (zI (zRv f xtl)) (fun pl g9 am => zmod cs o (if 0 ≤ zRv f xtl then zPl A (zTb f xtl) (zCn f xtl / 3).toNat else A) (if 0 ≤ zRv f xtl then zSvF S A xsm else S) T (if 0 ≤ zRv f xtl then zm4 xsm else xsm) 0 am f xtl pl g9)) 0 0 (va_A (zmod cs o A S T xsm xth xam f xtl xpl g) sz) := by
  refine Met.ofW (cc := cX6_replay) (maxL := 4) (ret := (some .int)) (by decide) rfl ?_
  intro p e s m args below meth c s₁ B hml hv
  obtain ⟨rfl, hsz, hP, hK, hD0, hN⟩ := hv
  have hx := B.exec
  have hb := B.bytes
  have hr := B.returns
  have hts := atoms_spec (ws := wsX6_replay) B.pre
  have hown : s.vm.findClass RX6 = some m.cls := findClass_of_methodNamed B.named
  have hlocks := B.notSynchronized
  subst hsz
  obtain ⟨A0, hAe⟩ : ∃ A0, A0 = va_A (zmod cs o A S T xsm xth xam f xtl xpl g) s.heap.size := ⟨_, rfl⟩
  have hD := hD0.self (sz := s.heap.size)
  rw [← hAe] at hD
  have hA : ∀ q : Nat, s.heap.size ≤ q → A0 q := fun q h => by rw [hAe]; exact Or.inr h
  have hS : va_S A0 s.heap s.heap [] := va_S.rf
  have hP : va_P D vwCl (zmod cs o A S T xsm xth xam f xtl xpl g) s.heap := hP
  have hl := lv_entry ([.ref (o 0)]) (n := 4) (Nat.le_of_ble_eq_true rfl)
  rw [lg_entry_eq]
  generalize (lg_sl ([.ref (o 0)]) ++ List.replicate (4 - (lg_sl ([.ref (o 0)])).length) Slot.unset).toArray = ls at hl ⊢
  have hl : lv_has ls 4 [(0, .ref (o 0))] := hl
  have hiX6 : ∀ w ∈ wsX60, w ∈ wsX6_replay := by decide +kernel
  refine lv_aload_n hx hb dX6_replay_0 rfl (lv_at hl 0 rfl) ?_
  refine zr_iconst hx hb dX6_replay_1 ?_
  refine va_put (D := D) (ci := 6) (v := .int (zI 0)) (ty := .int) (C := RX6) (T := TX6) (N := 10) hx hb hts hiX6 tyX6 tyX6_ok nmX6 hown hK hP hD hS 0 rfl rfl 4 (by decide) (hts (.fieldLink RX6 86 "ChargeEstimatorModel" "thrown" "I") (List.mem_of_getElem? (i := 1) rfl)) (fun _ h9 => h9) rfl (by decide +kernel) rfl rfl (Nat.le_of_ble_eq_true rfl) dX6_replay_2 (fun H locs hP hD hS => ?_)
  have hP : va_P D vwCl (zmod cs o A S T xsm 0 xam f xtl xpl g) H := hP
  have hD : va_D A0 (zmod cs o A S T xsm 0 xam f xtl xpl g) := zD_addr hD rfl
  refine lv_aload_n hx hb dX6_replay_5 rfl (lv_at hl 0 rfl) ?_
  refine zr_iconst hx hb dX6_replay_6 ?_
  refine va_put (D := D) (ci := 6) (v := .int (zI 0)) (ty := .int) (C := RX6) (T := TX6) (N := 10) hx hb hts hiX6 tyX6 tyX6_ok nmX6 hown hK hP hD hS 0 rfl rfl 8 (by decide) (hts (.fieldLink RX6 240 "ChargeEstimatorModel" "place" "I") (List.mem_of_getElem? (i := 2) rfl)) (fun _ h9 => h9) rfl (by decide +kernel) rfl rfl (Nat.le_of_ble_eq_true rfl) dX6_replay_7 (fun H locs hP hD hS => ?_)
  have hP : va_P D vwCl (zmod cs o A S T xsm 0 xam f xtl 0 g) H := hP
  have hD : va_D A0 (zmod cs o A S T xsm 0 xam f xtl 0 g) := zD_addr hD rfl
  refine zr_iconst hx hb dX6_replay_10 ?_
  refine lv_istore_n (lv' := [(1, .int (zI 0)), (0, .ref (o 0))]) hx hb dX6_replay_11 rfl hl (by decide) rfl (fun ls hl => ?_)
  suffices J_12 : ∀ (nn : Nat) (xp : Int) (xc : Int) (xg : Int → Int) (jp : 0 ≤ xp ∧ xp ≤ xtl) (jc : 0 ≤ xc ∧ 2 * xc ≤ xp) (js : zAs f xp.toNat = (xc, 0, 0, 0)) (jo : ∀ k : Int, 0 ≤ k → k < xp → zAk (zAs f k.toNat) (f k) ≠ 0) (jg : ∀ j : Int, 0 ≤ j → j < xc → xg j = zAg f (fun _ => 0) xp.toNat j) (hmu : xtl - xp < (nn : Int)) (H : Heap) (locs : List Loc) (hP : va_P D vwCl (zmod cs o A S T xsm 0 xam f xtl xp xg) H) (hD : va_D A0 (zmod cs o A S T xsm 0 xam f xtl xp xg)) (hS : va_S A0 s.heap H locs) (ls : Array Slot) (hl : lv_has ls 4 [(1, .int (zI xc)), (0, .ref (o 0))]), W p l e (headSpec wsX6_replay ({ frames := 5, cells := 0, slots := 0, locals := 137 })).room s m ([.ref (o 0)] : List Value).toArray below meth c H locs 0 0 (MQ below (zQe D (zmod cs o A S T xsm xth xam f xtl xpl g) s.heap.size (zI (zRv f xtl)) (fun pl g9 am => zmod cs o (if 0 ≤ zRv f xtl then zPl A (zTb f xtl) (zCn f xtl / 3).toNat else A) (if 0 ≤ zRv f xtl then zSvF S A xsm else S) T (if 0 ≤ zRv f xtl then zm4 xsm else xsm) 0 am f xtl pl g9)) ([.ref (o 0)] : List Value).toArray s 0 0 (va_A (zmod cs o A S T xsm xth xam f xtl xpl g) s.heap.size)) (F0 m 12 ls []) by
    exact J_12 (((xtl - 0) : Int).toNat + 1) 0 0 g (by omega) (by omega) (by first | rfl | assumption) (by first | (intro k a b; omega) | (intro k a b; rcases Int.lt_or_le k xp with q9 | q9; (exact jo k a q9); (exact z2 k q9 b))) (by first | (intro j a b; omega) | (intro j a b; rw [z3]; exact zU_cg jg a b)) (by have : (0 : Int) ≤ xtl - 0 := (by omega); omega) _ _ hP hD hS _ (lv_sub hl [0, 1] rfl)
  intro nn
  induction nn with
  | zero => intro xp xc xg jp jc js jo jg hmu; exfalso; have : (0 : Int) ≤ xtl - xp := (by omega); omega
  | succ nn ih =>
    intro xp xc xg jp jc js jo jg hmu H locs hP hD hS ls hl
    refine lv_aload_n hx hb dX6_replay_12 rfl (lv_at hl 1 rfl) ?_
    refine va_get (D := D) (ci := 6) (v := .int (zI xp)) (C := RX6) (T := TX6) (N := 10) hx hb hts hiX6 hown hK hP 0 rfl rfl 8 (by decide) (hts (.fieldLink RX6 240 "ChargeEstimatorModel" "place" "I") (List.mem_of_getElem? (i := 2) rfl)) (fun _ h9 => h9) rfl dX6_replay_13 ?_
    refine lv_aload_n hx hb dX6_replay_16 rfl (lv_at hl 1 rfl) ?_
    refine va_get (D := D) (ci := 6) (v := .int (zI xtl)) (C := RX6) (T := TX6) (N := 10) hx hb hts hiX6 hown hK hP 0 rfl rfl 7 (by decide) (hts (.fieldLink RX6 237 "ChargeEstimatorModel" "textLong" "I") (List.mem_of_getElem? (i := 3) rfl)) (fun _ h9 => h9) rfl dX6_replay_17 ?_
    refine zr_icmp_lt (tgt := 29) hx hb dX6_replay_20 (by decide) (by omega) (by omega) (fun c1 => ?_) (fun c1 => ?_)
    · refine lv_aload_n hx hb dX6_replay_29 rfl (lv_at hl 1 rfl) ?_
      refine lv_iload_n hx hb dX6_replay_30 rfl (lv_at hl 0 rfl) ?_
      refine zc_i (va_runV (As := [.int (zI xc)]) (rest := []) ⟨hx, hb, hml, hown, hts⟩ (met_X6_readsNumber l D cs o H.size A S T xsm 0 xam f xtl xp xg xc (by first | assumption | omega) (by first | assumption | omega) (by first | assumption | omega) (by first | assumption | omega)) (cwV 1 hts gX6_replay_X6_readsNumber rfl rfl rfl (by decide +kernel) ⟨Nat.le_of_ble_eq_true rfl, Nat.le_of_ble_eq_true rfl⟩) ⟨zPreZ.blind, va_recv hK hP (ci := 6) (q0 := 0) rfl rfl, fun U hU hW => zp_Z hP hK hD hN hU hW⟩ rfl rfl hl.1 rfl (lv_room (Nat.le_of_ble_eq_true rfl)) dX6_replay_31 ⟨Nat.le_of_ble_eq_true rfl, Nat.le_of_ble_eq_true rfl⟩) hS hD hA (fun H locs hP hD hS => ?_)
      refine zr_ifb_ne (tgt := 45) hx hb dX6_replay_34 (by decide) (fun c2 => ?_) (fun c2 => ?_)
      · obtain ⟨z1, z2, z3, z4, z5⟩ := zNum_t (fun _ => 0) jp js (by assumption)
        have hP : va_P D vwCl (zmod cs o A S T xsm 0 xam f xtl (zFE f xtl (xp + zMin f xtl xp) + 1) (zU xg xc (zSg (zMin f xtl xp) (zNm f (xp + zMin f xtl xp) (zFE f xtl (xp + zMin f xtl xp) - (xp + zMin f xtl xp)).toNat)))) H := by rw [zB_t (P := zRok f xtl xc (xp + zMin f xtl xp)) (by assumption)] at hP; exact hP
        have hD : va_D A0 (zmod cs o A S T xsm 0 xam f xtl (zFE f xtl (xp + zMin f xtl xp) + 1) (zU xg xc (zSg (zMin f xtl xp) (zNm f (xp + zMin f xtl xp) (zFE f xtl (xp + zMin f xtl xp) - (xp + zMin f xtl xp)).toNat)))) := zD_addr hD rfl
        refine zr_iinc (kk := 0) (lv' := [(1, .int (zI (xc + 1))), (0, .ref (o 0))]) hx hb dX6_replay_45 hl rfl (by decide) rfl (fun ls hl => ?_)
        refine lv_goto (tgt := 12) hx hb dX6_replay_48 (by decide) ?_
        exact ih (zFE f xtl (xp + zMin f xtl xp) + 1) (xc + 1) (zU xg xc (zSg (zMin f xtl xp) (zNm f (xp + zMin f xtl xp) (zFE f xtl (xp + zMin f xtl xp) - (xp + zMin f xtl xp)).toNat))) (by omega) (by omega) (by first | rfl | assumption) (by first | (intro k a b; omega) | (intro k a b; rcases Int.lt_or_le k xp with q9 | q9; (exact jo k a q9); (exact z2 k q9 b))) (by first | (intro j a b; omega) | (intro j a b; rw [z3]; exact zU_cg jg a b)) (by omega) _ _ hP hD hS _ (lv_sub hl [0, 1] rfl)
      · have zf := zNum_f jp js jo (by assumption) (by omega)
        have e9 : zRv f xtl = -10 - zFE f xtl (xp + zMin f xtl xp) := by unfold zRv; rw [if_pos (by omega), zf.1]
        have hP : va_P D vwCl (zmod cs o A S T xsm 0 xam f xtl (zFE f xtl (xp + zMin f xtl xp)) (zU xg xc (zSg (zMin f xtl xp) (zNm f (xp + zMin f xtl xp) (zFE f xtl (xp + zMin f xtl xp) - (xp + zMin f xtl xp)).toNat)))) H := by rw [zB_f (P := zRok f xtl xc (xp + zMin f xtl xp)) (by assumption), Int.add_zero] at hP; exact hP
        have hD : va_D A0 (zmod cs o A S T xsm 0 xam f xtl (zFE f xtl (xp + zMin f xtl xp)) (zU xg xc (zSg (zMin f xtl xp) (zNm f (xp + zMin f xtl xp) (zFE f xtl (xp + zMin f xtl xp) - (xp + zMin f xtl xp)).toNat)))) := zD_addr hD rfl
        refine zr_bipush hx hb dX6_replay_37 (by decide) ?_
        refine lv_aload_n hx hb dX6_replay_39 rfl (lv_at hl 1 rfl) ?_
        refine va_get (D := D) (ci := 6) (v := .int (zI (zFE f xtl (xp + zMin f xtl xp)))) (C := RX6) (T := TX6) (N := 10) hx hb hts hiX6 hown hK hP 0 rfl rfl 8 (by decide) (hts (.fieldLink RX6 240 "ChargeEstimatorModel" "place" "I") (List.mem_of_getElem? (i := 2) rfl)) (fun _ h9 => h9) rfl dX6_replay_40 ?_
        refine zr_isub hx hb dX6_replay_43 ?_
        have e0 : ¬ 0 ≤ zRv f xtl := by omega
        have hP8 : va_P D vwCl (zmod cs o (if 0 ≤ zRv f xtl then zPl A (zTb f xtl) (zCn f xtl / 3).toNat else A) (if 0 ≤ zRv f xtl then zSvF S A xsm else S) T (if 0 ≤ zRv f xtl then zm4 xsm else xsm) 0 xam f xtl (zFE f xtl (xp + zMin f xtl xp)) (zU xg xc (zSg (zMin f xtl xp) (zNm f (xp + zMin f xtl xp) (zFE f xtl (xp + zMin f xtl xp) - (xp + zMin f xtl xp)).toNat)))) H := by rw [if_neg e0, if_neg e0, if_neg e0]; exact hP
        have hP9 : va_P D vwCl (zmod cs o (if 0 ≤ zRv f xtl then zPl A (zTb f xtl) (zCn f xtl / 3).toNat else A) (if 0 ≤ zRv f xtl then zSvF S A xsm else S) T (if 0 ≤ zRv f xtl then zm4 xsm else xsm) 0 xam f xtl (zFE f xtl (xp + zMin f xtl xp)) (zU xg xc (zSg (zMin f xtl xp) (zNm f (xp + zMin f xtl xp) (zFE f xtl (xp + zMin f xtl xp) - (xp + zMin f xtl xp)).toNat)))) H := hP8
        have hD9 : va_D A0 (zmod cs o (if 0 ≤ zRv f xtl then zPl A (zTb f xtl) (zCn f xtl / 3).toNat else A) (if 0 ≤ zRv f xtl then zSvF S A xsm else S) T (if 0 ≤ zRv f xtl then zm4 xsm else xsm) 0 xam f xtl (zFE f xtl (xp + zMin f xtl xp)) (zU xg xc (zSg (zMin f xtl xp) (zNm f (xp + zMin f xtl xp) (zFE f xtl (xp + zMin f xtl xp) - (xp + zMin f xtl xp)).toNat)))) := zD_addr hD rfl
        subst hAe
        exact W.iret hx hb hr (fun t ht hW => ⟨⟨_, (), rfl, (congrArg zI (show (-10) - (zFE f xtl (xp + zMin f xtl xp)) = zRv f xtl from by exact e9.symm)), zFE f xtl (xp + zMin f xtl xp), zU xg xc (zSg (zMin f xtl xp) (zNm f (xp + zMin f xtl xp) (zFE f xtl (xp + zMin f xtl xp) - (xp + zMin f xtl xp)).toNat)), xam, by rw [ht]; exact hP9, hD9⟩, hS.F ht⟩) hS.2.2 dX6_replay_44
    · refine lv_iload_n hx hb dX6_replay_23 rfl (lv_at hl 0 rfl) ?_
      refine zr_iconst hx hb dX6_replay_24 ?_
      refine zr_irem hx hb dX6_replay_25 (by omega) (by decide) ?_
      refine zr_if_eq (tgt := 51) hx hb dX6_replay_26 (by decide) (by omega) (fun c3 => ?_) (fun c3 => ?_)
      · have e1 : xp = xtl := by omega
        have js2 := js
        have jo2 := jo
        rw [e1] at js2 jo2
        have hz := zNum_e (by omega) js2 jo2 (by omega)
        have e3 : zCn f xtl = xc := by unfold zCn; rw [js2]
        have hgs : ∀ j : Int, 0 ≤ j → j < xc → xg j = zTb f xtl j := fun j a b => by
          rw [jg j a b, e1]
          rfl
        have hgr : ∀ j : Int, 0 ≤ j → j < xc → -99999 ≤ xg j ∧ xg j ≤ 99999 := fun j a b => by
          rw [hgs j a b]
          exact zAg_r _ _ _ (fun i c d => jo2 i c (by omega)) a (by rw [js2]; exact b)
        refine zr_iconst hx hb dX6_replay_51 ?_
        refine lv_istore_n (lv' := [(2, .int (zI 0)), (1, .int (zI xc)), (0, .ref (o 0))]) hx hb dX6_replay_52 rfl hl (by decide) rfl (fun ls hl => ?_)
        suffices J_53 : ∀ (nn : Nat) (xj : Int) (jj : 0 ≤ xj ∧ xj ≤ xc ∧ xj % 3 = 0) (jm : ∀ k : Int, 0 ≤ k → 3 * k < xj → zMs xg (3 * k)) (hmu : xc - xj < (nn : Int)) (H : Heap) (locs : List Loc) (hP : va_P D vwCl (zmod cs o A S T xsm 0 xam f xtl xp xg) H) (hD : va_D A0 (zmod cs o A S T xsm 0 xam f xtl xp xg)) (hS : va_S A0 s.heap H locs) (ls : Array Slot) (hl : lv_has ls 4 [(2, .int (zI xj)), (1, .int (zI xc)), (0, .ref (o 0))]), W p l e (headSpec wsX6_replay ({ frames := 5, cells := 0, slots := 0, locals := 137 })).room s m ([.ref (o 0)] : List Value).toArray below meth c H locs 0 0 (MQ below (zQe D (zmod cs o A S T xsm xth xam f xtl xpl g) s.heap.size (zI (zRv f xtl)) (fun pl g9 am => zmod cs o (if 0 ≤ zRv f xtl then zPl A (zTb f xtl) (zCn f xtl / 3).toNat else A) (if 0 ≤ zRv f xtl then zSvF S A xsm else S) T (if 0 ≤ zRv f xtl then zm4 xsm else xsm) 0 am f xtl pl g9)) ([.ref (o 0)] : List Value).toArray s 0 0 (va_A (zmod cs o A S T xsm xth xam f xtl xpl g) s.heap.size)) (F0 m 53 ls []) by
          exact J_53 (((xc - 0) : Int).toNat + 1) 0 (by omega) (by first | (intro k a b; omega) | (intro k a b; rcases Int.lt_or_le (3 * k) xj with q9 | q9; (exact jm k a q9); (rw [show 3 * k = xj by omega]; assumption))) (by have : (0 : Int) ≤ xc - 0 := (by omega); omega) _ _ hP hD hS _ (lv_sub hl [0, 1, 2] rfl)
        intro nn
        induction nn with
        | zero => intro xj jj jm hmu; exfalso; have : (0 : Int) ≤ xc - xj := (by omega); omega
        | succ nn ih =>
          intro xj jj jm hmu H locs hP hD hS ls hl
          have g0 := hgr xj
          have g1 := hgr (xj + 1)
          have g2 := hgr (xj + 2)
          refine lv_iload_n hx hb dX6_replay_53 rfl (lv_at hl 0 rfl) ?_
          refine lv_iload_n hx hb dX6_replay_54 rfl (lv_at hl 1 rfl) ?_
          refine zr_icmp_ge (tgt := 100) hx hb dX6_replay_55 (by decide) (by omega) (by omega) (fun c4 => ?_) (fun c4 => ?_)
          · have hmz : ∀ k : Int, 0 ≤ k → 3 * k < xj → zMs (zTb f xtl) (3 * k) := fun k a b => by
              have q := jm k a b
              rw [zMs, hgs (3 * k) (by omega) (by omega), hgs (3 * k + 1) (by omega) (by omega), hgs (3 * k + 2) (by omega) (by omega)] at q
              exact q
            have e8 : zBad f xtl = xc / 3 := zBad_eq (by omega) (fun k a b => hmz k a (by omega)) (fun q => by omega)
            have e9 : zRv f xtl = xc / 3 := by unfold zRv; rw [hz.1, if_neg (by decide), e8, if_neg (by omega), e3]
            have e0 : 0 ≤ zRv f xtl := by omega
            refine lv_aload_n hx hb dX6_replay_100 rfl (lv_at hl 2 rfl) ?_
            refine zc_v (va_runV (As := []) (rest := []) ⟨hx, hb, hml, hown, hts⟩ (met_X6_save l D cs o H.size A S T xsm 0 xam f xtl xp xg (by first | assumption | omega)) (cwV 0 hts gX6_replay_X6_save rfl rfl rfl (by decide +kernel) ⟨Nat.le_of_ble_eq_true rfl, Nat.le_of_ble_eq_true rfl⟩) ⟨zPreZ.blind, va_recv hK hP (ci := 6) (q0 := 0) rfl rfl, fun U hU hW => zp_Z hP hK hD hN hU hW⟩ rfl rfl hl.1 rfl (lv_room (Nat.le_of_ble_eq_true rfl)) dX6_replay_101 ⟨Nat.le_of_ble_eq_true rfl, Nat.le_of_ble_eq_true rfl⟩) hS hD hA (fun H locs hP hD hS => ?_)
            refine zr_iconst hx hb dX6_replay_104 ?_
            refine lv_istore_n (lv' := [(2, .int (zI 0)), (1, .int (zI xc)), (0, .ref (o 0))]) hx hb dX6_replay_105 rfl hl (by decide) rfl (fun ls hl => ?_)
            refine zr_iconst hx hb dX6_replay_106 ?_
            refine lv_istore_n (lv' := [(3, .int (zI 0)), (2, .int (zI 0)), (1, .int (zI xc)), (0, .ref (o 0))]) hx hb dX6_replay_107 rfl hl (by decide) rfl (fun ls hl => ?_)
            suffices J_108 : ∀ (nn : Nat) (xi : Int) (xb : Int) (xm : Int) (ji : 0 ≤ xi ∧ xi ≤ xc ∧ xi % 3 = 0) (jb : 0 ≤ xb ∧ xb ≤ 7) (hmu : xc - xi < (nn : Int)) (H : Heap) (locs : List Loc) (hP : va_P D vwCl (zmod cs o (zPl A (zTb f xtl) (xi / 3).toNat) (zSvF S A xsm) T (zm4 xsm) 0 xm f xtl xp xg) H) (hD : va_D A0 (zmod cs o (zPl A (zTb f xtl) (xi / 3).toNat) (zSvF S A xsm) T (zm4 xsm) 0 xm f xtl xp xg)) (hS : va_S A0 s.heap H locs) (ls : Array Slot) (hl : lv_has ls 4 [(3, .int (zI xi)), (2, .int (zI xb)), (1, .int (zI xc)), (0, .ref (o 0))]), W p l e (headSpec wsX6_replay ({ frames := 5, cells := 0, slots := 0, locals := 137 })).room s m ([.ref (o 0)] : List Value).toArray below meth c H locs 0 0 (MQ below (zQe D (zmod cs o A S T xsm xth xam f xtl xpl g) s.heap.size (zI (zRv f xtl)) (fun pl g9 am => zmod cs o (if 0 ≤ zRv f xtl then zPl A (zTb f xtl) (zCn f xtl / 3).toNat else A) (if 0 ≤ zRv f xtl then zSvF S A xsm else S) T (if 0 ≤ zRv f xtl then zm4 xsm else xsm) 0 am f xtl pl g9)) ([.ref (o 0)] : List Value).toArray s 0 0 (va_A (zmod cs o A S T xsm xth xam f xtl xpl g) s.heap.size)) (F0 m 108 ls []) by
              exact J_108 (((xc - 0) : Int).toNat + 1) 0 0 xam (by omega) (by first | decide | exact zOr_r jb (zBits_r _ _ _ _)) (by have : (0 : Int) ≤ xc - 0 := (by omega); omega) _ _ (by exact hP) (zD_addr hD rfl) hS _ (lv_sub hl [0, 1, 2, 3] rfl)
            intro nn
            induction nn with
            | zero => intro xi xb xm ji jb hmu; exfalso; have : (0 : Int) ≤ xc - xi := (by omega); omega
            | succ nn ih =>
              intro xi xb xm ji jb hmu H locs hP hD hS ls hl
              have hj := zOK_pl (G := zTb f xtl) hI hn.1 (xi / 3).toNat (by omega) (fun k a b => hmz k a (by omega))
              have g0 := hgr xi
              have g1 := hgr (xi + 1)
              have g2 := hgr (xi + 2)
              have m9 : xi < xc → zMs xg xi := fun q => by
                have := jm (xi / 3) (by omega) (by omega)
                rw [show 3 * (xi / 3) = xi by omega] at this
                exact this
              have hbr := zBits_r (zPl A (zTb f xtl) (xi / 3).toNat) (xg xi) (xg (xi + 1)) (xg (xi + 2))
              refine lv_iload_n hx hb dX6_replay_108 rfl (lv_at hl 0 rfl) ?_
              refine lv_iload_n hx hb dX6_replay_109 rfl (lv_at hl 2 rfl) ?_
              refine zr_icmp_ge (tgt := 151) hx hb dX6_replay_110 (by decide) (by omega) (by omega) (fun c5 => ?_) (fun c5 => ?_)
              · refine lv_iload_n hx hb dX6_replay_151 rfl (lv_at hl 2 rfl) ?_
                refine zr_iconst hx hb dX6_replay_152 ?_
                refine zr_idiv hx hb dX6_replay_153 (by omega) (by decide) ?_
                have hP8 : va_P D vwCl (zmod cs o (if 0 ≤ zRv f xtl then zPl A (zTb f xtl) (zCn f xtl / 3).toNat else A) (if 0 ≤ zRv f xtl then zSvF S A xsm else S) T (if 0 ≤ zRv f xtl then zm4 xsm else xsm) 0 xm f xtl xp xg) H := by rw [if_pos e0, if_pos e0, if_pos e0, e3, show xc = xi by omega]; exact hP
                have hP9 : va_P D vwCl (zmod cs o (if 0 ≤ zRv f xtl then zPl A (zTb f xtl) (zCn f xtl / 3).toNat else A) (if 0 ≤ zRv f xtl then zSvF S A xsm else S) T (if 0 ≤ zRv f xtl then zm4 xsm else xsm) 0 xm f xtl xp xg) H := hP8
                have hD9 : va_D A0 (zmod cs o (if 0 ≤ zRv f xtl then zPl A (zTb f xtl) (zCn f xtl / 3).toNat else A) (if 0 ≤ zRv f xtl then zSvF S A xsm else S) T (if 0 ≤ zRv f xtl then zm4 xsm else xsm) 0 xm f xtl xp xg) := zD_addr hD rfl
                subst hAe
                exact W.iret hx hb hr (fun t ht hW => ⟨⟨_, (), rfl, (congrArg zI (show xc / 3 = zRv f xtl from by exact e9.symm)), xp, xg, xm, by rw [ht]; exact hP9, hD9⟩, hS.F ht⟩) hS.2.2 dX6_replay_154
              · refine lv_iload_n hx hb dX6_replay_113 rfl (lv_at hl 1 rfl) ?_
                refine lv_aload_n hx hb dX6_replay_114 rfl (lv_at hl 3 rfl) ?_
                refine lv_aload_n hx hb dX6_replay_115 rfl (lv_at hl 3 rfl) ?_
                refine va_get (D := D) (ci := 6) (v := .ref (o 5)) (C := RX6) (T := TX6) (N := 10) hx hb hts hiX6 hown hK hP 0 rfl rfl 9 (by decide) (hts (.fieldLink RX6 23 "ChargeEstimatorModel" "read" "[I") (List.mem_of_getElem? (i := 4) rfl)) (fun _ h9 => h9) rfl dX6_replay_116 ?_
                refine lv_iload_n hx hb dX6_replay_119 rfl (lv_at hl 0 rfl) ?_
                refine zr_iald (D := D) (g := xg) hx hb hK hP 5 0 rfl rfl (by decide) (by omega) dX6_replay_120 ?_
                refine zr_i2l hx hb dX6_replay_121 (by omega) ?_
                refine lv_aload_n hx hb dX6_replay_122 rfl (lv_at hl 3 rfl) ?_
                refine va_get (D := D) (ci := 6) (v := .ref (o 5)) (C := RX6) (T := TX6) (N := 10) hx hb hts hiX6 hown hK hP 0 rfl rfl 9 (by decide) (hts (.fieldLink RX6 23 "ChargeEstimatorModel" "read" "[I") (List.mem_of_getElem? (i := 4) rfl)) (fun _ h9 => h9) rfl dX6_replay_123 ?_
                refine lv_iload_n hx hb dX6_replay_126 rfl (lv_at hl 0 rfl) ?_
                refine zr_iconst hx hb dX6_replay_127 ?_
                refine zr_iadd hx hb dX6_replay_128 ?_
                refine zr_iald (D := D) (g := xg) hx hb hK hP 5 0 rfl rfl (by decide) (by omega) dX6_replay_129 ?_
                refine zr_i2l hx hb dX6_replay_130 (by omega) ?_
                refine lv_aload_n hx hb dX6_replay_131 rfl (lv_at hl 3 rfl) ?_
                refine va_get (D := D) (ci := 6) (v := .ref (o 5)) (C := RX6) (T := TX6) (N := 10) hx hb hts hiX6 hown hK hP 0 rfl rfl 9 (by decide) (hts (.fieldLink RX6 23 "ChargeEstimatorModel" "read" "[I") (List.mem_of_getElem? (i := 4) rfl)) (fun _ h9 => h9) rfl dX6_replay_132 ?_
                refine lv_iload_n hx hb dX6_replay_135 rfl (lv_at hl 0 rfl) ?_
                refine zr_iconst hx hb dX6_replay_136 ?_
                refine zr_iadd hx hb dX6_replay_137 ?_
                refine zr_iald (D := D) (g := xg) hx hb hK hP 5 0 rfl rfl (by decide) (by omega) dX6_replay_138 ?_
                refine zr_i2l hx hb dX6_replay_139 (by omega) ?_
                refine zc_i (va_runV (As := [.long (zL (xg xi)), .long (zL (xg (xi + 1))), .long (zL (xg (xi + 2)))]) (rest := [.int (zI xb)]) ⟨hx, hb, hml, hown, hts⟩ (met_X6_treats l D cs o H.size (zPl A (zTb f xtl) (xi / 3).toNat) (zSvF S A xsm) T (zm4 xsm) 0 xm f xtl xp xg _ (xg xi) (xg (xi + 1)) (xg (xi + 2)) (by exact hj) (by omega) (by omega) (by exact (m9 (by omega)).1) (by exact (m9 (by omega)).2.1) (by exact (m9 (by omega)).2.2)) (cwV 3 hts gX6_replay_X6_treats rfl rfl rfl (by decide +kernel) ⟨Nat.le_of_ble_eq_true rfl, Nat.le_of_ble_eq_true rfl⟩) ⟨zPreZ.blind, va_recv hK hP (ci := 6) (q0 := 0) rfl rfl, fun U hU hW => zp_Z hP hK hD hN hU hW⟩ rfl rfl hl.1 rfl (lv_room (Nat.le_of_ble_eq_true rfl)) dX6_replay_140 ⟨Nat.le_of_ble_eq_true rfl, Nat.le_of_ble_eq_true rfl⟩) hS hD hA (fun H locs hP hD hS => ?_)
                refine zr_ior hx hb dX6_replay_143 (by omega) (by omega) ?_
                refine lv_istore_n (lv' := [(2, .int (zI (zOr xb (zBits (zPl A (zTb f xtl) (xi / 3).toNat) (xg xi) (xg (xi + 1)) (xg (xi + 2)))))), (3, .int (zI xi)), (1, .int (zI xc)), (0, .ref (o 0))]) hx hb dX6_replay_144 rfl hl (by decide) rfl (fun ls hl => ?_)
                refine zr_iinc (kk := 1) (lv' := [(3, .int (zI (xi + 3))), (2, .int (zI (zOr xb (zBits (zPl A (zTb f xtl) (xi / 3).toNat) (xg xi) (xg (xi + 1)) (xg (xi + 2)))))), (1, .int (zI xc)), (0, .ref (o 0))]) hx hb dX6_replay_145 hl rfl (by decide) rfl (fun ls hl => ?_)
                refine lv_goto (tgt := 108) hx hb dX6_replay_148 (by decide) ?_
                exact ih (xi + 3) (zOr xb (zBits (zPl A (zTb f xtl) (xi / 3).toNat) (xg xi) (xg (xi + 1)) (xg (xi + 2)))) (xm + zMany (zPl A (zTb f xtl) (xi / 3).toNat) (xg xi) (xg (xi + 1)) (xg (xi + 2))) (by omega) (by first | decide | exact zOr_r jb (zBits_r _ _ _ _)) (by omega) _ _ (by rw [zPl_s A (zTb f xtl) ji.1 ji.2.2, ← hgs xi (by omega) (by omega), ← hgs (xi + 1) (by omega) (by omega), ← hgs (xi + 2) (by omega) (by omega)]; exact hP) (zD_addr hD rfl) hS _ (lv_sub hl [0, 1, 2, 3] rfl)
          · refine lv_aload_n hx hb dX6_replay_58 rfl (lv_at hl 2 rfl) ?_
            refine va_get (D := D) (ci := 6) (v := .ref (o 5)) (C := RX6) (T := TX6) (N := 10) hx hb hts hiX6 hown hK hP 0 rfl rfl 9 (by decide) (hts (.fieldLink RX6 23 "ChargeEstimatorModel" "read" "[I") (List.mem_of_getElem? (i := 4) rfl)) (fun _ h9 => h9) rfl dX6_replay_59 ?_
            refine lv_iload_n hx hb dX6_replay_62 rfl (lv_at hl 0 rfl) ?_
            refine zr_iald (D := D) (g := xg) hx hb hK hP 5 0 rfl rfl (by decide) (by omega) dX6_replay_63 ?_
            refine lv_aload_n hx hb dX6_replay_64 rfl (lv_at hl 2 rfl) ?_
            refine va_get (D := D) (ci := 6) (v := .ref (o 5)) (C := RX6) (T := TX6) (N := 10) hx hb hts hiX6 hown hK hP 0 rfl rfl 9 (by decide) (hts (.fieldLink RX6 23 "ChargeEstimatorModel" "read" "[I") (List.mem_of_getElem? (i := 4) rfl)) (fun _ h9 => h9) rfl dX6_replay_65 ?_
            refine lv_iload_n hx hb dX6_replay_68 rfl (lv_at hl 0 rfl) ?_
            refine zr_iconst hx hb dX6_replay_69 ?_
            refine zr_iadd hx hb dX6_replay_70 ?_
            refine zr_iald (D := D) (g := xg) hx hb hK hP 5 0 rfl rfl (by decide) (by omega) dX6_replay_71 ?_
            refine lv_aload_n hx hb dX6_replay_72 rfl (lv_at hl 2 rfl) ?_
            refine va_get (D := D) (ci := 6) (v := .ref (o 5)) (C := RX6) (T := TX6) (N := 10) hx hb hts hiX6 hown hK hP 0 rfl rfl 9 (by decide) (hts (.fieldLink RX6 23 "ChargeEstimatorModel" "read" "[I") (List.mem_of_getElem? (i := 4) rfl)) (fun _ h9 => h9) rfl dX6_replay_73 ?_
            refine lv_iload_n hx hb dX6_replay_76 rfl (lv_at hl 0 rfl) ?_
            refine zr_iconst hx hb dX6_replay_77 ?_
            refine zr_iadd hx hb dX6_replay_78 ?_
            refine zr_iald (D := D) (g := xg) hx hb hK hP 5 0 rfl rfl (by decide) (by omega) dX6_replay_79 ?_
            refine zc_ri (va_runS (As := [.int (zI (xg xj)), .int (zI (xg (xj + 1))), .int (zI (xg (xj + 2)))]) (rest := []) ⟨hx, hb, hml, hown, hts⟩ (met_X6_isMeasurement l (xg xj) (xg (xj + 1)) (xg (xj + 2)) (by first | assumption | omega) (by first | assumption | omega) (by first | assumption | omega)) (va_cwS 3 hts gX6_replay_X6_isMeasurement rfl rfl rfl (by decide +kernel) ⟨Nat.le_of_ble_eq_true rfl, Nat.le_of_ble_eq_true rfl⟩) ⟨zTrue.blind, fun U hU hW => ⟨rfl, trivial⟩⟩ rfl rfl hl.1 rfl (lv_room (Nat.le_of_ble_eq_true rfl)) dX6_replay_80 ⟨Nat.le_of_ble_eq_true rfl, Nat.le_of_ble_eq_true rfl⟩) ?_
            refine zr_ifb_ne (tgt := 94) hx hb dX6_replay_83 (by decide) (fun c6 => ?_) (fun c6 => ?_)
            · refine zr_iinc (kk := 0) (lv' := [(2, .int (zI (xj + 3))), (1, .int (zI xc)), (0, .ref (o 0))]) hx hb dX6_replay_94 hl rfl (by decide) rfl (fun ls hl => ?_)
              refine lv_goto (tgt := 53) hx hb dX6_replay_97 (by decide) ?_
              exact ih (xj + 3) (by omega) (by first | (intro k a b; omega) | (intro k a b; rcases Int.lt_or_le (3 * k) xj with q9 | q9; (exact jm k a q9); (rw [show 3 * k = xj by omega]; assumption))) (by omega) _ _ hP hD hS _ (lv_sub hl [0, 1, 2] rfl)
            · have hmz : ∀ k : Int, 0 ≤ k → 3 * k < xj → zMs (zTb f xtl) (3 * k) := fun k a b => by
                have q := jm k a b
                rw [zMs, hgs (3 * k) (by omega) (by omega), hgs (3 * k + 1) (by omega) (by omega), hgs (3 * k + 2) (by omega) (by omega)] at q
                exact q
              have e8 : zBad f xtl = xj / 3 := zBad_eq (by omega) (fun k a b => hmz k a (by omega)) (fun _ q => by rw [show 3 * (xj / 3) = xj by omega, zMs, ← hgs xj (by omega) (by omega), ← hgs (xj + 1) (by omega) (by omega), ← hgs (xj + 2) (by omega) (by omega)] at q; exact absurd q (by assumption))
              have e9 : zRv f xtl = -1000 - xj / 3 := by unfold zRv; rw [hz.1, if_neg (by decide), e8, if_pos (by omega)]
              refine zr_sipush hx hb dX6_replay_86 (by decide) ?_
              refine lv_iload_n hx hb dX6_replay_89 rfl (lv_at hl 0 rfl) ?_
              refine zr_iconst hx hb dX6_replay_90 ?_
              refine zr_idiv hx hb dX6_replay_91 (by omega) (by decide) ?_
              refine zr_isub hx hb dX6_replay_92 ?_
              have e0 : ¬ 0 ≤ zRv f xtl := by omega
              have hP8 : va_P D vwCl (zmod cs o (if 0 ≤ zRv f xtl then zPl A (zTb f xtl) (zCn f xtl / 3).toNat else A) (if 0 ≤ zRv f xtl then zSvF S A xsm else S) T (if 0 ≤ zRv f xtl then zm4 xsm else xsm) 0 xam f xtl xp xg) H := by rw [if_neg e0, if_neg e0, if_neg e0]; exact hP
              have hP9 : va_P D vwCl (zmod cs o (if 0 ≤ zRv f xtl then zPl A (zTb f xtl) (zCn f xtl / 3).toNat else A) (if 0 ≤ zRv f xtl then zSvF S A xsm else S) T (if 0 ≤ zRv f xtl then zm4 xsm else xsm) 0 xam f xtl xp xg) H := hP8
              have hD9 : va_D A0 (zmod cs o (if 0 ≤ zRv f xtl then zPl A (zTb f xtl) (zCn f xtl / 3).toNat else A) (if 0 ≤ zRv f xtl then zSvF S A xsm else S) T (if 0 ≤ zRv f xtl then zm4 xsm else xsm) 0 xam f xtl xp xg) := zD_addr hD rfl
              subst hAe
              exact W.iret hx hb hr (fun t ht hW => ⟨⟨_, (), rfl, (congrArg zI (show (-1000) - (xj / 3) = zRv f xtl from by exact e9.symm)), xp, xg, xam, by rw [ht]; exact hP9, hD9⟩, hS.F ht⟩) hS.2.2 dX6_replay_93
      · refine lv_aload_n hx hb dX6_replay_29 rfl (lv_at hl 1 rfl) ?_
        refine lv_iload_n hx hb dX6_replay_30 rfl (lv_at hl 0 rfl) ?_
        refine zc_i (va_runV (As := [.int (zI xc)]) (rest := []) ⟨hx, hb, hml, hown, hts⟩ (met_X6_readsNumber l D cs o H.size A S T xsm 0 xam f xtl xp xg xc (by first | assumption | omega) (by first | assumption | omega) (by first | assumption | omega) (by first | assumption | omega)) (cwV 1 hts gX6_replay_X6_readsNumber rfl rfl rfl (by decide +kernel) ⟨Nat.le_of_ble_eq_true rfl, Nat.le_of_ble_eq_true rfl⟩) ⟨zPreZ.blind, va_recv hK hP (ci := 6) (q0 := 0) rfl rfl, fun U hU hW => zp_Z hP hK hD hN hU hW⟩ rfl rfl hl.1 rfl (lv_room (Nat.le_of_ble_eq_true rfl)) dX6_replay_31 ⟨Nat.le_of_ble_eq_true rfl, Nat.le_of_ble_eq_true rfl⟩) hS hD hA (fun H locs hP hD hS => ?_)
        refine zr_ifb_ne (tgt := 45) hx hb dX6_replay_34 (by decide) (fun c7 => ?_) (fun c7 => ?_)
        · obtain ⟨z1, z2, z3, z4, z5⟩ := zNum_t (fun _ => 0) jp js (by assumption)
          have hP : va_P D vwCl (zmod cs o A S T xsm 0 xam f xtl (zFE f xtl (xp + zMin f xtl xp) + 1) (zU xg xc (zSg (zMin f xtl xp) (zNm f (xp + zMin f xtl xp) (zFE f xtl (xp + zMin f xtl xp) - (xp + zMin f xtl xp)).toNat)))) H := by rw [zB_t (P := zRok f xtl xc (xp + zMin f xtl xp)) (by assumption)] at hP; exact hP
          have hD : va_D A0 (zmod cs o A S T xsm 0 xam f xtl (zFE f xtl (xp + zMin f xtl xp) + 1) (zU xg xc (zSg (zMin f xtl xp) (zNm f (xp + zMin f xtl xp) (zFE f xtl (xp + zMin f xtl xp) - (xp + zMin f xtl xp)).toNat)))) := zD_addr hD rfl
          refine zr_iinc (kk := 0) (lv' := [(1, .int (zI (xc + 1))), (0, .ref (o 0))]) hx hb dX6_replay_45 hl rfl (by decide) rfl (fun ls hl => ?_)
          refine lv_goto (tgt := 12) hx hb dX6_replay_48 (by decide) ?_
          exact ih (zFE f xtl (xp + zMin f xtl xp) + 1) (xc + 1) (zU xg xc (zSg (zMin f xtl xp) (zNm f (xp + zMin f xtl xp) (zFE f xtl (xp + zMin f xtl xp) - (xp + zMin f xtl xp)).toNat))) (by omega) (by omega) (by first | rfl | assumption) (by first | (intro k a b; omega) | (intro k a b; rcases Int.lt_or_le k xp with q9 | q9; (exact jo k a q9); (exact z2 k q9 b))) (by first | (intro j a b; omega) | (intro j a b; rw [z3]; exact zU_cg jg a b)) (by omega) _ _ hP hD hS _ (lv_sub hl [0, 1] rfl)
        · have zf := zNum_f jp js jo (by assumption) (by omega)
          have e9 : zRv f xtl = -10 - zFE f xtl (xp + zMin f xtl xp) := by unfold zRv; rw [if_pos (by omega), zf.1]
          have hP : va_P D vwCl (zmod cs o A S T xsm 0 xam f xtl (zFE f xtl (xp + zMin f xtl xp)) (zU xg xc (zSg (zMin f xtl xp) (zNm f (xp + zMin f xtl xp) (zFE f xtl (xp + zMin f xtl xp) - (xp + zMin f xtl xp)).toNat)))) H := by rw [zB_f (P := zRok f xtl xc (xp + zMin f xtl xp)) (by assumption), Int.add_zero] at hP; exact hP
          have hD : va_D A0 (zmod cs o A S T xsm 0 xam f xtl (zFE f xtl (xp + zMin f xtl xp)) (zU xg xc (zSg (zMin f xtl xp) (zNm f (xp + zMin f xtl xp) (zFE f xtl (xp + zMin f xtl xp) - (xp + zMin f xtl xp)).toNat)))) := zD_addr hD rfl
          refine zr_bipush hx hb dX6_replay_37 (by decide) ?_
          refine lv_aload_n hx hb dX6_replay_39 rfl (lv_at hl 1 rfl) ?_
          refine va_get (D := D) (ci := 6) (v := .int (zI (zFE f xtl (xp + zMin f xtl xp)))) (C := RX6) (T := TX6) (N := 10) hx hb hts hiX6 hown hK hP 0 rfl rfl 8 (by decide) (hts (.fieldLink RX6 240 "ChargeEstimatorModel" "place" "I") (List.mem_of_getElem? (i := 2) rfl)) (fun _ h9 => h9) rfl dX6_replay_40 ?_
          refine zr_isub hx hb dX6_replay_43 ?_
          have e0 : ¬ 0 ≤ zRv f xtl := by omega
          have hP8 : va_P D vwCl (zmod cs o (if 0 ≤ zRv f xtl then zPl A (zTb f xtl) (zCn f xtl / 3).toNat else A) (if 0 ≤ zRv f xtl then zSvF S A xsm else S) T (if 0 ≤ zRv f xtl then zm4 xsm else xsm) 0 xam f xtl (zFE f xtl (xp + zMin f xtl xp)) (zU xg xc (zSg (zMin f xtl xp) (zNm f (xp + zMin f xtl xp) (zFE f xtl (xp + zMin f xtl xp) - (xp + zMin f xtl xp)).toNat)))) H := by rw [if_neg e0, if_neg e0, if_neg e0]; exact hP
          have hP9 : va_P D vwCl (zmod cs o (if 0 ≤ zRv f xtl then zPl A (zTb f xtl) (zCn f xtl / 3).toNat else A) (if 0 ≤ zRv f xtl then zSvF S A xsm else S) T (if 0 ≤ zRv f xtl then zm4 xsm else xsm) 0 xam f xtl (zFE f xtl (xp + zMin f xtl xp)) (zU xg xc (zSg (zMin f xtl xp) (zNm f (xp + zMin f xtl xp) (zFE f xtl (xp + zMin f xtl xp) - (xp + zMin f xtl xp)).toNat)))) H := hP8
          have hD9 : va_D A0 (zmod cs o (if 0 ≤ zRv f xtl then zPl A (zTb f xtl) (zCn f xtl / 3).toNat else A) (if 0 ≤ zRv f xtl then zSvF S A xsm else S) T (if 0 ≤ zRv f xtl then zm4 xsm else xsm) 0 xam f xtl (zFE f xtl (xp + zMin f xtl xp)) (zU xg xc (zSg (zMin f xtl xp) (zNm f (xp + zMin f xtl xp) (zFE f xtl (xp + zMin f xtl xp) - (xp + zMin f xtl xp)).toNat)))) := zD_addr hD rfl
          subst hAe
          exact W.iret hx hb hr (fun t ht hW => ⟨⟨_, (), rfl, (congrArg zI (show (-10) - (zFE f xtl (xp + zMin f xtl xp)) = zRv f xtl from by exact e9.symm)), zFE f xtl (xp + zMin f xtl xp), zU xg xc (zSg (zMin f xtl xp) (zNm f (xp + zMin f xtl xp) (zFE f xtl (xp + zMin f xtl xp) - (xp + zMin f xtl xp)).toNat)), xam, by rw [ht]; exact hP9, hD9⟩, hS.F ht⟩) hS.2.2 dX6_replay_44
