/-! the text: how it is read -/
def zAt (s : Int × Int × Int × Int) (b : Int) : Int × Int × Int × Int := (zIf3 b s.1 s.2.2.1 s.1 s.1 (s.1 + 1) s.1, zIf3 b s.1 s.2.2.1 s.2.1 (10 * s.2.1 + (b - 48)) 0 s.2.1, zIf3 b s.1 s.2.2.1 s.2.2.1 (s.2.2.1 + 1) 0 s.2.2.1, zIf3 b s.1 s.2.2.1 1 s.2.2.2 0 s.2.2.2)
def zAk (s : Int × Int × Int × Int) (b : Int) : Int := zIf3 b s.1 s.2.2.1 (zB (s.2.2.1 = 0 ∧ s.2.2.2 = 0)) (zB (s.2.2.1 + 1 ≤ 5)) 1 0
def zAh (s : Int × Int × Int × Int) (b : Int) (g : Int → Int) : Int → Int := zIf3 b s.1 s.2.2.1 g g (zU g s.1 (zSg s.2.2.2 s.2.1)) g
def zAs (f : Int → Int) : Nat → Int × Int × Int × Int
  | 0 => (0, 0, 0, 0)
  | k + 1 => zAt (zAs f k) (f (k : Int))
def zAg (f g : Int → Int) : Nat → Int → Int
  | 0 => g
  | k + 1 => zAh (zAs f k) (f (k : Int)) (zAg f g k)
theorem zAs_s (f : Int → Int) {j : Int} (h : 0 ≤ j) : zAs f (j + 1).toNat = zAt (zAs f j.toNat) (f j) := by
  rw [ztn j h]
  show zAt (zAs f j.toNat) (f ((j.toNat : Nat) : Int)) = _
  rw [Int.toNat_of_nonneg h]
theorem zAg_s (f g : Int → Int) {j : Int} (h : 0 ≤ j) : zAg f g (j + 1).toNat = zAh (zAs f j.toNat) (f j) (zAg f g j.toNat) := by
  rw [ztn j h]
  show zAh (zAs f j.toNat) (f ((j.toNat : Nat) : Int)) (zAg f g j.toNat) = _
  rw [Int.toNat_of_nonneg h]
theorem zAt_a {c n d e b : Int} (h : b = 45) : zAt (c, n, d, e) b = (c, n, d, 1) := by unfold zAt; rw [zIf3_a h]
theorem zAt_b {c n d e b : Int} (h : 48 ≤ b ∧ b ≤ 57) : zAt (c, n, d, e) b = (c, 10 * n + (b - 48), d + 1, e) := by unfold zAt; rw [zIf3_b h]
theorem zAt_c {c n d e b : Int} (h : b = zSep c ∧ d ≠ 0) : zAt (c, n, d, e) b = (c + 1, 0, 0, 0) := by unfold zAt; rw [zIf3_c h]
theorem zAk_a {c n d e b : Int} (h : b = 45) : zAk (c, n, d, e) b = zB (d = 0 ∧ e = 0) := by unfold zAk; rw [zIf3_a h]
theorem zAk_b {c n d e b : Int} (h : 48 ≤ b ∧ b ≤ 57) : zAk (c, n, d, e) b = zB (d + 1 ≤ 5) := by unfold zAk; rw [zIf3_b h]
theorem zAk_c {c n d e b : Int} (h : b = zSep c ∧ d ≠ 0) : zAk (c, n, d, e) b = 1 := by unfold zAk; rw [zIf3_c h]
theorem zAk_d {c n d e b : Int} (h1 : b ≠ 45) (h2 : ¬ (48 ≤ b ∧ b ≤ 57)) (h : ¬ (b = zSep c ∧ d ≠ 0)) : zAk (c, n, d, e) b = 0 := by unfold zAk; rw [zIf3_d h1 h2 h]
theorem zAh_a {c n d e b : Int} (g : Int → Int) (h : b = 45) : zAh (c, n, d, e) b g = g := by unfold zAh; rw [zIf3_a h]
theorem zAh_b {c n d e b : Int} (g : Int → Int) (h : 48 ≤ b ∧ b ≤ 57) : zAh (c, n, d, e) b g = g := by unfold zAh; rw [zIf3_b h]
theorem zAh_c {c n d e b : Int} (g : Int → Int) (h : b = zSep c ∧ d ≠ 0) : zAh (c, n, d, e) b g = zU g c (zSg e n) := by unfold zAh; rw [zIf3_c h]
theorem zB_n {P : Prop} [Decidable P] (h : zB P ≠ 0) : P := Decidable.byContradiction fun hn => h (zB_f hn)
theorem zAk_r (s : Int × Int × Int × Int) (b : Int) : 0 ≤ zAk s b ∧ zAk s b ≤ 1 := by
  unfold zAk zIf3
  have h1 := zB_r (s.2.2.1 = 0 ∧ s.2.2.2 = 0)
  have h2 := zB_r (s.2.2.1 + 1 ≤ 5)
  (repeat' split) <;> omega
def zDn (d n : Int) : Prop := (d = 0 ∧ n = 0) ∨ (d = 1 ∧ 0 ≤ n ∧ n ≤ 9) ∨ (d = 2 ∧ 0 ≤ n ∧ n ≤ 99) ∨ (d = 3 ∧ 0 ≤ n ∧ n ≤ 999) ∨ (d = 4 ∧ 0 ≤ n ∧ n ≤ 9999) ∨ (d = 5 ∧ 0 ≤ n ∧ n ≤ 99999)
theorem zDn_r {d n : Int} (h : zDn d n) : (0 ≤ d ∧ d ≤ 5) ∧ 0 ≤ n ∧ n ≤ 99999 := by unfold zDn at h; omega
theorem zDn_s {d n b : Int} (h : zDn d n) (hd : d + 1 ≤ 5) (hb : 48 ≤ b ∧ b ≤ 57) : zDn (d + 1) (10 * n + (b - 48)) := by unfold zDn at h ⊢; omega
def zAv (s : Int × Int × Int × Int) (k : Int) : Prop := 0 ≤ s.1 ∧ 2 * s.1 + s.2.2.1 ≤ k ∧ (0 ≤ s.2.2.2 ∧ s.2.2.2 ≤ 1) ∧ zDn s.2.2.1 s.2.1
theorem zAt_v (s : Int × Int × Int × Int) {b k : Int} (h : zAv s k) (o : zAk s b ≠ 0) : zAv (zAt s b) (k + 1) := by
  obtain ⟨c, n, d, e⟩ := s
  obtain ⟨h1, h2, h3, h4⟩ := h
  have h1 : 0 ≤ c := h1
  have h2 : 2 * c + d ≤ k := h2
  have h4 : zDn d n := h4
  have h5 := zDn_r h4
  by_cases c1 : b = 45
  · rw [zAt_a c1]
    exact ⟨h1, (by show 2 * c + d ≤ k + 1; omega), (by show (0 : Int) ≤ 1 ∧ (1 : Int) ≤ 1; decide), h4⟩
  by_cases c2 : 48 ≤ b ∧ b ≤ 57
  · rw [zAk_b c2] at o
    have o1 := zB_n o
    rw [zAt_b c2]
    exact ⟨h1, (by show 2 * c + (d + 1) ≤ k + 1; omega), h3, zDn_s h4 o1 c2⟩
  by_cases c3 : b = zSep c ∧ d ≠ 0
  · rw [zAt_c c3]
    exact ⟨(by show 0 ≤ c + 1; omega), (by show 2 * (c + 1) + 0 ≤ k + 1; omega), (by show (0 : Int) ≤ 0 ∧ (0 : Int) ≤ 1; decide), Or.inl ⟨rfl, rfl⟩⟩
  · exact absurd (zAk_d c1 c2 c3) o
theorem zAs_v (f : Int → Int) : ∀ k : Nat, (∀ j : Int, 0 ≤ j → j < k → zAk (zAs f j.toNat) (f j) ≠ 0) → zAv (zAs f k) k
  | 0, _ => ⟨(show (0 : Int) ≤ 0 by decide), (show 2 * (0 : Int) + 0 ≤ 0 by decide), (show (0 : Int) ≤ 0 ∧ (0 : Int) ≤ 1 by decide), Or.inl ⟨rfl, rfl⟩⟩
  | k + 1, h => by
    have i := zAs_v f k (fun j a b => h j a (by omega))
    have o := h (k : Int) (by omega) (by omega)
    rw [Int.toNat_natCast] at o
    have r := zAt_v (zAs f k) i o
    show zAv (zAt (zAs f k) (f (k : Int))) ((k + 1 : Nat) : Int)
    rw [Int.natCast_add]
    exact r
theorem zAs_w (f : Int → Int) {j : Int} (hj : 0 ≤ j) (h : ∀ k : Int, 0 ≤ k → k < j → zAk (zAs f k.toNat) (f k) ≠ 0) : 0 ≤ (zAs f j.toNat).1 ∧ 2 * (zAs f j.toNat).1 + (zAs f j.toNat).2.2.1 ≤ j ∧ (0 ≤ (zAs f j.toNat).2.2.2 ∧ (zAs f j.toNat).2.2.2 ≤ 1) ∧ (0 ≤ (zAs f j.toNat).2.2.1 ∧ (zAs f j.toNat).2.2.1 ≤ 5) ∧ 0 ≤ (zAs f j.toNat).2.1 ∧ (zAs f j.toNat).2.1 ≤ 99999 := by
  obtain ⟨i1, i2, i3, i4⟩ := zAs_v f j.toNat (fun k a b => h k a (by omega))
  have i5 := zDn_r i4
  rw [Int.toNat_of_nonneg hj] at i2
  exact ⟨i1, i2, i3, i5.1, i5.2⟩
def zEr (f : Int → Int) (L : Int) : Int := zFst (fun k => decide (zAk (zAs f k.toNat) (f k) = 0)) L.toNat 0
def zRd (f : Int → Int) (L : Int) : Int := if zEr f L < L then zEr f L else if (zAs f L.toNat).1 % 3 = 0 ∧ (zAs f L.toNat).2.2.1 = 0 ∧ (zAs f L.toNat).2.2.2 = 0 then -1 else L
def zRk (f : Int → Int) (L : Int) : Nat := if zEr f L < L then (zEr f L + 1).toNat else L.toNat
theorem zEr_eq {f : Int → Int} {L r : Int} (h1 : 0 ≤ r ∧ r ≤ L) (h3 : ∀ k, 0 ≤ k → k < r → zAk (zAs f k.toNat) (f k) ≠ 0) (h4 : r < L → zAk (zAs f r.toNat) (f r) = 0) : zEr f L = r :=
  zFst_eq h1.1 (by omega) (fun k a b => decide_eq_false (h3 k a b)) (fun a => decide_eq_true (h4 (by omega)))
set_option maxHeartbeats 4000000 in
set_option maxRecDepth 100000 in
theorem met_X4_read (l : Launch) (D : va_G) (cs : Nat → ClassId) (w : Nat → Nat) (sz : Nat) (f : Int → Int) (xl : Int) (g : Int → Int) (xm xn xd xe : Int) (kl : 0 ≤ xl ∧ xl ≤ 120) (kf : ∀ k : Int, 0 ≤ k → k < xl → 0 ≤ f k ∧ f k ≤ 127) : Met l yX4_read wsX4_read ({ frames := 2, cells := 0, slots := 0, locals := 42 }) (va_Pc [.ref (w 0)] (zPreZ D (zTy cs) ([(w 0, .inr (4, [.ref (w 1), .int (zI xl), .ref (w 2), .int (zI xm), .int (zI xn), .int (zI xd), .int (zI xe)])), (w 1, .inl (cs 1, 120, .inl (zA f))), (w 2, .inl (cs 0, 60, .inl (zA g)))]) sz)) (zQi D ([(w 0, .inr (4, [.ref (w 1), .int (zI xl), .ref (w 2), .int (zI xm), .int (zI xn), .int (zI xd), .int (zI xe)])), (w 1, .inl (cs 1, 120, .inl (zA f))), (w 2, .inl (cs 0, 60, .inl (zA g)))]) sz (zI (zRd f xl)) ([(w 0, .inr (4, [.ref (w 1), .int (zI xl), .ref (w 2), .int (zI ((zAs f (zRk f xl)).1)), .int (zI ((zAs f (zRk f xl)).2.1)), .int (zI ((zAs f (zRk f xl)).2.2.1)), .int (zI ((zAs f (zRk f xl)).2.2.2))])), (w 1, .inl (cs 1, 120, .inl (zA f))), (w 2, .inl (cs 0, 60, .inl (zA (zAg f g (zRk f xl)))))])) 0 0 (va_A ([(w 0, .inr (4, [.ref (w 1), .int (zI xl), .ref (w 2), .int (zI xm), .int (zI xn), .int (zI xd), .int (zI xe)])), (w 1, .inl (cs 1, 120, .inl (zA f))), (w 2, .inl (cs 0, 60, .inl (zA g)))]) sz) := by
  refine Met.ofW (cc := cX4_read) (maxL := 2) (ret := (some .int)) (by decide) rfl ?_
  intro p e s m args below meth c s₁ B hml hv
  obtain ⟨rfl, hsz, hP, hK, hD0, hN⟩ := hv
  have hx := B.exec
  have hb := B.bytes
  have hr := B.returns
  have hts := atoms_spec (ws := wsX4_read) B.pre
  have hown : s.vm.findClass RX4 = some m.cls := findClass_of_methodNamed B.named
  have hlocks := B.notSynchronized
  subst hsz
  obtain ⟨A0, hAe⟩ : ∃ A0, A0 = va_A ([(w 0, .inr (4, [.ref (w 1), .int (zI xl), .ref (w 2), .int (zI xm), .int (zI xn), .int (zI xd), .int (zI xe)])), (w 1, .inl (cs 1, 120, .inl (zA f))), (w 2, .inl (cs 0, 60, .inl (zA g)))]) s.heap.size := ⟨_, rfl⟩
  have hD := hD0.self (sz := s.heap.size)
  rw [← hAe] at hD
  have hA : ∀ q : Nat, s.heap.size ≤ q → A0 q := fun q h => by rw [hAe]; exact Or.inr h
  have hS : va_S A0 s.heap s.heap [] := va_S.rf
  have hP : va_P D vwCl ([(w 0, .inr (4, [.ref (w 1), .int (zI xl), .ref (w 2), .int (zI xm), .int (zI xn), .int (zI xd), .int (zI xe)])), (w 1, .inl (cs 1, 120, .inl (zA f))), (w 2, .inl (cs 0, 60, .inl (zA g)))]) s.heap := hP
  have hl := lv_entry ([.ref (w 0)]) (n := 2) (Nat.le_of_ble_eq_true rfl)
  rw [lg_entry_eq]
  generalize (lg_sl ([.ref (w 0)]) ++ List.replicate (2 - (lg_sl ([.ref (w 0)])).length) Slot.unset).toArray = ls at hl ⊢
  have hl : lv_has ls 2 [(0, .ref (w 0))] := hl
  have hiX4 : ∀ w ∈ wsX40, w ∈ wsX4_read := by decide +kernel
  refine lv_aload_n hx hb dX4_read_0 rfl (lv_at hl 0 rfl) ?_
  refine zr_iconst hx hb dX4_read_1 ?_
  refine va_put (D := D) (ci := 4) (v := .int (zI 0)) (ty := .int) (C := RX4) (T := TX4) (N := 7) hx hb hts hiX4 tyX4 tyX4_ok nmX4 hown hK hP hD hS 0 rfl rfl 3 (by decide) (hts (.fieldLink RX4 23 "ChargeEstimator$MeasurementText" "complete" "I") (List.mem_of_getElem? (i := 1) rfl)) (fun _ h9 => h9) rfl (by decide +kernel) rfl rfl (Nat.le_of_ble_eq_true rfl) dX4_read_2 (fun H locs hP hD hS => ?_)
  have hP : va_P D vwCl ([(w 0, .inr (4, [.ref (w 1), .int (zI xl), .ref (w 2), .int (zI 0), .int (zI xn), .int (zI xd), .int (zI xe)])), (w 1, .inl (cs 1, 120, .inl (zA f))), (w 2, .inl (cs 0, 60, .inl (zA g)))]) H := hP
  have hD : va_D A0 ([(w 0, .inr (4, [.ref (w 1), .int (zI xl), .ref (w 2), .int (zI 0), .int (zI xn), .int (zI xd), .int (zI xe)])), (w 1, .inl (cs 1, 120, .inl (zA f))), (w 2, .inl (cs 0, 60, .inl (zA g)))]) := zD_addr hD rfl
  refine lv_aload_n hx hb dX4_read_5 rfl (lv_at hl 0 rfl) ?_
  refine zc_vj (w := [(w 0, .inr (4, [.ref (w 1), .int (zI xl), .ref (w 2), .int (zI 0), .int (zI xn), .int (zI xd), .int (zI xe)])), (w 1, .inl (cs 1, 120, .inl (zA f))), (w 2, .inl (cs 0, 60, .inl (zA g)))]) (wr := []) (va_runV (As := []) (rest := []) ⟨hx, hb, hml, hown, hts⟩ (met_X4_beginNumber l D cs w H.size f xl g 0 xn xd xe ) (cwV 0 hts gX4_read_X4_beginNumber rfl rfl rfl (by decide +kernel) ⟨Nat.le_of_ble_eq_true rfl, Nat.le_of_ble_eq_true rfl⟩) ⟨zPreZ.blind, va_recv hK hP (ci := 4) (q0 := 0) rfl rfl, fun U hU hW => zp_Z (hP.sub (ws' := [(w 0, .inr (4, [.ref (w 1), .int (zI xl), .ref (w 2), .int (zI 0), .int (zI xn), .int (zI xd), .int (zI xe)])), (w 1, .inl (cs 1, 120, .inl (zA f))), (w 2, .inl (cs 0, 60, .inl (zA g)))]) [0, 1, 2] rfl) hK (hD.sub (ws' := [(w 0, .inr (4, [.ref (w 1), .int (zI xl), .ref (w 2), .int (zI 0), .int (zI xn), .int (zI xd), .int (zI xe)])), (w 1, .inl (cs 1, 120, .inl (zA f))), (w 2, .inl (cs 0, 60, .inl (zA g)))]) [0, 1, 2] (by decide) rfl) hN hU hW⟩ rfl rfl hl.1 rfl (lv_room (Nat.le_of_ble_eq_true rfl)) dX4_read_6 ⟨Nat.le_of_ble_eq_true rfl, Nat.le_of_ble_eq_true rfl⟩) hS hP hD hA [0, 1, 2] [] rfl rfl (by decide) (by decide) (fun H locs hP hD hS => ?_)
  have hP : va_P D vwCl ([(w 0, .inr (4, [.ref (w 1), .int (zI xl), .ref (w 2), .int (zI 0), .int (zI 0), .int (zI 0), .int (zI 0)])), (w 1, .inl (cs 1, 120, .inl (zA f))), (w 2, .inl (cs 0, 60, .inl (zA g)))]) H := hP.sub (ws' := [(w 0, .inr (4, [.ref (w 1), .int (zI xl), .ref (w 2), .int (zI 0), .int (zI 0), .int (zI 0), .int (zI 0)])), (w 1, .inl (cs 1, 120, .inl (zA f))), (w 2, .inl (cs 0, 60, .inl (zA g)))]) [0, 1, 2] rfl
  have hD : va_D A0 ([(w 0, .inr (4, [.ref (w 1), .int (zI xl), .ref (w 2), .int (zI 0), .int (zI 0), .int (zI 0), .int (zI 0)])), (w 1, .inl (cs 1, 120, .inl (zA f))), (w 2, .inl (cs 0, 60, .inl (zA g)))]) := hD.sub (ws' := [(w 0, .inr (4, [.ref (w 1), .int (zI xl), .ref (w 2), .int (zI 0), .int (zI 0), .int (zI 0), .int (zI 0)])), (w 1, .inl (cs 1, 120, .inl (zA f))), (w 2, .inl (cs 0, 60, .inl (zA g)))]) [0, 1, 2] (by decide) rfl
  refine zr_iconst hx hb dX4_read_9 ?_
  refine lv_istore_n (lv' := [(1, .int (zI 0)), (0, .ref (w 0))]) hx hb dX4_read_10 rfl hl (by decide) rfl (fun ls hl => ?_)
  suffices J_11 : ∀ (nn : Nat) (xj : Int) (jj : 0 ≤ xj ∧ xj ≤ xl) (jo : ∀ k : Int, 0 ≤ k → k < xj → zAk (zAs f k.toNat) (f k) ≠ 0) (hmu : xl - xj < (nn : Int)) (H : Heap) (locs : List Loc) (hP : va_P D vwCl ([(w 0, .inr (4, [.ref (w 1), .int (zI xl), .ref (w 2), .int (zI ((zAs f xj.toNat).1)), .int (zI ((zAs f xj.toNat).2.1)), .int (zI ((zAs f xj.toNat).2.2.1)), .int (zI ((zAs f xj.toNat).2.2.2))])), (w 1, .inl (cs 1, 120, .inl (zA f))), (w 2, .inl (cs 0, 60, .inl (zA (zAg f g xj.toNat))))]) H) (hD : va_D A0 ([(w 0, .inr (4, [.ref (w 1), .int (zI xl), .ref (w 2), .int (zI ((zAs f xj.toNat).1)), .int (zI ((zAs f xj.toNat).2.1)), .int (zI ((zAs f xj.toNat).2.2.1)), .int (zI ((zAs f xj.toNat).2.2.2))])), (w 1, .inl (cs 1, 120, .inl (zA f))), (w 2, .inl (cs 0, 60, .inl (zA (zAg f g xj.toNat))))])) (hS : va_S A0 s.heap H locs) (ls : Array Slot) (hl : lv_has ls 2 [(1, .int (zI xj)), (0, .ref (w 0))]), W p l e (headSpec wsX4_read ({ frames := 2, cells := 0, slots := 0, locals := 42 })).room s m ([.ref (w 0)] : List Value).toArray below meth c H locs 0 0 (MQ below (zQi D ([(w 0, .inr (4, [.ref (w 1), .int (zI xl), .ref (w 2), .int (zI xm), .int (zI xn), .int (zI xd), .int (zI xe)])), (w 1, .inl (cs 1, 120, .inl (zA f))), (w 2, .inl (cs 0, 60, .inl (zA g)))]) s.heap.size (zI (zRd f xl)) ([(w 0, .inr (4, [.ref (w 1), .int (zI xl), .ref (w 2), .int (zI ((zAs f (zRk f xl)).1)), .int (zI ((zAs f (zRk f xl)).2.1)), .int (zI ((zAs f (zRk f xl)).2.2.1)), .int (zI ((zAs f (zRk f xl)).2.2.2))])), (w 1, .inl (cs 1, 120, .inl (zA f))), (w 2, .inl (cs 0, 60, .inl (zA (zAg f g (zRk f xl)))))])) ([.ref (w 0)] : List Value).toArray s 0 0 (va_A ([(w 0, .inr (4, [.ref (w 1), .int (zI xl), .ref (w 2), .int (zI xm), .int (zI xn), .int (zI xd), .int (zI xe)])), (w 1, .inl (cs 1, 120, .inl (zA f))), (w 2, .inl (cs 0, 60, .inl (zA g)))]) s.heap.size)) (F0 m 11 ls []) by
    exact J_11 (((xl - 0) : Int).toNat + 1) 0 (by omega) (by first | (intro k a b; omega) | (intro k a b; rcases Int.lt_or_le k xj with q9 | q9; (exact jo k a q9); (rw [show k = xj by omega]; assumption))) (by have : (0 : Int) ≤ xl - 0 := (by omega); omega) _ _ (by exact hP) (zD_addr hD rfl) hS _ (lv_sub hl [0, 1] rfl)
  intro nn
  induction nn with
  | zero => intro xj jj jo hmu; exfalso; have : (0 : Int) ≤ xl - xj := (by omega); omega
  | succ nn ih =>
    intro xj jj jo hmu H locs hP hD hS ls hl
    have hv := zAs_w f jj.1 jo
    have hf := kf xj jj.1
    have hak := zAk_r (zAs f xj.toNat) (f xj)
    refine lv_iload_n hx hb dX4_read_11 rfl (lv_at hl 0 rfl) ?_
    refine lv_aload_n hx hb dX4_read_12 rfl (lv_at hl 1 rfl) ?_
    refine va_get (D := D) (ci := 4) (v := .int (zI xl)) (C := RX4) (T := TX4) (N := 7) hx hb hts hiX4 hown hK hP 0 rfl rfl 1 (by decide) (hts (.fieldLink RX4 19 "ChargeEstimator$MeasurementText" "size" "I") (List.mem_of_getElem? (i := 2) rfl)) (fun _ h9 => h9) rfl dX4_read_13 ?_
    refine zr_icmp_ge (tgt := 46) hx hb dX4_read_16 (by decide) (by omega) (by omega) (fun c1 => ?_) (fun c1 => ?_)
    · refine lv_aload_n hx hb dX4_read_46 rfl (lv_at hl 1 rfl) ?_
      refine va_get (D := D) (ci := 4) (v := .int (zI ((zAs f xj.toNat).1))) (C := RX4) (T := TX4) (N := 7) hx hb hts hiX4 hown hK hP 0 rfl rfl 3 (by decide) (hts (.fieldLink RX4 23 "ChargeEstimator$MeasurementText" "complete" "I") (List.mem_of_getElem? (i := 1) rfl)) (fun _ h9 => h9) rfl dX4_read_47 ?_
      refine zr_iconst hx hb dX4_read_50 ?_
      refine zr_irem hx hb dX4_read_51 (by omega) (by decide) ?_
      refine zr_if_ne (tgt := 73) hx hb dX4_read_52 (by decide) (by omega) (fun c2 => ?_) (fun c2 => ?_)
      · refine zr_iconst hx hb dX4_read_73 ?_
        refine lv_istore_n (lv' := [(1, .int (zI 0)), (0, .ref (w 0))]) hx hb dX4_read_74 rfl hl (by decide) rfl (fun ls hl => ?_)
        refine lv_iload_n hx hb dX4_read_75 rfl (lv_at hl 0 rfl) ?_
        refine zr_if_eq (tgt := 83) hx hb dX4_read_76 (by decide) (by decide) (fun c3 => ?_) (fun c3 => ?_)
        · refine lv_aload_n hx hb dX4_read_83 rfl (lv_at hl 1 rfl) ?_
          refine va_get (D := D) (ci := 4) (v := .int (zI xl)) (C := RX4) (T := TX4) (N := 7) hx hb hts hiX4 hown hK hP 0 rfl rfl 1 (by decide) (hts (.fieldLink RX4 19 "ChargeEstimator$MeasurementText" "size" "I") (List.mem_of_getElem? (i := 2) rfl)) (fun _ h9 => h9) rfl dX4_read_84 ?_
          have e7 : xl = xj := by omega
          subst e7
          have e9 : zEr f xl = xl := zEr_eq (by omega) jo (fun _ => by omega)
          have e8 : zRk f xl = xl.toNat := by unfold zRk; rw [e9, if_neg (by omega)]
          have hP8 : va_P D vwCl ([(w 0, .inr (4, [.ref (w 1), .int (zI xl), .ref (w 2), .int (zI ((zAs f (zRk f xl)).1)), .int (zI ((zAs f (zRk f xl)).2.1)), .int (zI ((zAs f (zRk f xl)).2.2.1)), .int (zI ((zAs f (zRk f xl)).2.2.2))])), (w 1, .inl (cs 1, 120, .inl (zA f))), (w 2, .inl (cs 0, 60, .inl (zA (zAg f g (zRk f xl)))))]) H := by rw [e8]; exact hP
          have hP9 : va_P D vwCl ([(w 0, .inr (4, [.ref (w 1), .int (zI xl), .ref (w 2), .int (zI ((zAs f (zRk f xl)).1)), .int (zI ((zAs f (zRk f xl)).2.1)), .int (zI ((zAs f (zRk f xl)).2.2.1)), .int (zI ((zAs f (zRk f xl)).2.2.2))])), (w 1, .inl (cs 1, 120, .inl (zA f))), (w 2, .inl (cs 0, 60, .inl (zA (zAg f g (zRk f xl)))))]) H := hP8
          have hD9 : va_D A0 ([(w 0, .inr (4, [.ref (w 1), .int (zI xl), .ref (w 2), .int (zI ((zAs f (zRk f xl)).1)), .int (zI ((zAs f (zRk f xl)).2.1)), .int (zI ((zAs f (zRk f xl)).2.2.1)), .int (zI ((zAs f (zRk f xl)).2.2.2))])), (w 1, .inl (cs 1, 120, .inl (zA f))), (w 2, .inl (cs 0, 60, .inl (zA (zAg f g (zRk f xl)))))]) := zD_addr hD rfl
          subst hAe
          exact W.iret hx hb hr (fun t ht hW => ⟨⟨_, (), rfl, (congrArg zI (show xl = zRd f xl from by first | (exfalso; omega) | (unfold zRd; rw [e9, if_neg (by omega), if_pos (by omega)]; done) | (unfold zRd; rw [e9, if_neg (by omega), if_neg (by omega)]; done))), by rw [ht]; exact hP9, hD9⟩, hS.F ht⟩) hS.2.2 dX4_read_87
        · exact absurd c3 (by decide)
      · refine lv_aload_n hx hb dX4_read_55 rfl (lv_at hl 1 rfl) ?_
        refine va_get (D := D) (ci := 4) (v := .int (zI ((zAs f xj.toNat).2.2.1))) (C := RX4) (T := TX4) (N := 7) hx hb hts hiX4 hown hK hP 0 rfl rfl 5 (by decide) (hts (.fieldLink RX4 33 "ChargeEstimator$MeasurementText" "digits" "I") (List.mem_of_getElem? (i := 4) rfl)) (fun _ h9 => h9) rfl dX4_read_56 ?_
        refine zr_if_ne (tgt := 73) hx hb dX4_read_59 (by decide) (by omega) (fun c4 => ?_) (fun c4 => ?_)
        · refine zr_iconst hx hb dX4_read_73 ?_
          refine lv_istore_n (lv' := [(1, .int (zI 0)), (0, .ref (w 0))]) hx hb dX4_read_74 rfl hl (by decide) rfl (fun ls hl => ?_)
          refine lv_iload_n hx hb dX4_read_75 rfl (lv_at hl 0 rfl) ?_
          refine zr_if_eq (tgt := 83) hx hb dX4_read_76 (by decide) (by decide) (fun c5 => ?_) (fun c5 => ?_)
          · refine lv_aload_n hx hb dX4_read_83 rfl (lv_at hl 1 rfl) ?_
            refine va_get (D := D) (ci := 4) (v := .int (zI xl)) (C := RX4) (T := TX4) (N := 7) hx hb hts hiX4 hown hK hP 0 rfl rfl 1 (by decide) (hts (.fieldLink RX4 19 "ChargeEstimator$MeasurementText" "size" "I") (List.mem_of_getElem? (i := 2) rfl)) (fun _ h9 => h9) rfl dX4_read_84 ?_
            have e7 : xl = xj := by omega
            subst e7
            have e9 : zEr f xl = xl := zEr_eq (by omega) jo (fun _ => by omega)
            have e8 : zRk f xl = xl.toNat := by unfold zRk; rw [e9, if_neg (by omega)]
            have hP8 : va_P D vwCl ([(w 0, .inr (4, [.ref (w 1), .int (zI xl), .ref (w 2), .int (zI ((zAs f (zRk f xl)).1)), .int (zI ((zAs f (zRk f xl)).2.1)), .int (zI ((zAs f (zRk f xl)).2.2.1)), .int (zI ((zAs f (zRk f xl)).2.2.2))])), (w 1, .inl (cs 1, 120, .inl (zA f))), (w 2, .inl (cs 0, 60, .inl (zA (zAg f g (zRk f xl)))))]) H := by rw [e8]; exact hP
            have hP9 : va_P D vwCl ([(w 0, .inr (4, [.ref (w 1), .int (zI xl), .ref (w 2), .int (zI ((zAs f (zRk f xl)).1)), .int (zI ((zAs f (zRk f xl)).2.1)), .int (zI ((zAs f (zRk f xl)).2.2.1)), .int (zI ((zAs f (zRk f xl)).2.2.2))])), (w 1, .inl (cs 1, 120, .inl (zA f))), (w 2, .inl (cs 0, 60, .inl (zA (zAg f g (zRk f xl)))))]) H := hP8
            have hD9 : va_D A0 ([(w 0, .inr (4, [.ref (w 1), .int (zI xl), .ref (w 2), .int (zI ((zAs f (zRk f xl)).1)), .int (zI ((zAs f (zRk f xl)).2.1)), .int (zI ((zAs f (zRk f xl)).2.2.1)), .int (zI ((zAs f (zRk f xl)).2.2.2))])), (w 1, .inl (cs 1, 120, .inl (zA f))), (w 2, .inl (cs 0, 60, .inl (zA (zAg f g (zRk f xl)))))]) := zD_addr hD rfl
            subst hAe
            exact W.iret hx hb hr (fun t ht hW => ⟨⟨_, (), rfl, (congrArg zI (show xl = zRd f xl from by first | (exfalso; omega) | (unfold zRd; rw [e9, if_neg (by omega), if_pos (by omega)]; done) | (unfold zRd; rw [e9, if_neg (by omega), if_neg (by omega)]; done))), by rw [ht]; exact hP9, hD9⟩, hS.F ht⟩) hS.2.2 dX4_read_87
          · exact absurd c5 (by decide)
        · refine lv_aload_n hx hb dX4_read_62 rfl (lv_at hl 1 rfl) ?_
          refine va_get (D := D) (ci := 4) (v := .int (zI ((zAs f xj.toNat).2.2.2))) (C := RX4) (T := TX4) (N := 7) hx hb hts hiX4 hown hK hP 0 rfl rfl 6 (by decide) (hts (.fieldLink RX4 36 "ChargeEstimator$MeasurementText" "negative" "Z") (List.mem_of_getElem? (i := 5) rfl)) (fun _ h9 => h9) rfl dX4_read_63 ?_
          refine zr_if_ne (tgt := 73) hx hb dX4_read_66 (by decide) (by omega) (fun c6 => ?_) (fun c6 => ?_)
          · refine zr_iconst hx hb dX4_read_73 ?_
            refine lv_istore_n (lv' := [(1, .int (zI 0)), (0, .ref (w 0))]) hx hb dX4_read_74 rfl hl (by decide) rfl (fun ls hl => ?_)
            refine lv_iload_n hx hb dX4_read_75 rfl (lv_at hl 0 rfl) ?_
            refine zr_if_eq (tgt := 83) hx hb dX4_read_76 (by decide) (by decide) (fun c7 => ?_) (fun c7 => ?_)
            · refine lv_aload_n hx hb dX4_read_83 rfl (lv_at hl 1 rfl) ?_
              refine va_get (D := D) (ci := 4) (v := .int (zI xl)) (C := RX4) (T := TX4) (N := 7) hx hb hts hiX4 hown hK hP 0 rfl rfl 1 (by decide) (hts (.fieldLink RX4 19 "ChargeEstimator$MeasurementText" "size" "I") (List.mem_of_getElem? (i := 2) rfl)) (fun _ h9 => h9) rfl dX4_read_84 ?_
              have e7 : xl = xj := by omega
              subst e7
              have e9 : zEr f xl = xl := zEr_eq (by omega) jo (fun _ => by omega)
              have e8 : zRk f xl = xl.toNat := by unfold zRk; rw [e9, if_neg (by omega)]
              have hP8 : va_P D vwCl ([(w 0, .inr (4, [.ref (w 1), .int (zI xl), .ref (w 2), .int (zI ((zAs f (zRk f xl)).1)), .int (zI ((zAs f (zRk f xl)).2.1)), .int (zI ((zAs f (zRk f xl)).2.2.1)), .int (zI ((zAs f (zRk f xl)).2.2.2))])), (w 1, .inl (cs 1, 120, .inl (zA f))), (w 2, .inl (cs 0, 60, .inl (zA (zAg f g (zRk f xl)))))]) H := by rw [e8]; exact hP
              have hP9 : va_P D vwCl ([(w 0, .inr (4, [.ref (w 1), .int (zI xl), .ref (w 2), .int (zI ((zAs f (zRk f xl)).1)), .int (zI ((zAs f (zRk f xl)).2.1)), .int (zI ((zAs f (zRk f xl)).2.2.1)), .int (zI ((zAs f (zRk f xl)).2.2.2))])), (w 1, .inl (cs 1, 120, .inl (zA f))), (w 2, .inl (cs 0, 60, .inl (zA (zAg f g (zRk f xl)))))]) H := hP8
              have hD9 : va_D A0 ([(w 0, .inr (4, [.ref (w 1), .int (zI xl), .ref (w 2), .int (zI ((zAs f (zRk f xl)).1)), .int (zI ((zAs f (zRk f xl)).2.1)), .int (zI ((zAs f (zRk f xl)).2.2.1)), .int (zI ((zAs f (zRk f xl)).2.2.2))])), (w 1, .inl (cs 1, 120, .inl (zA f))), (w 2, .inl (cs 0, 60, .inl (zA (zAg f g (zRk f xl)))))]) := zD_addr hD rfl
              subst hAe
              exact W.iret hx hb hr (fun t ht hW => ⟨⟨_, (), rfl, (congrArg zI (show xl = zRd f xl from by first | (exfalso; omega) | (unfold zRd; rw [e9, if_neg (by omega), if_pos (by omega)]; done) | (unfold zRd; rw [e9, if_neg (by omega), if_neg (by omega)]; done))), by rw [ht]; exact hP9, hD9⟩, hS.F ht⟩) hS.2.2 dX4_read_87
            · exact absurd c7 (by decide)
          · refine zr_iconst hx hb dX4_read_69 ?_
            refine lv_goto (tgt := 74) hx hb dX4_read_70 (by decide) ?_
            refine lv_istore_n (lv' := [(1, .int (zI 1)), (0, .ref (w 0))]) hx hb dX4_read_74 rfl hl (by decide) rfl (fun ls hl => ?_)
            refine lv_iload_n hx hb dX4_read_75 rfl (lv_at hl 0 rfl) ?_
            refine zr_if_eq (tgt := 83) hx hb dX4_read_76 (by decide) (by decide) (fun c8 => ?_) (fun c8 => ?_)
            · exact absurd c8 (by decide)
            · refine zr_iconst hx hb dX4_read_79 ?_
              refine lv_goto (tgt := 87) hx hb dX4_read_80 (by decide) ?_
              have e7 : xl = xj := by omega
              subst e7
              have e9 : zEr f xl = xl := zEr_eq (by omega) jo (fun _ => by omega)
              have e8 : zRk f xl = xl.toNat := by unfold zRk; rw [e9, if_neg (by omega)]
              have hP8 : va_P D vwCl ([(w 0, .inr (4, [.ref (w 1), .int (zI xl), .ref (w 2), .int (zI ((zAs f (zRk f xl)).1)), .int (zI ((zAs f (zRk f xl)).2.1)), .int (zI ((zAs f (zRk f xl)).2.2.1)), .int (zI ((zAs f (zRk f xl)).2.2.2))])), (w 1, .inl (cs 1, 120, .inl (zA f))), (w 2, .inl (cs 0, 60, .inl (zA (zAg f g (zRk f xl)))))]) H := by rw [e8]; exact hP
              have hP9 : va_P D vwCl ([(w 0, .inr (4, [.ref (w 1), .int (zI xl), .ref (w 2), .int (zI ((zAs f (zRk f xl)).1)), .int (zI ((zAs f (zRk f xl)).2.1)), .int (zI ((zAs f (zRk f xl)).2.2.1)), .int (zI ((zAs f (zRk f xl)).2.2.2))])), (w 1, .inl (cs 1, 120, .inl (zA f))), (w 2, .inl (cs 0, 60, .inl (zA (zAg f g (zRk f xl)))))]) H := hP8
              have hD9 : va_D A0 ([(w 0, .inr (4, [.ref (w 1), .int (zI xl), .ref (w 2), .int (zI ((zAs f (zRk f xl)).1)), .int (zI ((zAs f (zRk f xl)).2.1)), .int (zI ((zAs f (zRk f xl)).2.2.1)), .int (zI ((zAs f (zRk f xl)).2.2.2))])), (w 1, .inl (cs 1, 120, .inl (zA f))), (w 2, .inl (cs 0, 60, .inl (zA (zAg f g (zRk f xl)))))]) := zD_addr hD rfl
              subst hAe
              exact W.iret hx hb hr (fun t ht hW => ⟨⟨_, (), rfl, (congrArg zI (show (-1) = zRd f xl from by first | (exfalso; omega) | (unfold zRd; rw [e9, if_neg (by omega), if_pos (by omega)]; done) | (unfold zRd; rw [e9, if_neg (by omega), if_neg (by omega)]; done))), by rw [ht]; exact hP9, hD9⟩, hS.F ht⟩) hS.2.2 dX4_read_87
    · refine lv_iload_n hx hb dX4_read_19 rfl (lv_at hl 0 rfl) ?_
      refine zr_bipush hx hb dX4_read_20 (by decide) ?_
      refine zr_icmp_ge (tgt := 46) hx hb dX4_read_22 (by decide) (by omega) (by decide) (fun c9 => ?_) (fun c9 => ?_)
      · refine lv_aload_n hx hb dX4_read_46 rfl (lv_at hl 1 rfl) ?_
        refine va_get (D := D) (ci := 4) (v := .int (zI ((zAs f xj.toNat).1))) (C := RX4) (T := TX4) (N := 7) hx hb hts hiX4 hown hK hP 0 rfl rfl 3 (by decide) (hts (.fieldLink RX4 23 "ChargeEstimator$MeasurementText" "complete" "I") (List.mem_of_getElem? (i := 1) rfl)) (fun _ h9 => h9) rfl dX4_read_47 ?_
        refine zr_iconst hx hb dX4_read_50 ?_
        refine zr_irem hx hb dX4_read_51 (by omega) (by decide) ?_
        refine zr_if_ne (tgt := 73) hx hb dX4_read_52 (by decide) (by omega) (fun c10 => ?_) (fun c10 => ?_)
        · refine zr_iconst hx hb dX4_read_73 ?_
          refine lv_istore_n (lv' := [(1, .int (zI 0)), (0, .ref (w 0))]) hx hb dX4_read_74 rfl hl (by decide) rfl (fun ls hl => ?_)
          refine lv_iload_n hx hb dX4_read_75 rfl (lv_at hl 0 rfl) ?_
          refine zr_if_eq (tgt := 83) hx hb dX4_read_76 (by decide) (by decide) (fun c11 => ?_) (fun c11 => ?_)
          · refine lv_aload_n hx hb dX4_read_83 rfl (lv_at hl 1 rfl) ?_
            refine va_get (D := D) (ci := 4) (v := .int (zI xl)) (C := RX4) (T := TX4) (N := 7) hx hb hts hiX4 hown hK hP 0 rfl rfl 1 (by decide) (hts (.fieldLink RX4 19 "ChargeEstimator$MeasurementText" "size" "I") (List.mem_of_getElem? (i := 2) rfl)) (fun _ h9 => h9) rfl dX4_read_84 ?_
            have e7 : xl = xj := by omega
            subst e7
            have e9 : zEr f xl = xl := zEr_eq (by omega) jo (fun _ => by omega)
            have e8 : zRk f xl = xl.toNat := by unfold zRk; rw [e9, if_neg (by omega)]
            have hP8 : va_P D vwCl ([(w 0, .inr (4, [.ref (w 1), .int (zI xl), .ref (w 2), .int (zI ((zAs f (zRk f xl)).1)), .int (zI ((zAs f (zRk f xl)).2.1)), .int (zI ((zAs f (zRk f xl)).2.2.1)), .int (zI ((zAs f (zRk f xl)).2.2.2))])), (w 1, .inl (cs 1, 120, .inl (zA f))), (w 2, .inl (cs 0, 60, .inl (zA (zAg f g (zRk f xl)))))]) H := by rw [e8]; exact hP
            have hP9 : va_P D vwCl ([(w 0, .inr (4, [.ref (w 1), .int (zI xl), .ref (w 2), .int (zI ((zAs f (zRk f xl)).1)), .int (zI ((zAs f (zRk f xl)).2.1)), .int (zI ((zAs f (zRk f xl)).2.2.1)), .int (zI ((zAs f (zRk f xl)).2.2.2))])), (w 1, .inl (cs 1, 120, .inl (zA f))), (w 2, .inl (cs 0, 60, .inl (zA (zAg f g (zRk f xl)))))]) H := hP8
            have hD9 : va_D A0 ([(w 0, .inr (4, [.ref (w 1), .int (zI xl), .ref (w 2), .int (zI ((zAs f (zRk f xl)).1)), .int (zI ((zAs f (zRk f xl)).2.1)), .int (zI ((zAs f (zRk f xl)).2.2.1)), .int (zI ((zAs f (zRk f xl)).2.2.2))])), (w 1, .inl (cs 1, 120, .inl (zA f))), (w 2, .inl (cs 0, 60, .inl (zA (zAg f g (zRk f xl)))))]) := zD_addr hD rfl
            subst hAe
            exact W.iret hx hb hr (fun t ht hW => ⟨⟨_, (), rfl, (congrArg zI (show xl = zRd f xl from by first | (exfalso; omega) | (unfold zRd; rw [e9, if_neg (by omega), if_pos (by omega)]; done) | (unfold zRd; rw [e9, if_neg (by omega), if_neg (by omega)]; done))), by rw [ht]; exact hP9, hD9⟩, hS.F ht⟩) hS.2.2 dX4_read_87
          · exact absurd c11 (by decide)
        · refine lv_aload_n hx hb dX4_read_55 rfl (lv_at hl 1 rfl) ?_
          refine va_get (D := D) (ci := 4) (v := .int (zI ((zAs f xj.toNat).2.2.1))) (C := RX4) (T := TX4) (N := 7) hx hb hts hiX4 hown hK hP 0 rfl rfl 5 (by decide) (hts (.fieldLink RX4 33 "ChargeEstimator$MeasurementText" "digits" "I") (List.mem_of_getElem? (i := 4) rfl)) (fun _ h9 => h9) rfl dX4_read_56 ?_
          refine zr_if_ne (tgt := 73) hx hb dX4_read_59 (by decide) (by omega) (fun c12 => ?_) (fun c12 => ?_)
          · refine zr_iconst hx hb dX4_read_73 ?_
            refine lv_istore_n (lv' := [(1, .int (zI 0)), (0, .ref (w 0))]) hx hb dX4_read_74 rfl hl (by decide) rfl (fun ls hl => ?_)
            refine lv_iload_n hx hb dX4_read_75 rfl (lv_at hl 0 rfl) ?_
            refine zr_if_eq (tgt := 83) hx hb dX4_read_76 (by decide) (by decide) (fun c13 => ?_) (fun c13 => ?_)
            · refine lv_aload_n hx hb dX4_read_83 rfl (lv_at hl 1 rfl) ?_
              refine va_get (D := D) (ci := 4) (v := .int (zI xl)) (C := RX4) (T := TX4) (N := 7) hx hb hts hiX4 hown hK hP 0 rfl rfl 1 (by decide) (hts (.fieldLink RX4 19 "ChargeEstimator$MeasurementText" "size" "I") (List.mem_of_getElem? (i := 2) rfl)) (fun _ h9 => h9) rfl dX4_read_84 ?_
              have e7 : xl = xj := by omega
              subst e7
              have e9 : zEr f xl = xl := zEr_eq (by omega) jo (fun _ => by omega)
              have e8 : zRk f xl = xl.toNat := by unfold zRk; rw [e9, if_neg (by omega)]
              have hP8 : va_P D vwCl ([(w 0, .inr (4, [.ref (w 1), .int (zI xl), .ref (w 2), .int (zI ((zAs f (zRk f xl)).1)), .int (zI ((zAs f (zRk f xl)).2.1)), .int (zI ((zAs f (zRk f xl)).2.2.1)), .int (zI ((zAs f (zRk f xl)).2.2.2))])), (w 1, .inl (cs 1, 120, .inl (zA f))), (w 2, .inl (cs 0, 60, .inl (zA (zAg f g (zRk f xl)))))]) H := by rw [e8]; exact hP
              have hP9 : va_P D vwCl ([(w 0, .inr (4, [.ref (w 1), .int (zI xl), .ref (w 2), .int (zI ((zAs f (zRk f xl)).1)), .int (zI ((zAs f (zRk f xl)).2.1)), .int (zI ((zAs f (zRk f xl)).2.2.1)), .int (zI ((zAs f (zRk f xl)).2.2.2))])), (w 1, .inl (cs 1, 120, .inl (zA f))), (w 2, .inl (cs 0, 60, .inl (zA (zAg f g (zRk f xl)))))]) H := hP8
              have hD9 : va_D A0 ([(w 0, .inr (4, [.ref (w 1), .int (zI xl), .ref (w 2), .int (zI ((zAs f (zRk f xl)).1)), .int (zI ((zAs f (zRk f xl)).2.1)), .int (zI ((zAs f (zRk f xl)).2.2.1)), .int (zI ((zAs f (zRk f xl)).2.2.2))])), (w 1, .inl (cs 1, 120, .inl (zA f))), (w 2, .inl (cs 0, 60, .inl (zA (zAg f g (zRk f xl)))))]) := zD_addr hD rfl
              subst hAe
              exact W.iret hx hb hr (fun t ht hW => ⟨⟨_, (), rfl, (congrArg zI (show xl = zRd f xl from by first | (exfalso; omega) | (unfold zRd; rw [e9, if_neg (by omega), if_pos (by omega)]; done) | (unfold zRd; rw [e9, if_neg (by omega), if_neg (by omega)]; done))), by rw [ht]; exact hP9, hD9⟩, hS.F ht⟩) hS.2.2 dX4_read_87
            · exact absurd c13 (by decide)
          · refine lv_aload_n hx hb dX4_read_62 rfl (lv_at hl 1 rfl) ?_
            refine va_get (D := D) (ci := 4) (v := .int (zI ((zAs f xj.toNat).2.2.2))) (C := RX4) (T := TX4) (N := 7) hx hb hts hiX4 hown hK hP 0 rfl rfl 6 (by decide) (hts (.fieldLink RX4 36 "ChargeEstimator$MeasurementText" "negative" "Z") (List.mem_of_getElem? (i := 5) rfl)) (fun _ h9 => h9) rfl dX4_read_63 ?_
            refine zr_if_ne (tgt := 73) hx hb dX4_read_66 (by decide) (by omega) (fun c14 => ?_) (fun c14 => ?_)
            · refine zr_iconst hx hb dX4_read_73 ?_
              refine lv_istore_n (lv' := [(1, .int (zI 0)), (0, .ref (w 0))]) hx hb dX4_read_74 rfl hl (by decide) rfl (fun ls hl => ?_)
              refine lv_iload_n hx hb dX4_read_75 rfl (lv_at hl 0 rfl) ?_
              refine zr_if_eq (tgt := 83) hx hb dX4_read_76 (by decide) (by decide) (fun c15 => ?_) (fun c15 => ?_)
              · refine lv_aload_n hx hb dX4_read_83 rfl (lv_at hl 1 rfl) ?_
                refine va_get (D := D) (ci := 4) (v := .int (zI xl)) (C := RX4) (T := TX4) (N := 7) hx hb hts hiX4 hown hK hP 0 rfl rfl 1 (by decide) (hts (.fieldLink RX4 19 "ChargeEstimator$MeasurementText" "size" "I") (List.mem_of_getElem? (i := 2) rfl)) (fun _ h9 => h9) rfl dX4_read_84 ?_
                have e7 : xl = xj := by omega
                subst e7
                have e9 : zEr f xl = xl := zEr_eq (by omega) jo (fun _ => by omega)
                have e8 : zRk f xl = xl.toNat := by unfold zRk; rw [e9, if_neg (by omega)]
                have hP8 : va_P D vwCl ([(w 0, .inr (4, [.ref (w 1), .int (zI xl), .ref (w 2), .int (zI ((zAs f (zRk f xl)).1)), .int (zI ((zAs f (zRk f xl)).2.1)), .int (zI ((zAs f (zRk f xl)).2.2.1)), .int (zI ((zAs f (zRk f xl)).2.2.2))])), (w 1, .inl (cs 1, 120, .inl (zA f))), (w 2, .inl (cs 0, 60, .inl (zA (zAg f g (zRk f xl)))))]) H := by rw [e8]; exact hP
                have hP9 : va_P D vwCl ([(w 0, .inr (4, [.ref (w 1), .int (zI xl), .ref (w 2), .int (zI ((zAs f (zRk f xl)).1)), .int (zI ((zAs f (zRk f xl)).2.1)), .int (zI ((zAs f (zRk f xl)).2.2.1)), .int (zI ((zAs f (zRk f xl)).2.2.2))])), (w 1, .inl (cs 1, 120, .inl (zA f))), (w 2, .inl (cs 0, 60, .inl (zA (zAg f g (zRk f xl)))))]) H := hP8
                have hD9 : va_D A0 ([(w 0, .inr (4, [.ref (w 1), .int (zI xl), .ref (w 2), .int (zI ((zAs f (zRk f xl)).1)), .int (zI ((zAs f (zRk f xl)).2.1)), .int (zI ((zAs f (zRk f xl)).2.2.1)), .int (zI ((zAs f (zRk f xl)).2.2.2))])), (w 1, .inl (cs 1, 120, .inl (zA f))), (w 2, .inl (cs 0, 60, .inl (zA (zAg f g (zRk f xl)))))]) := zD_addr hD rfl
                subst hAe
                exact W.iret hx hb hr (fun t ht hW => ⟨⟨_, (), rfl, (congrArg zI (show xl = zRd f xl from by first | (exfalso; omega) | (unfold zRd; rw [e9, if_neg (by omega), if_pos (by omega)]; done) | (unfold zRd; rw [e9, if_neg (by omega), if_neg (by omega)]; done))), by rw [ht]; exact hP9, hD9⟩, hS.F ht⟩) hS.2.2 dX4_read_87
              · exact absurd c15 (by decide)
            · refine zr_iconst hx hb dX4_read_69 ?_
              refine lv_goto (tgt := 74) hx hb dX4_read_70 (by decide) ?_
              refine lv_istore_n (lv' := [(1, .int (zI 1)), (0, .ref (w 0))]) hx hb dX4_read_74 rfl hl (by decide) rfl (fun ls hl => ?_)
              refine lv_iload_n hx hb dX4_read_75 rfl (lv_at hl 0 rfl) ?_
              refine zr_if_eq (tgt := 83) hx hb dX4_read_76 (by decide) (by decide) (fun c16 => ?_) (fun c16 => ?_)
              · exact absurd c16 (by decide)
              · refine zr_iconst hx hb dX4_read_79 ?_
                refine lv_goto (tgt := 87) hx hb dX4_read_80 (by decide) ?_
                have e7 : xl = xj := by omega
                subst e7
                have e9 : zEr f xl = xl := zEr_eq (by omega) jo (fun _ => by omega)
                have e8 : zRk f xl = xl.toNat := by unfold zRk; rw [e9, if_neg (by omega)]
                have hP8 : va_P D vwCl ([(w 0, .inr (4, [.ref (w 1), .int (zI xl), .ref (w 2), .int (zI ((zAs f (zRk f xl)).1)), .int (zI ((zAs f (zRk f xl)).2.1)), .int (zI ((zAs f (zRk f xl)).2.2.1)), .int (zI ((zAs f (zRk f xl)).2.2.2))])), (w 1, .inl (cs 1, 120, .inl (zA f))), (w 2, .inl (cs 0, 60, .inl (zA (zAg f g (zRk f xl)))))]) H := by rw [e8]; exact hP
                have hP9 : va_P D vwCl ([(w 0, .inr (4, [.ref (w 1), .int (zI xl), .ref (w 2), .int (zI ((zAs f (zRk f xl)).1)), .int (zI ((zAs f (zRk f xl)).2.1)), .int (zI ((zAs f (zRk f xl)).2.2.1)), .int (zI ((zAs f (zRk f xl)).2.2.2))])), (w 1, .inl (cs 1, 120, .inl (zA f))), (w 2, .inl (cs 0, 60, .inl (zA (zAg f g (zRk f xl)))))]) H := hP8
                have hD9 : va_D A0 ([(w 0, .inr (4, [.ref (w 1), .int (zI xl), .ref (w 2), .int (zI ((zAs f (zRk f xl)).1)), .int (zI ((zAs f (zRk f xl)).2.1)), .int (zI ((zAs f (zRk f xl)).2.2.1)), .int (zI ((zAs f (zRk f xl)).2.2.2))])), (w 1, .inl (cs 1, 120, .inl (zA f))), (w 2, .inl (cs 0, 60, .inl (zA (zAg f g (zRk f xl)))))]) := zD_addr hD rfl
                subst hAe
                exact W.iret hx hb hr (fun t ht hW => ⟨⟨_, (), rfl, (congrArg zI (show (-1) = zRd f xl from by first | (exfalso; omega) | (unfold zRd; rw [e9, if_neg (by omega), if_pos (by omega)]; done) | (unfold zRd; rw [e9, if_neg (by omega), if_neg (by omega)]; done))), by rw [ht]; exact hP9, hD9⟩, hS.F ht⟩) hS.2.2 dX4_read_87
      · refine lv_aload_n hx hb dX4_read_25 rfl (lv_at hl 1 rfl) ?_
        refine lv_aload_n hx hb dX4_read_26 rfl (lv_at hl 1 rfl) ?_
        refine va_get (D := D) (ci := 4) (v := .ref (w 1)) (C := RX4) (T := TX4) (N := 7) hx hb hts hiX4 hown hK hP 0 rfl rfl 0 (by decide) (hts (.fieldLink RX4 11 "ChargeEstimator$MeasurementText" "bytes" "[B") (List.mem_of_getElem? (i := 3) rfl)) (fun _ h9 => h9) rfl dX4_read_27 ?_
        refine lv_iload_n hx hb dX4_read_30 rfl (lv_at hl 0 rfl) ?_
        refine zr_bald (D := D) (g := f) hx hb hK hP 1 1 rfl rfl (by decide) (by omega) dX4_read_31 ?_
        refine zc_ij (w := [(w 0, .inr (4, [.ref (w 1), .int (zI xl), .ref (w 2), .int (zI ((zAs f xj.toNat).1)), .int (zI ((zAs f xj.toNat).2.1)), .int (zI ((zAs f xj.toNat).2.2.1)), .int (zI ((zAs f xj.toNat).2.2.2))])), (w 1, .inl (cs 1, 120, .inl (zA f))), (w 2, .inl (cs 0, 60, .inl (zA (zAg f g xj.toNat))))]) (wr := []) (va_runV (As := [.int (zI (f xj))]) (rest := []) ⟨hx, hb, hml, hown, hts⟩ (met_X4_takes l D cs w H.size f xl (zAg f g xj.toNat) ((zAs f xj.toNat).1) ((zAs f xj.toNat).2.1) ((zAs f xj.toNat).2.2.1) ((zAs f xj.toNat).2.2.2) (f xj) (by first | assumption | omega) (by first | assumption | omega) (by first | assumption | omega) (by first | assumption | omega) (by first | assumption | omega)) (cwV 1 hts gX4_read_X4_takes rfl rfl rfl (by decide +kernel) ⟨Nat.le_of_ble_eq_true rfl, Nat.le_of_ble_eq_true rfl⟩) ⟨zPreZ.blind, va_recv hK hP (ci := 4) (q0 := 0) rfl rfl, fun U hU hW => zp_Z (hP.sub (ws' := [(w 0, .inr (4, [.ref (w 1), .int (zI xl), .ref (w 2), .int (zI ((zAs f xj.toNat).1)), .int (zI ((zAs f xj.toNat).2.1)), .int (zI ((zAs f xj.toNat).2.2.1)), .int (zI ((zAs f xj.toNat).2.2.2))])), (w 1, .inl (cs 1, 120, .inl (zA f))), (w 2, .inl (cs 0, 60, .inl (zA (zAg f g xj.toNat))))]) [0, 1, 2] rfl) hK (hD.sub (ws' := [(w 0, .inr (4, [.ref (w 1), .int (zI xl), .ref (w 2), .int (zI ((zAs f xj.toNat).1)), .int (zI ((zAs f xj.toNat).2.1)), .int (zI ((zAs f xj.toNat).2.2.1)), .int (zI ((zAs f xj.toNat).2.2.2))])), (w 1, .inl (cs 1, 120, .inl (zA f))), (w 2, .inl (cs 0, 60, .inl (zA (zAg f g xj.toNat))))]) [0, 1, 2] (by decide) rfl) hN hU hW⟩ rfl rfl hl.1 rfl (lv_room (Nat.le_of_ble_eq_true rfl)) dX4_read_32 ⟨Nat.le_of_ble_eq_true rfl, Nat.le_of_ble_eq_true rfl⟩) hS hP hD hA [0, 1, 2] [] rfl rfl (by decide) (by decide) (fun H locs hP hD hS => ?_)
        have hP : va_P D vwCl ([(w 0, .inr (4, [.ref (w 1), .int (zI xl), .ref (w 2), .int (zI (zIf3 (f xj) ((zAs f xj.toNat).1) ((zAs f xj.toNat).2.2.1) (((zAs f xj.toNat).1)) (((zAs f xj.toNat).1)) (((zAs f xj.toNat).1) + 1) (((zAs f xj.toNat).1)))), .int (zI (zIf3 (f xj) ((zAs f xj.toNat).1) ((zAs f xj.toNat).2.2.1) (((zAs f xj.toNat).2.1)) (10 * ((zAs f xj.toNat).2.1) + ((f xj) - 48)) (0) (((zAs f xj.toNat).2.1)))), .int (zI (zIf3 (f xj) ((zAs f xj.toNat).1) ((zAs f xj.toNat).2.2.1) (((zAs f xj.toNat).2.2.1)) (((zAs f xj.toNat).2.2.1) + 1) (0) (((zAs f xj.toNat).2.2.1)))), .int (zI (zIf3 (f xj) ((zAs f xj.toNat).1) ((zAs f xj.toNat).2.2.1) (1) (((zAs f xj.toNat).2.2.2)) (0) (((zAs f xj.toNat).2.2.2))))])), (w 1, .inl (cs 1, 120, .inl (zA f))), (w 2, .inl (cs 0, 60, .inl (zA (zIf3 (f xj) ((zAs f xj.toNat).1) ((zAs f xj.toNat).2.2.1) ((zAg f g xj.toNat)) ((zAg f g xj.toNat)) (zU (zAg f g xj.toNat) ((zAs f xj.toNat).1) (zSg ((zAs f xj.toNat).2.2.2) ((zAs f xj.toNat).2.1))) ((zAg f g xj.toNat))))))]) H := hP.sub (ws' := [(w 0, .inr (4, [.ref (w 1), .int (zI xl), .ref (w 2), .int (zI (zIf3 (f xj) ((zAs f xj.toNat).1) ((zAs f xj.toNat).2.2.1) (((zAs f xj.toNat).1)) (((zAs f xj.toNat).1)) (((zAs f xj.toNat).1) + 1) (((zAs f xj.toNat).1)))), .int (zI (zIf3 (f xj) ((zAs f xj.toNat).1) ((zAs f xj.toNat).2.2.1) (((zAs f xj.toNat).2.1)) (10 * ((zAs f xj.toNat).2.1) + ((f xj) - 48)) (0) (((zAs f xj.toNat).2.1)))), .int (zI (zIf3 (f xj) ((zAs f xj.toNat).1) ((zAs f xj.toNat).2.2.1) (((zAs f xj.toNat).2.2.1)) (((zAs f xj.toNat).2.2.1) + 1) (0) (((zAs f xj.toNat).2.2.1)))), .int (zI (zIf3 (f xj) ((zAs f xj.toNat).1) ((zAs f xj.toNat).2.2.1) (1) (((zAs f xj.toNat).2.2.2)) (0) (((zAs f xj.toNat).2.2.2))))])), (w 1, .inl (cs 1, 120, .inl (zA f))), (w 2, .inl (cs 0, 60, .inl (zA (zIf3 (f xj) ((zAs f xj.toNat).1) ((zAs f xj.toNat).2.2.1) ((zAg f g xj.toNat)) ((zAg f g xj.toNat)) (zU (zAg f g xj.toNat) ((zAs f xj.toNat).1) (zSg ((zAs f xj.toNat).2.2.2) ((zAs f xj.toNat).2.1))) ((zAg f g xj.toNat))))))]) [0, 1, 2] rfl
        have hD : va_D A0 ([(w 0, .inr (4, [.ref (w 1), .int (zI xl), .ref (w 2), .int (zI (zIf3 (f xj) ((zAs f xj.toNat).1) ((zAs f xj.toNat).2.2.1) (((zAs f xj.toNat).1)) (((zAs f xj.toNat).1)) (((zAs f xj.toNat).1) + 1) (((zAs f xj.toNat).1)))), .int (zI (zIf3 (f xj) ((zAs f xj.toNat).1) ((zAs f xj.toNat).2.2.1) (((zAs f xj.toNat).2.1)) (10 * ((zAs f xj.toNat).2.1) + ((f xj) - 48)) (0) (((zAs f xj.toNat).2.1)))), .int (zI (zIf3 (f xj) ((zAs f xj.toNat).1) ((zAs f xj.toNat).2.2.1) (((zAs f xj.toNat).2.2.1)) (((zAs f xj.toNat).2.2.1) + 1) (0) (((zAs f xj.toNat).2.2.1)))), .int (zI (zIf3 (f xj) ((zAs f xj.toNat).1) ((zAs f xj.toNat).2.2.1) (1) (((zAs f xj.toNat).2.2.2)) (0) (((zAs f xj.toNat).2.2.2))))])), (w 1, .inl (cs 1, 120, .inl (zA f))), (w 2, .inl (cs 0, 60, .inl (zA (zIf3 (f xj) ((zAs f xj.toNat).1) ((zAs f xj.toNat).2.2.1) ((zAg f g xj.toNat)) ((zAg f g xj.toNat)) (zU (zAg f g xj.toNat) ((zAs f xj.toNat).1) (zSg ((zAs f xj.toNat).2.2.2) ((zAs f xj.toNat).2.1))) ((zAg f g xj.toNat))))))]) := hD.sub (ws' := [(w 0, .inr (4, [.ref (w 1), .int (zI xl), .ref (w 2), .int (zI (zIf3 (f xj) ((zAs f xj.toNat).1) ((zAs f xj.toNat).2.2.1) (((zAs f xj.toNat).1)) (((zAs f xj.toNat).1)) (((zAs f xj.toNat).1) + 1) (((zAs f xj.toNat).1)))), .int (zI (zIf3 (f xj) ((zAs f xj.toNat).1) ((zAs f xj.toNat).2.2.1) (((zAs f xj.toNat).2.1)) (10 * ((zAs f xj.toNat).2.1) + ((f xj) - 48)) (0) (((zAs f xj.toNat).2.1)))), .int (zI (zIf3 (f xj) ((zAs f xj.toNat).1) ((zAs f xj.toNat).2.2.1) (((zAs f xj.toNat).2.2.1)) (((zAs f xj.toNat).2.2.1) + 1) (0) (((zAs f xj.toNat).2.2.1)))), .int (zI (zIf3 (f xj) ((zAs f xj.toNat).1) ((zAs f xj.toNat).2.2.1) (1) (((zAs f xj.toNat).2.2.2)) (0) (((zAs f xj.toNat).2.2.2))))])), (w 1, .inl (cs 1, 120, .inl (zA f))), (w 2, .inl (cs 0, 60, .inl (zA (zIf3 (f xj) ((zAs f xj.toNat).1) ((zAs f xj.toNat).2.2.1) ((zAg f g xj.toNat)) ((zAg f g xj.toNat)) (zU (zAg f g xj.toNat) ((zAs f xj.toNat).1) (zSg ((zAs f xj.toNat).2.2.2) ((zAs f xj.toNat).2.1))) ((zAg f g xj.toNat))))))]) [0, 1, 2] (by decide) rfl
        refine zr_topi (b := zAk (zAs f xj.toNat) (f xj)) (by rfl) ?_
        refine zr_if_ne (tgt := 40) hx hb dX4_read_35 (by decide) (by omega) (fun c17 => ?_) (fun c17 => ?_)
        · refine zr_iinc (kk := 0) (lv' := [(1, .int (zI (xj + 1))), (0, .ref (w 0))]) hx hb dX4_read_40 hl rfl (by decide) rfl (fun ls hl => ?_)
          refine lv_goto (tgt := 11) hx hb dX4_read_43 (by decide) ?_
          exact ih (xj + 1) (by omega) (by first | (intro k a b; omega) | (intro k a b; rcases Int.lt_or_le k xj with q9 | q9; (exact jo k a q9); (rw [show k = xj by omega]; assumption))) (by omega) _ _ (by rw [zAs_s f jj.1, zAg_s f g jj.1]; exact hP) (zD_addr hD rfl) hS _ (lv_sub hl [0, 1] rfl)
        · refine lv_iload_n hx hb dX4_read_38 rfl (lv_at hl 0 rfl) ?_
          have e9 : zEr f xl = xj := zEr_eq (by omega) jo (fun _ => by omega)
          have e8 : zRk f xl = (xj + 1).toNat := by unfold zRk; rw [e9, if_pos (by omega)]
          have hP8 : va_P D vwCl ([(w 0, .inr (4, [.ref (w 1), .int (zI xl), .ref (w 2), .int (zI ((zAs f (zRk f xl)).1)), .int (zI ((zAs f (zRk f xl)).2.1)), .int (zI ((zAs f (zRk f xl)).2.2.1)), .int (zI ((zAs f (zRk f xl)).2.2.2))])), (w 1, .inl (cs 1, 120, .inl (zA f))), (w 2, .inl (cs 0, 60, .inl (zA (zAg f g (zRk f xl)))))]) H := by rw [e8, zAs_s f jj.1, zAg_s f g jj.1]; exact hP
          have hP9 : va_P D vwCl ([(w 0, .inr (4, [.ref (w 1), .int (zI xl), .ref (w 2), .int (zI ((zAs f (zRk f xl)).1)), .int (zI ((zAs f (zRk f xl)).2.1)), .int (zI ((zAs f (zRk f xl)).2.2.1)), .int (zI ((zAs f (zRk f xl)).2.2.2))])), (w 1, .inl (cs 1, 120, .inl (zA f))), (w 2, .inl (cs 0, 60, .inl (zA (zAg f g (zRk f xl)))))]) H := hP8
          have hD9 : va_D A0 ([(w 0, .inr (4, [.ref (w 1), .int (zI xl), .ref (w 2), .int (zI ((zAs f (zRk f xl)).1)), .int (zI ((zAs f (zRk f xl)).2.1)), .int (zI ((zAs f (zRk f xl)).2.2.1)), .int (zI ((zAs f (zRk f xl)).2.2.2))])), (w 1, .inl (cs 1, 120, .inl (zA f))), (w 2, .inl (cs 0, 60, .inl (zA (zAg f g (zRk f xl)))))]) := zD_addr hD rfl
          subst hAe
          exact W.iret hx hb hr (fun t ht hW => ⟨⟨_, (), rfl, (congrArg zI (show xj = zRd f xl from by unfold zRd; rw [e9, if_pos (by omega)])), by rw [ht]; exact hP9, hD9⟩, hS.F ht⟩) hS.2.2 dX4_read_39
