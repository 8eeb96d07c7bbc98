/-! what always holds, kept by begin, set, setCurve; counting bits -/
theorem zOK_new {n : Int} {A : Int → Int} (h : zOK n A) (hn : 0 ≤ n) {c : Int} (hc : 100 ≤ c ∧ c ≤ 20000) : zOK n (zNew A (3600 * c)) := by
  have h3 := (zOK_s h).2.2.2.1
  have hr := (zOK_q h).2.2.2.2.2.2.2.2.2.2.2.2.2.2.2.2.2.2.2.2
  refine zOK_of h (fun k a b => ?_) ?_ ?_
  · simp only [zNew, zU, zZer]
    rw [if_neg (by omega), if_neg (by omega), if_neg (by omega), if_neg (by omega), if_neg (by omega), if_neg (by omega)]
  · have e : zRng (zNew A (3600 * c)) = 3600 * c * A 3 / 100 := by simp [zRng, zNew, zU, zZer]
    have e2 : 0 ≤ 3600 * c * A 3 := Int.mul_nonneg (by omega) (by omega)
    unfold zSc
    rw [e]
    simp only [zNew, zU, zZer]
    refine ⟨by simp; omega, by simp; omega, by simp; omega, by simp; omega, by simp; omega, by simp; omega, by simp; omega, by simp; omega, by simp; omega, by simp; omega, by simp, by simp, by simp, by simp, by simp, by simp; omega, by simp; omega, by simp⟩
  · refine ⟨by simp [zNew, zU, zZer], by simp [zNew, zU, zZer], fun k a b => ?_⟩
    have e : zNew A (3600 * c) (53 + k) = A (53 + k) := by
      simp only [zNew, zU, zZer]
      rw [if_neg (by omega), if_neg (by omega), if_neg (by omega), if_neg (by omega), if_neg (by omega), if_neg (by omega)]
    rw [e]
    exact hr k a b
theorem zdv_b {C s : Int} (hC : 0 ≤ C) (hs : 0 ≤ s ∧ s ≤ 10000) : 0 ≤ C * s / 10000 ∧ C * s / 10000 ≤ C := by
  have h1 : 0 ≤ C * s := Int.mul_nonneg hC hs.1
  have h2 : C * s ≤ C * 10000 := Int.mul_le_mul_of_nonneg_left hs.2 hC
  omega
theorem zOK_ats {n : Int} {A : Int → Int} (h : zOK n A) {s : Int} (hs : 0 ≤ s ∧ s ≤ 10000) : zOK n (zAtS A s) := by
  have hC := zOK_C h
  have hd := zdv_b (C := A 37) (by omega) hs
  have hq := zOK_q h
  obtain ⟨a1, a2, a3, a4, a5, a6, a7, a8, a9, a10, a11, a12, a13, a14, a15, a16, a17, a18, b1, b2, b3⟩ := hq
  refine zOK_of h (fun k a b => ?_) ?_ ?_
  · simp only [zAtS, zU]
    rw [if_neg (by omega), if_neg (by omega), if_neg (by omega)]
  · have e : zRng (zAtS A s) = zRng A := by simp [zRng, zAtS, zU]
    unfold zSc
    rw [e]
    simp only [zAtS, zU]
    refine ⟨by simp; omega, by simp; omega, by simp; omega, by simp; omega, by simp; omega, by simp; omega, by simp; omega, by simp; omega, by simp; omega, by simp; omega, by simp; omega, by simp; omega, by simp; omega, by simp; omega, by simp; omega, by simp; omega, by simp; omega, by simp; omega⟩
  · have e : ∀ k : Int, 37 ≤ k → zAtS A s k = A k := fun k a => by
      simp only [zAtS, zU]
      rw [if_neg (by omega), if_neg (by omega), if_neg (by omega)]
    unfold zRw
    rw [e 48 (by decide), e 52 (by decide), e 49 (by decide)]
    refine ⟨b1, fun q => ?_, fun k a b => ?_⟩
    · rw [e _ (by omega)]; exact b2 q
    · rw [e _ (by omega)]; exact b3 k a b
theorem zOK_beg {n : Int} {A : Int → Int} (h : zOK n A) (hn : 0 ≤ n) {c s : Int} (hc : 100 ≤ c ∧ c ≤ 20000) (hs : -1 ≤ s ∧ s ≤ 10000) : zOK n (zBeg A c s) := by
  unfold zBeg
  split
  · exact zOK_new h hn hc
  · exact zOK_ats (zOK_new h hn hc) (by omega)
theorem zOK_set {n : Int} {A : Int → Int} (h : zOK n A) {w v : Int} (hw : 0 ≤ w ∧ w ≤ 11) (hv : zLoS w ≤ v ∧ v ≤ zHiS w) : zOK n (zSet A w v) := by
  have hst := zSt_set h.1 hw hv
  have hC := zOK_C h
  obtain ⟨a1, a2, a3, a4, a5, a6, a7, a8, a9, a10, a11, a12, a13, a14, a15, a16, a17, a18, b1, b2, b3⟩ := zOK_q h
  have e : ∀ k : Int, 12 ≤ k → k ≠ 39 → zSet A w v k = A k := fun k a b => by
    simp only [zSet, zU]
    rw [if_neg b, if_neg (by omega)]
  have e2 : ∀ k : Int, k < 39 → zSet A w v k = zU A w v k := fun k a => by
    simp only [zSet]
    exact zU_ne _ _ (by omega)
  have e39 : zSet A w v 39 = min (A 39) (zRng (zU A w v)) := by
    simp only [zSet]
    show (if (39 : Int) = 39 then _ else _) = _
    rw [if_pos rfl]
  have eR : zRng (zSet A w v) = zRng (zU A w v) := by
    unfold zRng
    rw [e2 37 (by decide), e2 3 (by decide)]
  have r0 : 0 ≤ zRng (zU A w v) := by
    unfold zRng
    have q3 := hst.2.2.2.1
    have q37 : zU A w v 37 = A 37 := zU_ne _ _ (by omega)
    rw [q37]
    have := Int.mul_nonneg (show (0 : Int) ≤ A 37 by omega) (show (0 : Int) ≤ zU A w v 3 by omega)
    omega
  refine ⟨?_, ⟨fun k a b => ?_, fun k a b => ?_⟩, ?_, ?_⟩
  · unfold zSt at hst ⊢
    rw [e2 0 (by decide), e2 1 (by decide), e2 2 (by decide), e2 3 (by decide), e2 4 (by decide), e2 5 (by decide), e2 6 (by decide), e2 7 (by decide), e2 8 (by decide), e2 9 (by decide), e2 10 (by decide), e2 11 (by decide)]
    exact hst
  · rw [e (12 + k) (by omega) (by omega), e (23 + k) (by omega) (by omega)]
    exact h.2.1.1 k a b
  · rw [e (12 + k) (by omega) (by omega), e (23 + k) (by omega) (by omega), e (12 + k + 1) (by omega) (by omega), e (23 + k + 1) (by omega) (by omega)]
    exact h.2.1.2 k a b
  · unfold zSc
    rw [eR, e39, e 38 (by decide) (by decide), e 37 (by decide) (by decide), e 34 (by decide) (by decide), e 35 (by decide) (by decide), e 36 (by decide) (by decide), e 40 (by decide) (by decide), e 41 (by decide) (by decide), e 42 (by decide) (by decide), e 43 (by decide) (by decide), e 44 (by decide) (by decide), e 45 (by decide) (by decide), e 46 (by decide) (by decide), e 47 (by decide) (by decide), e 48 (by decide) (by decide), e 49 (by decide) (by decide), e 50 (by decide) (by decide), e 51 (by decide) (by decide), e 52 (by decide) (by decide)]
    exact ⟨a1, a2, a3, a4, by omega, a6, a7, a8, a9, a10, a11, a12, a13, a14, a15, a16, a17, a18⟩
  · unfold zRw
    rw [e 48 (by decide) (by decide), e 52 (by decide) (by decide), e 49 (by decide) (by decide)]
    refine ⟨b1, fun q => ?_, fun k a b => ?_⟩
    · rw [e _ (by omega) (by omega)]; exact b2 q
    · rw [e _ (by omega) (by omega)]; exact b3 k a b
theorem zOK_put {n : Int} {A : Int → Int} (h : zOK n A) {x l u : Int} (hx : 0 ≤ x ∧ x ≤ 10) (hl : 2000 ≤ l ∧ l ≤ 5000) (hu : l ≤ u ∧ u ≤ 5000) (h1 : (x = 0 ∨ A (12 + x - 1) < l) ∧ (x = 10 ∨ l < A (12 + x + 1))) (h2 : (x = 0 ∨ A (23 + x - 1) < u) ∧ (x = 10 ∨ u < A (23 + x + 1))) : zOK n (zPut A x l u) := by
  have hC := zOK_C h
  obtain ⟨a1, a2, a3, a4, a5, a6, a7, a8, a9, a10, a11, a12, a13, a14, a15, a16, a17, a18, b1, b2, b3⟩ := zOK_q h
  have e : ∀ k : Int, k < 12 ∨ 34 ≤ k → zPut A x l u k = A k := fun k a => by
    simp only [zPut]
    rw [zU_ne _ _ (by omega), zU_ne _ _ (by omega)]
  have eL : ∀ k : Int, 0 ≤ k → k ≤ 10 → zPut A x l u (12 + k) = if k = x then l else A (12 + k) := fun k a b => by
    simp only [zPut]
    rw [zU_ne _ _ (by omega)]
    by_cases q : k = x
    · rw [if_pos q, q]; exact if_pos rfl
    · rw [if_neg q]; exact zU_ne _ _ (by omega)
  have eU : ∀ k : Int, 0 ≤ k → k ≤ 10 → zPut A x l u (23 + k) = if k = x then u else A (23 + k) := fun k a b => by
    simp only [zPut]
    by_cases q : k = x
    · rw [if_pos q, q]; exact if_pos rfl
    · rw [if_neg q, zU_ne _ _ (by omega)]; exact zU_ne _ _ (by omega)
  have eR : zRng (zPut A x l u) = zRng A := by
    unfold zRng
    rw [e 37 (by omega), e 3 (by omega)]
  refine ⟨?_, ⟨fun k a b => ?_, fun k a b => ?_⟩, ?_, ?_⟩
  · have hst := h.1
    unfold zSt at hst ⊢
    rw [e 0 (by omega), e 1 (by omega), e 2 (by omega), e 3 (by omega), e 4 (by omega), e 5 (by omega), e 6 (by omega), e 7 (by omega), e 8 (by omega), e 9 (by omega), e 10 (by omega), e 11 (by omega)]
    exact hst
  · rw [eL k a b, eU k a b]
    by_cases q : k = x
    · rw [if_pos q, if_pos q]; omega
    · rw [if_neg q, if_neg q]; exact h.2.1.1 k a b
  · rw [eL k a (by omega), eU k a (by omega), show (12 + k + 1 : Int) = 12 + (k + 1) by omega, show (23 + k + 1 : Int) = 23 + (k + 1) by omega, eL (k + 1) (by omega) (by omega), eU (k + 1) (by omega) (by omega)]
    have hk := h.2.1.2 k a b
    rw [show (12 + k + 1 : Int) = 12 + (k + 1) by omega, show (23 + k + 1 : Int) = 23 + (k + 1) by omega] at hk
    by_cases q : k = x
    · subst q
      rw [if_pos rfl, if_neg (by omega), if_pos rfl, if_neg (by omega)]
      rw [show (12 + k + 1 : Int) = 12 + (k + 1) by omega] at h1
      rw [show (23 + k + 1 : Int) = 23 + (k + 1) by omega] at h2
      exact ⟨by omega, by omega⟩
    · by_cases q2 : k + 1 = x
      · rw [if_neg q, if_pos q2, if_neg q, if_pos q2]
        rw [show (12 + x - 1 : Int) = 12 + k by omega] at h1
        rw [show (23 + x - 1 : Int) = 23 + k by omega] at h2
        exact ⟨by omega, by omega⟩
      · rw [if_neg q, if_neg q2, if_neg q, if_neg q2]
        exact hk
  · unfold zSc
    rw [eR, e 38 (by omega), e 37 (by omega), e 34 (by omega), e 35 (by omega), e 36 (by omega), e 39 (by omega), e 40 (by omega), e 41 (by omega), e 42 (by omega), e 43 (by omega), e 44 (by omega), e 45 (by omega), e 46 (by omega), e 47 (by omega), e 48 (by omega), e 49 (by omega), e 50 (by omega), e 51 (by omega), e 52 (by omega)]
    exact ⟨a1, a2, a3, a4, a5, a6, a7, a8, a9, a10, a11, a12, a13, a14, a15, a16, a17, a18⟩
  · unfold zRw
    rw [e 48 (by omega), e 52 (by omega), e 49 (by omega)]
    refine ⟨b1, fun q => ?_, fun k a b => ?_⟩
    · rw [e _ (by omega)]; exact b2 q
    · rw [e _ (by omega)]; exact b3 k a b
theorem zOK_I (n : Int) (hn : 0 ≤ n) : zOK n (zNew zI0 7200000) := by
  have e : zNew zI0 7200000 = zNew zI0 (3600 * 2000) := rfl
  have hs : zSt zI0 := by unfold zSt; decide
  have key1 : ∀ k : Fin 11, (2000 ≤ zI0 (12 + (k.val : Int)) ∧ zI0 (12 + (k.val : Int)) ≤ zI0 (23 + (k.val : Int)) ∧ zI0 (23 + (k.val : Int)) ≤ 5000) := by decide
  have key2 : ∀ k : Fin 10, (zI0 (12 + (k.val : Int)) < zI0 (12 + (k.val : Int) + 1) ∧ zI0 (23 + (k.val : Int)) < zI0 (23 + (k.val : Int) + 1)) := by decide
  have hcv : zCv zI0 := by
    refine ⟨fun k a b => ?_, fun k a b => ?_⟩
    · have := key1 ⟨k.toNat, by omega⟩
      rw [show (((⟨k.toNat, by omega⟩ : Fin 11).val : Nat) : Int) = k from Int.toNat_of_nonneg a] at this
      exact this
    · have := key2 ⟨k.toNat, by omega⟩
      rw [show (((⟨k.toNat, by omega⟩ : Fin 10).val : Nat) : Int) = k from Int.toNat_of_nonneg a] at this
      exact this
  have e1 : ∀ k : Int, 0 ≤ k → k < 34 → zNew zI0 7200000 k = zI0 k := fun k a b => by
    simp only [zNew, zU, zZer]
    rw [if_neg (by omega), if_neg (by omega), if_neg (by omega), if_neg (by omega), if_neg (by omega), if_neg (by omega)]
  refine ⟨?_, ⟨fun k a b => ?_, fun k a b => ?_⟩, ?_, ?_⟩
  · unfold zSt; decide
  · rw [e1 (12 + k) (by omega) (by omega), e1 (23 + k) (by omega) (by omega)]
    exact hcv.1 k a b
  · rw [e1 (12 + k) (by omega) (by omega), e1 (23 + k) (by omega) (by omega), e1 (12 + k + 1) (by omega) (by omega), e1 (23 + k + 1) (by omega) (by omega)]
    exact hcv.2 k a b
  · have q : ∀ k : Int, 39 ≤ k → k ≤ 52 → zNew zI0 7200000 k = 0 := fun k a b => by
      simp only [zNew, zU, zZer]
      rw [if_neg (by omega), if_neg (by omega), if_neg (by omega), if_neg (by omega), if_neg (by omega), if_pos (by omega)]
    have eR : zRng (zNew zI0 7200000) = 720000 := by decide
    unfold zSc
    rw [eR, q 39 (by decide) (by decide), q 40 (by decide) (by decide), q 41 (by decide) (by decide), q 42 (by decide) (by decide), q 43 (by decide) (by decide), q 44 (by decide) (by decide), q 45 (by decide) (by decide), q 46 (by decide) (by decide), q 47 (by decide) (by decide), q 48 (by decide) (by decide), q 49 (by decide) (by decide), q 50 (by decide) (by decide), q 51 (by decide) (by decide), q 52 (by decide) (by decide)]
    exact ⟨by decide, by decide, by decide, by decide, by decide, by omega, by omega, by omega, by omega, by omega, by decide, by decide, by decide, by decide, by decide, by omega, by omega, by decide⟩
  · refine ⟨by decide, fun h => absurd h (by decide), fun k a b => ?_⟩
    have e2 : zNew zI0 7200000 (53 + k) = 0 := by
      simp only [zNew, zU, zZer]
      rw [if_neg (by omega), if_neg (by omega), if_neg (by omega), if_neg (by omega), if_neg (by omega), if_neg (by omega)]
      unfold zI0
      rw [if_neg (by omega), if_neg (by omega), if_neg (by omega), if_neg (by omega)]
    rw [e2]
    decide
theorem zbat_ext {D : va_G} {cs : Nat → ClassId} {q : Nat → Nat} {A G : Int → Int} {H : Heap} (h : va_P D vwCl (zbat cs q A) H) (e : ∀ k : Int, 0 ≤ k → k < 213 → A k = G k) : va_P D vwCl (zbat cs q G) H := by
  obtain ⟨h0, h1, h2, h3, h4, h5, h6⟩ := zP7.mp h
  have el : zlv A = zlv G := by unfold zlv; rw [e 45 (by decide) (by decide), e 46 (by decide) (by decide)]
  rw [el, e 38 (by decide) (by decide), e 37 (by decide) (by decide), e 34 (by decide) (by decide), e 35 (by decide) (by decide), e 36 (by decide) (by decide), e 39 (by decide) (by decide), e 41 (by decide) (by decide), e 40 (by decide) (by decide), e 42 (by decide) (by decide), e 43 (by decide) (by decide), e 44 (by decide) (by decide), e 50 (by decide) (by decide), e 51 (by decide) (by decide), e 47 (by decide) (by decide)] at h0
  rw [e 52 (by decide) (by decide)] at h5
  exact zP7.mpr ⟨h0, zat_i h1 (fun k a b => e k a (by omega)), h2, zat_i h3 (fun k a b => e (12 + k) (by omega) (by omega)), zat_i h4 (fun k a b => e (23 + k) (by omega) (by omega)), h5, zat_i h6 (fun k a b => e (53 + k) (by omega) (by omega))⟩
theorem zHs_add (f : Int → Int) (a : Nat) : ∀ (b : Nat) (h : Int), zHs f (a + b) h = zHs (zO f a) b (zHs f a h)
  | 0, h => rfl
  | b + 1, h => by
    show 31 * zHs f (a + b) h + f ((a + b : Nat) : Int) = 31 * zHs (zO f a) b (zHs f a h) + f ((a : Int) + (b : Int))
    rw [zHs_add f a b h]
    congr 2
def zPc (x : Int) : Int := x % 2 + x / 2 % 2 + x / 4
theorem zBits_pc (A : Int → Int) (i v t : Int) : zPc (zBits A i v t) = zMany A i v t := by
  unfold zBits zMany zI_f
  split <;> split <;> split <;> rfl
def zSh (x y : Int32) : Int32 := (x.toUInt32 >>> (y.toUInt32 &&& Int32.toUInt32 31)).toInt32
def zBt1 (x : Int32) : Int32 := x - (zSh x (zI 1) &&& 1431655765)
def zBt2 (x : Int32) : Int32 := (x &&& 858993459) + (zSh x (zI 2) &&& 858993459)
def zBt3 (x : Int32) : Int32 := (x + zSh x (zI 4)) &&& 252645135
def zBt4 (x : Int32) : Int32 := x + zSh x (zI 8)
def zBt5 (x : Int32) : Int32 := x + zSh x (zI 16)
def zBt6 (x : Int32) : Int32 := x &&& zI 63
theorem zBt9 {x : Int} (h : 0 ≤ x ∧ x ≤ 7) : zBt6 (zBt5 (zBt4 (zBt3 (zBt2 (zBt1 (zI x)))))) = zI (zPc x) := by
  have key : ∀ k : Fin 8, zBt6 (zBt5 (zBt4 (zBt3 (zBt2 (zBt1 (zI (k.val : Int))))))) = zI (zPc (k.val : Int)) := by decide +kernel
  have := key ⟨x.toNat, by omega⟩
  rw [show (((⟨x.toNat, by omega⟩ : Fin 8).val : Nat) : Int) = x from Int.toNat_of_nonneg h.1] at this
  exact this
set_option maxHeartbeats 4000000 in
set_option maxRecDepth 100000 in
theorem met_J6_bitCount_0f7a4 (l : Launch) (xb : Int) (kxb : 0 ≤ xb ∧ xb ≤ 7) : Met l yJ6_bitCount_0f7a4 wsJ6_bitCount_0f7a4 ({ frames := 0, cells := 0, slots := 0, locals := 0 }) (va_Pc [.int (zI xb)] (fun _ => True)) (zRi (zI (zPc xb))) 0 0 (fun _ => False) := by
  refine va_MetF (cc := cJ6_bitCount_0f7a4) (maxL := 1) (ret := (some .int)) (by decide +kernel) rfl ?_
  intro p e s m args below meth c s₁ B hml hv
  obtain ⟨rfl, -⟩ := hv
  have hx := B.exec
  have hb := B.bytes
  have hr := B.returns
  have hts := atoms_spec (ws := wsJ6_bitCount_0f7a4) B.pre
  have hown : s.vm.findClass RJ6 = some m.cls := findClass_of_methodNamed B.named
  have hlocks := B.notSynchronized
  have hl := lv_entry ([.int (zI xb)]) (n := 1) (Nat.le_of_ble_eq_true rfl)
  rw [lg_entry_eq]
  generalize (lg_sl ([.int (zI xb)]) ++ List.replicate (1 - (lg_sl ([.int (zI xb)])).length) Slot.unset).toArray = ls at hl ⊢
  have hl : lv_has ls 1 [(0, .int (zI xb))] := hl
  refine lv_iload_n hx hb dJ6_bitCount_0f7a4_0 rfl (lv_at hl 0 rfl) ?_
  refine lv_iload_n hx hb dJ6_bitCount_0f7a4_1 rfl (lv_at hl 0 rfl) ?_
  refine zr_iconst hx hb dJ6_bitCount_0f7a4_2 ?_
  refine lv_iushr hx hb dJ6_bitCount_0f7a4_3 rfl ?_
  refine lv_ldcw (v := 1431655765) hx hb hown (hts (.constant RJ6 265 (1431655765)) (List.mem_of_getElem? (i := 1) rfl)) dJ6_bitCount_0f7a4_4 ?_
  refine lv_iand hx hb dJ6_bitCount_0f7a4_7 ?_
  refine lv_isub hx hb dJ6_bitCount_0f7a4_8 ?_
  refine lv_istore_n (lv' := [(0, .int (zBt1 (zI xb)))]) hx hb dJ6_bitCount_0f7a4_9 rfl hl (by decide) rfl (fun ls hl => ?_)
  refine lv_iload_n hx hb dJ6_bitCount_0f7a4_10 rfl (lv_at hl 0 rfl) ?_
  refine lv_ldcw (v := 858993459) hx hb hown (hts (.constant RJ6 266 (858993459)) (List.mem_of_getElem? (i := 2) rfl)) dJ6_bitCount_0f7a4_11 ?_
  refine lv_iand hx hb dJ6_bitCount_0f7a4_14 ?_
  refine lv_iload_n hx hb dJ6_bitCount_0f7a4_15 rfl (lv_at hl 0 rfl) ?_
  refine zr_iconst hx hb dJ6_bitCount_0f7a4_16 ?_
  refine lv_iushr hx hb dJ6_bitCount_0f7a4_17 rfl ?_
  refine lv_ldcw (v := 858993459) hx hb hown (hts (.constant RJ6 266 (858993459)) (List.mem_of_getElem? (i := 2) rfl)) dJ6_bitCount_0f7a4_18 ?_
  refine lv_iand hx hb dJ6_bitCount_0f7a4_21 ?_
  refine lv_iadd hx hb dJ6_bitCount_0f7a4_22 ?_
  refine lv_istore_n (lv' := [(0, .int (zBt2 (zBt1 (zI xb))))]) hx hb dJ6_bitCount_0f7a4_23 rfl hl (by decide) rfl (fun ls hl => ?_)
  refine lv_iload_n hx hb dJ6_bitCount_0f7a4_24 rfl (lv_at hl 0 rfl) ?_
  refine lv_iload_n hx hb dJ6_bitCount_0f7a4_25 rfl (lv_at hl 0 rfl) ?_
  refine zr_iconst hx hb dJ6_bitCount_0f7a4_26 ?_
  refine lv_iushr hx hb dJ6_bitCount_0f7a4_27 rfl ?_
  refine lv_iadd hx hb dJ6_bitCount_0f7a4_28 ?_
  refine lv_ldcw (v := 252645135) hx hb hown (hts (.constant RJ6 267 (252645135)) (List.mem_of_getElem? (i := 3) rfl)) dJ6_bitCount_0f7a4_29 ?_
  refine lv_iand hx hb dJ6_bitCount_0f7a4_32 ?_
  refine lv_istore_n (lv' := [(0, .int (zBt3 (zBt2 (zBt1 (zI xb)))))]) hx hb dJ6_bitCount_0f7a4_33 rfl hl (by decide) rfl (fun ls hl => ?_)
  refine lv_iload_n hx hb dJ6_bitCount_0f7a4_34 rfl (lv_at hl 0 rfl) ?_
  refine lv_iload_n hx hb dJ6_bitCount_0f7a4_35 rfl (lv_at hl 0 rfl) ?_
  refine zr_bipush hx hb dJ6_bitCount_0f7a4_36 (by decide) ?_
  refine lv_iushr hx hb dJ6_bitCount_0f7a4_38 rfl ?_
  refine lv_iadd hx hb dJ6_bitCount_0f7a4_39 ?_
  refine lv_istore_n (lv' := [(0, .int (zBt4 (zBt3 (zBt2 (zBt1 (zI xb))))))]) hx hb dJ6_bitCount_0f7a4_40 rfl hl (by decide) rfl (fun ls hl => ?_)
  refine lv_iload_n hx hb dJ6_bitCount_0f7a4_41 rfl (lv_at hl 0 rfl) ?_
  refine lv_iload_n hx hb dJ6_bitCount_0f7a4_42 rfl (lv_at hl 0 rfl) ?_
  refine zr_bipush hx hb dJ6_bitCount_0f7a4_43 (by decide) ?_
  refine lv_iushr hx hb dJ6_bitCount_0f7a4_45 rfl ?_
  refine lv_iadd hx hb dJ6_bitCount_0f7a4_46 ?_
  refine lv_istore_n (lv' := [(0, .int (zBt5 (zBt4 (zBt3 (zBt2 (zBt1 (zI xb)))))))]) hx hb dJ6_bitCount_0f7a4_47 rfl hl (by decide) rfl (fun ls hl => ?_)
  refine lv_iload_n hx hb dJ6_bitCount_0f7a4_48 rfl (lv_at hl 0 rfl) ?_
  refine zr_bipush hx hb dJ6_bitCount_0f7a4_49 (by decide) ?_
  refine lv_iand hx hb dJ6_bitCount_0f7a4_51 ?_
  exact W.iret hx hb hr (fun t ht hW => ⟨_, rfl, zBt9 kxb, ht⟩) (fun q hq => absurd hq List.not_mem_nil) dJ6_bitCount_0f7a4_52
