/-! curves and inversions: order -/
theorem zdiv_mono {a b c : Int} (h : a ≤ b) (hc : 0 < c) : a / c ≤ b / c := Int.ediv_le_ediv hc h
theorem zmul_mono {a b c d : Int} (h1 : a ≤ b) (h2 : c ≤ d) (ha : 0 ≤ b) (hc : 0 ≤ c) : a * c ≤ b * d :=
  Int.le_trans (Int.mul_le_mul_of_nonneg_right h1 hc) (Int.mul_le_mul_of_nonneg_left h2 ha)
theorem zK_r {s : Int} (h : 0 ≤ s ∧ s ≤ 10000) : (0 ≤ zK s ∧ zK s ≤ 9) ∧ 0 ≤ s - 1000 * zK s ∧ s - 1000 * zK s ≤ 1000 ∧ (s < 10000 → s - 1000 * zK s ≤ 999) := by
  unfold zK
  split <;> omega
/-- two points and a way between them -/
theorem zmix {x y r : Int} : x + (y - x) * r / 1000 = (x * (1000 - r) + y * r) / 1000 := by
  have : x * (1000 - r) + y * r = (y - x) * r + x * 1000 := by
    rw [Int.mul_sub, Int.sub_mul]
    omega
  rw [this, Int.add_mul_ediv_right _ _ (by decide)]
  omega
theorem zmix_le {x y x2 y2 r : Int} (h1 : x ≤ x2) (h2 : y ≤ y2) (hr : 0 ≤ r ∧ r ≤ 1000) : x + (y - x) * r / 1000 ≤ x2 + (y2 - x2) * r / 1000 := by
  rw [zmix, zmix]
  refine zdiv_mono ?_ (by decide)
  have a := Int.mul_le_mul_of_nonneg_right h1 (show 0 ≤ 1000 - r by omega)
  have b := Int.mul_le_mul_of_nonneg_right h2 hr.1
  omega
theorem zmix_in {x y r a b : Int} (hx : a ≤ x ∧ x ≤ b) (hy : a ≤ y ∧ y ≤ b) (hr : 0 ≤ r ∧ r ≤ 1000) : a ≤ x + (y - x) * r / 1000 ∧ x + (y - x) * r / 1000 ≤ b := by
  have h1 := zmix_le (x := a) (y := a) (x2 := x) (y2 := y) hx.1 hy.1 hr
  have h2 := zmix_le (x := x) (y := y) (x2 := b) (y2 := b) hx.2 hy.2 hr
  simp at h1 h2
  exact ⟨h1, h2⟩
theorem zBr_step {A : Int → Int} {w s : Int} (ha : ∀ k : Int, 0 ≤ k → k < 10 → A (w + k) < A (w + k + 1)) (hs : 0 ≤ s ∧ s < 10000) : zBr A w s ≤ zBr A w (s + 1) := by
  unfold zBr
  rcases Int.lt_or_le (s + 1) (1000 * (zK s + 1)) with h | h
  · have e : zK (s + 1) = zK s := by revert h; unfold zK; split <;> split <;> omega
    rw [e]
    have hk := zK_r (s := s) (by omega)
    have hd := ha (zK s) hk.1.1 (by omega)
    have : (A (w + zK s + 1) - A (w + zK s)) * (s - 1000 * zK s) ≤ (A (w + zK s + 1) - A (w + zK s)) * (s + 1 - 1000 * zK s) := Int.mul_le_mul_of_nonneg_left (by omega) (by omega)
    have := zdiv_mono this (show (0 : Int) < 1000 by decide)
    omega
  · rcases Int.lt_or_le (zK s) 9 with h9 | h9
    · have e : zK (s + 1) = zK s + 1 := by revert h h9; unfold zK; split <;> split <;> omega
      have es : s + 1 = 1000 * (zK s + 1) := by revert h h9; unfold zK; split <;> omega
      rw [e]
      have hk := zK_r (s := s) (by omega)
      have hd := ha (zK s) hk.1.1 (by omega)
      have h0 : s + 1 - 1000 * (zK s + 1) = 0 := by omega
      rw [h0, Int.mul_zero, Int.zero_ediv]
      have e2 : s - 1000 * zK s = 999 := by omega
      rw [e2, show w + (zK s + 1) = w + zK s + 1 by omega]
      omega
    · have e : zK (s + 1) = zK s := by revert h9; unfold zK; split <;> split <;> omega
      rw [e]
      have hk := zK_r (s := s) (by omega)
      have hd := ha (zK s) hk.1.1 (by omega)
      have : (A (w + zK s + 1) - A (w + zK s)) * (s - 1000 * zK s) ≤ (A (w + zK s + 1) - A (w + zK s)) * (s + 1 - 1000 * zK s) := Int.mul_le_mul_of_nonneg_left (by omega) (by omega)
      have := zdiv_mono this (show (0 : Int) < 1000 by decide)
      omega
theorem zBr_r {A : Int → Int} (hc : zCv A) {s : Int} (hs : 0 ≤ s ∧ s ≤ 10000) : (2000 ≤ zBr A 12 s ∧ zBr A 12 s ≤ 5000) ∧ (2000 ≤ zBr A 23 s ∧ zBr A 23 s ≤ 5000) ∧ zBr A 12 s ≤ zBr A 23 s := by
  have hk := zK_r hs
  have h1 := hc.1 (zK s) hk.1.1 (by omega)
  have h2 := hc.1 (zK s + 1) (by omega) (by omega)
  rw [← Int.add_assoc, ← Int.add_assoc] at h2
  unfold zBr
  exact ⟨zmix_in (by omega) (by omega) (by omega), zmix_in (by omega) (by omega) (by omega), zmix_le h1.2.1 h2.2.1 (by omega)⟩
theorem zV_r {A : Int → Int} (hc : zCv A) {s h : Int} (hs : 0 ≤ s ∧ s ≤ 10000) (hh : 0 ≤ h ∧ h ≤ 1000) : 2000 ≤ zV A s h ∧ zV A s h ≤ 5000 := by
  have h1 := zBr_r hc hs
  unfold zV
  exact zmix_in h1.1 h1.2.1 hh
theorem zV_step {A : Int → Int} (hc : zCv A) {s h : Int} (hs : 0 ≤ s ∧ s < 10000) (hh : 0 ≤ h ∧ h ≤ 1000) : zV A s h ≤ zV A (s + 1) h := by
  unfold zV
  exact zmix_le (zBr_step (fun k a b => (hc.2 k a b).1) hs) (zBr_step (fun k a b => (hc.2 k a b).2) hs) hh
theorem zV_mono {A : Int → Int} (hc : zCv A) {h : Int} (hh : 0 ≤ h ∧ h ≤ 1000) (n : Nat) : ∀ a b : Int, 0 ≤ a → b = a + n → b ≤ 10000 → zV A a h ≤ zV A b h := by
  induction n with
  | zero => intro a b _ e _; rw [e]; simp
  | succ n ih =>
    intro a b h0 e h1
    have := ih a (a + n) h0 rfl (by omega)
    have h3 := zV_step hc (s := a + n) (h := h) (by omega) hh
    rw [e, show a + ((n + 1 : Nat) : Int) = a + n + 1 by omega]
    omega
theorem zV_le {A : Int → Int} (hc : zCv A) {h a b : Int} (hh : 0 ≤ h ∧ h ≤ 1000) (h0 : 0 ≤ a) (hab : a ≤ b) (hb : b ≤ 10000) : zV A a h ≤ zV A b h :=
  zV_mono hc hh (b - a).toNat a b h0 (by omega) hb
theorem zFst_spec (P : Int → Bool) : ∀ (n : Nat) (s : Int), s ≤ zFst P n s ∧ zFst P n s ≤ s + n ∧ (∀ k, s ≤ k → k < zFst P n s → P k = false) ∧ (zFst P n s < s + n → P (zFst P n s) = true)
  | 0, s => by simp only [zFst]; exact ⟨by omega, by omega, fun k a b => by omega, fun a => by omega⟩
  | n + 1, s => by
    have ih := zFst_spec P n (s + 1)
    unfold zFst
    by_cases h : P s = true
    · rw [if_pos h]
      exact ⟨by omega, by omega, fun k a b => by omega, fun _ => h⟩
    · rw [if_neg h]
      refine ⟨by omega, by omega, fun k a b => ?_, fun a => ih.2.2.2 (by omega)⟩
      rcases Int.lt_or_le s k with q | q
      · exact ih.2.2.1 k (by omega) b
      · rw [show k = s by omega]
        simpa using h
theorem zFst_eq {P : Int → Bool} {n : Nat} {s r : Int} (h1 : s ≤ r) (h2 : r ≤ s + n) (h3 : ∀ k, s ≤ k → k < r → P k = false) (h4 : r < s + n → P r = true) : zFst P n s = r := by
  obtain ⟨a, b, c, d⟩ := zFst_spec P n s
  rcases Int.lt_trichotomy (zFst P n s) r with h | h | h
  · have e1 := h3 _ a h
    have e2 := d (by omega)
    rw [e1] at e2
    cases e2
  · exact h
  · have e1 := c _ h1 h
    have e2 := h4 (by omega)
    rw [e1] at e2
    cases e2
theorem zInv_eq {A : Int → Int} {v h r : Int} (h1 : 0 ≤ r) (h2 : r ≤ 10000) (h3 : ∀ k, 0 ≤ k → k < r → zV A k h < v) (h4 : r < 10000 → v ≤ zV A r h) : zInv A v h = r :=
  zFst_eq h1 (by omega) (fun k a b => by have := h3 k a b; simp; omega) (fun a => by have := h4 (by omega); simp; omega)
theorem zInv_s (A : Int → Int) (v h : Int) : (0 ≤ zInv A v h ∧ zInv A v h ≤ 10000) ∧ (∀ k, 0 ≤ k → k < zInv A v h → zV A k h < v) ∧ (zInv A v h < 10000 → v ≤ zV A (zInv A v h) h) := by
  obtain ⟨a, b, c, d⟩ := zFst_spec (fun s => decide (v ≤ zV A s h)) 10000 0
  refine ⟨⟨a, by unfold zInv; omega⟩, fun k e f => ?_, fun e => ?_⟩
  · have := c k e f
    simp at this
    omega
  · have := d (by unfold zInv at e; omega)
    exact of_decide_eq_true this
theorem zInv_mono (A : Int → Int) {v w h : Int} (hv : v ≤ w) : zInv A v h ≤ zInv A w h := by
  rcases Int.lt_or_le (zInv A w h) (zInv A v h) with q | q
  · have h1 := zInv_s A v h
    have h2 := zInv_s A w h
    have h3 := h1.2.1 _ h2.1.1 q
    have h4 := h2.2.2 (by omega)
    omega
  · exact q
