/-! numbers: every int is zI of an integer, every long zL of one; rows that keep that form -/
def zI (x : Int) : Int32 := Int32.ofInt x
def zL (x : Int) : Int64 := Int64.ofInt x
theorem zI_add (a b : Int) : zI a + zI b = zI (a + b) := (Int32.ofInt_add a b).symm
theorem zI_sub (a b : Int) : zI a - zI b = zI (a - b) := (Int32.ofInt_sub a b).symm
theorem zI_mul (a b : Int) : zI a * zI b = zI (a * b) := (Int32.ofInt_mul a b).symm
theorem zI_neg (a : Int) : -zI a = zI (-a) := (Int32.ofInt_neg a).symm
theorem zL_add (a b : Int) : zL a + zL b = zL (a + b) := (Int64.ofInt_add a b).symm
theorem zL_sub (a b : Int) : zL a - zL b = zL (a - b) := (Int64.ofInt_sub a b).symm
theorem zL_mul (a b : Int) : zL a * zL b = zL (a * b) := (Int64.ofInt_mul a b).symm
theorem zL_neg (a : Int) : -zL a = zL (-a) := (Int64.ofInt_neg a).symm
theorem zI_toInt {a : Int} (h : -2147483648 ≤ a ∧ a ≤ 2147483647) : (zI a).toInt = a := Int32.toInt_ofInt_of_le (by omega) (by omega)
theorem zL_toInt {a : Int} (h : -9223372036854775808 ≤ a ∧ a ≤ 9223372036854775807) : (zL a).toInt = a := Int64.toInt_ofInt_of_le (by omega) (by omega)
theorem zI_of (x : Int32) : ∃ a : Int, (-2147483648 ≤ a ∧ a ≤ 2147483647) ∧ x = zI a :=
  ⟨x.toInt, ⟨by have := x.le_toInt; exact this, by have := x.toInt_lt; omega⟩, (Int32.ofInt_toInt x).symm⟩
theorem zI_eq {a b : Int} (ha : -2147483648 ≤ a ∧ a ≤ 2147483647) (hb : -2147483648 ≤ b ∧ b ≤ 2147483647) : zI a = zI b ↔ a = b := by
  rw [← Int32.toInt_inj, zI_toInt ha, zI_toInt hb]
theorem zI_lt {a b : Int} (ha : -2147483648 ≤ a ∧ a ≤ 2147483647) (hb : -2147483648 ≤ b ∧ b ≤ 2147483647) : zI a < zI b ↔ a < b := by
  rw [Int32.lt_iff_toInt_lt, zI_toInt ha, zI_toInt hb]
theorem zI_le {a b : Int} (ha : -2147483648 ≤ a ∧ a ≤ 2147483647) (hb : -2147483648 ≤ b ∧ b ≤ 2147483647) : zI a ≤ zI b ↔ a ≤ b := by
  rw [Int32.le_iff_toInt_le, zI_toInt ha, zI_toInt hb]
theorem zL_eq {a b : Int} (ha : -9223372036854775808 ≤ a ∧ a ≤ 9223372036854775807) (hb : -9223372036854775808 ≤ b ∧ b ≤ 9223372036854775807) : zL a = zL b ↔ a = b := by
  rw [← Int64.toInt_inj, zL_toInt ha, zL_toInt hb]
theorem zL_lt {a b : Int} (ha : -9223372036854775808 ≤ a ∧ a ≤ 9223372036854775807) (hb : -9223372036854775808 ≤ b ∧ b ≤ 9223372036854775807) : zL a < zL b ↔ a < b := by
  rw [Int64.lt_iff_toInt_lt, zL_toInt ha, zL_toInt hb]
theorem zL_le {a b : Int} (ha : -9223372036854775808 ≤ a ∧ a ≤ 9223372036854775807) (hb : -9223372036854775808 ≤ b ∧ b ≤ 9223372036854775807) : zL a ≤ zL b ↔ a ≤ b := by
  rw [Int64.le_iff_toInt_le, zL_toInt ha, zL_toInt hb]
theorem zI_0 : zI 0 = 0 := rfl
theorem zL_0 : zL 0 = 0 := rfl
theorem zI_div {a b : Int} (ha : 0 ≤ a ∧ a ≤ 2147483647) (hb : 0 < b ∧ b ≤ 2147483647) : zI a / zI b = zI (a / b) := by
  have h := Int32.ofInt_tdiv (a := a) (b := b) (by rw [show Int32.minValue.toInt = -2147483648 from rfl]; omega) (by rw [show Int32.maxValue.toInt = 2147483647 from rfl]; omega) (by rw [show Int32.minValue.toInt = -2147483648 from rfl]; omega) (by rw [show Int32.maxValue.toInt = 2147483647 from rfl]; omega)
  rw [Int.tdiv_eq_ediv_of_nonneg ha.1] at h
  exact h.symm
theorem zI_rem {a b : Int} (ha : 0 ≤ a ∧ a ≤ 2147483647) (hb : 0 < b ∧ b ≤ 2147483647) : zI a % zI b = zI (a % b) := by
  have h := Int32.ofInt_tmod (a := a) (b := b) (by rw [show Int32.minValue.toInt = -2147483648 from rfl]; omega) (by rw [show Int32.maxValue.toInt = 2147483647 from rfl]; omega) (by rw [show Int32.minValue.toInt = -2147483648 from rfl]; omega) (by rw [show Int32.maxValue.toInt = 2147483647 from rfl]; omega)
  rw [Int.tmod_eq_emod_of_nonneg ha.1] at h
  exact h.symm
theorem zL_div {a b : Int} (ha : 0 ≤ a ∧ a ≤ 9223372036854775807) (hb : 0 < b ∧ b ≤ 9223372036854775807) : zL a / zL b = zL (a / b) := by
  have h := Int64.ofInt_tdiv (a := a) (b := b) (by rw [show Int64.minValue.toInt = -9223372036854775808 from rfl]; omega) (by rw [show Int64.maxValue.toInt = 9223372036854775807 from rfl]; omega) (by rw [show Int64.minValue.toInt = -9223372036854775808 from rfl]; omega) (by rw [show Int64.maxValue.toInt = 9223372036854775807 from rfl]; omega)
  rw [Int.tdiv_eq_ediv_of_nonneg ha.1] at h
  exact h.symm
theorem zI_toL {a : Int} (h : -2147483648 ≤ a ∧ a ≤ 2147483647) : (zI a).toInt64 = zL a :=
  Int32.toInt64_ofInt (by rw [show Int32.minValue.toInt = -2147483648 from rfl]; omega) (by rw [show Int32.maxValue.toInt = 2147483647 from rfl]; omega)
theorem zL_toI (a : Int) : (zL a).toInt32 = zI a := Int64.toInt32_ofInt
theorem zI_in {i : Int} {n : Nat} (hn : n < 2147483648) (h : 0 ≤ i ∧ i < n) : vp_in (zI i) n := by
  rw [vp_in_iff, zI_toInt (by omega)]
  exact h
theorem zI_cl {i : Int} (h : 0 ≤ i ∧ i ≤ 2147483647) : (zI i).toNatClampNeg = i.toNat := by
  show (zI i).toInt.toNat = i.toNat
  rw [zI_toInt (by omega)]
/-- a table of ints, of longs, by integers -/
def zA (g : Int → Int) : Nat → Int32 := fun k => zI (g k)
def zAL (g : Int → Int) : Nat → Int64 := fun k => zL (g k)
/-- one place is changed -/
def zU (g : Int → Int) (i v : Int) : Int → Int := fun j => if j = i then v else g j
/-- n places are copied -/
def zC (f g : Int → Int) (sp dp n : Int) : Int → Int := fun j => if dp ≤ j ∧ j < dp + n then f (sp + (j - dp)) else g j
theorem zA_at (g : Int → Int) {i : Int} (h : 0 ≤ i ∧ i ≤ 2147483647) : zA g (zI i).toNatClampNeg = zI (g i) := by
  rw [zI_cl h]
  unfold zA
  rw [Int.toNat_of_nonneg h.1]
theorem zAL_at (g : Int → Int) {i : Int} (h : 0 ≤ i ∧ i ≤ 2147483647) : zAL g (zI i).toNatClampNeg = zL (g i) := by
  rw [zI_cl h]
  unfold zAL
  rw [Int.toNat_of_nonneg h.1]
theorem zA_up (g : Int → Int) {i v : Int} (h : 0 ≤ i ∧ i ≤ 2147483647) : upd (zA g) (zI i).toNatClampNeg (zI v) = zA (zU g i v) := by
  funext j
  rw [zI_cl h]
  by_cases hj : j = i.toNat
  · subst hj
    rw [pk_us]
    show _ = zI (zU g i v _)
    rw [Int.toNat_of_nonneg h.1]
    simp [zU]
  · rw [pk_un hj]
    have : ¬ ((j : Int) = i) := by omega
    show zI _ = zI (zU g i v j)
    simp [zU, this]
theorem zAL_up (g : Int → Int) {i v : Int} (h : 0 ≤ i ∧ i ≤ 2147483647) : vp_updL (zAL g) (zI i).toNatClampNeg (zL v) = zAL (zU g i v) := by
  funext j
  rw [zI_cl h]
  by_cases hj : j = i.toNat
  · subst hj
    rw [pk_uLs]
    show _ = zL (zU g i v _)
    rw [Int.toNat_of_nonneg h.1]
    simp [zU]
  · rw [pk_uLn hj]
    have : ¬ ((j : Int) = i) := by omega
    show zL _ = zL (zU g i v j)
    simp [zU, this]
theorem zA_cpy (f g : Int → Int) (sp dp n : Nat) : va_cpy (zA f) (zA g) sp dp n = zA (zC f g sp dp n) := by
  funext j
  by_cases h : dp ≤ j ∧ j < dp + n
  · rw [pk_cpy_in h.1 h.2]
    show zI _ = zI (zC f g sp dp n j)
    have : (dp : Int) ≤ j ∧ (j : Int) < dp + n := by omega
    simp only [zC, this, and_self, if_true]
    congr 2
    omega
  · rw [pk_cpy_out (by omega)]
    show zI _ = zI (zC f g sp dp n j)
    have : ¬ ((dp : Int) ≤ j ∧ (j : Int) < dp + n) := by omega
    simp only [zC, this, if_false]
theorem zU_same (g : Int → Int) (i v : Int) : zU g i v i = v := by simp [zU]
theorem zU_ne (g : Int → Int) {i j : Int} (v : Int) (h : j ≠ i) : zU g i v j = g j := by simp [zU, h]
/-- a truth as 1 or 0 -/
def zB (P : Prop) [Decidable P] : Int := if P then 1 else 0
theorem zB_t {P : Prop} [Decidable P] (h : P) : zB P = 1 := if_pos h
theorem zB_f {P : Prop} [Decidable P] (h : ¬ P) : zB P = 0 := if_neg h
theorem zB_r (P : Prop) [Decidable P] : 0 ≤ zB P ∧ zB P ≤ 1 := by unfold zB; split <;> omega
abbrev vwCl : List vw_C := [(RX0, TX0, 2), (RX1, TX1, 18), (RX2, TX2, 2), (RX3, TX3, 2), (RX4, TX4, 7), (RX5, TX5, 4), (RX6, TX6, 10)]
