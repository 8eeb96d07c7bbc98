/-! the steps of a measurement keep what always holds -/
theorem zU_lo {g : Int → Int} {i v k : Int} (hi : 34 ≤ i) (hk : k < 34) : zU g i v k = g k := zU_ne g v (by omega)
theorem zU_hi {g : Int → Int} {i v k : Int} (hi : i ≤ 52) (hk : 53 ≤ k) : zU g i v k = g k := zU_ne g v (by omega)
theorem zCnt_34 (A : Int → Int) (i t : Int) : zCnt A i t 34 = zclamp (A 34 + zMov A i t) 0 (A 37) := rfl
theorem zCnt_35 (A : Int → Int) (i t : Int) : zCnt A i t 35 = zLow A i t := rfl
theorem zCnt_36 (A : Int → Int) (i t : Int) : zCnt A i t 36 = zHigh A i t := rfl
theorem zCnt_37 (A : Int → Int) (i t : Int) : zCnt A i t 37 = A 37 := rfl
theorem zCnt_38 (A : Int → Int) (i t : Int) : zCnt A i t 38 = A 38 := rfl
theorem zCnt_39 (A : Int → Int) (i t : Int) : zCnt A i t 39 = zclamp (A 39 + zMov A i t) 0 (zRng A) := rfl
theorem zCnt_40 (A : Int → Int) (i t : Int) : zCnt A i t 40 = A 40 + zMov A i t := rfl
theorem zCnt_41 (A : Int → Int) (i t : Int) : zCnt A i t 41 = A 41 + max (zMov A i t) (-zMov A i t) := rfl
theorem zCnt_42 (A : Int → Int) (i t : Int) : zCnt A i t 42 = A 42 + t := rfl
theorem zCnt_43 (A : Int → Int) (i t : Int) : zCnt A i t 43 = A 43 := rfl
theorem zCnt_44 (A : Int → Int) (i t : Int) : zCnt A i t 44 = A 44 := rfl
theorem zCnt_45 (A : Int → Int) (i t : Int) : zCnt A i t 45 = A 45 := rfl
theorem zCnt_46 (A : Int → Int) (i t : Int) : zCnt A i t 46 = A 46 := rfl
theorem zCnt_47 (A : Int → Int) (i t : Int) : zCnt A i t 47 = A 47 := rfl
theorem zCnt_48 (A : Int → Int) (i t : Int) : zCnt A i t 48 = A 48 := rfl
theorem zCnt_49 (A : Int → Int) (i t : Int) : zCnt A i t 49 = A 49 := rfl
theorem zCnt_50 (A : Int → Int) (i t : Int) : zCnt A i t 50 = A 50 := rfl
theorem zCnt_51 (A : Int → Int) (i t : Int) : zCnt A i t 51 = A 51 := rfl
theorem zCnt_52 (A : Int → Int) (i t : Int) : zCnt A i t 52 = A 52 := rfl
theorem zCnt_3 (A : Int → Int) (i t : Int) : zCnt A i t 3 = A 3 := rfl
theorem zCnt_lo (A : Int → Int) (i t : Int) (k : Int) (hk : k < 34) : zCnt A i t k = A k := by unfold zCnt; iterate 7 rw [zU_lo (by decide) hk]
theorem zCnt_hi (A : Int → Int) (i t : Int) (k : Int) (hk : 53 ≤ k) : zCnt A i t k = A k := by unfold zCnt; iterate 7 rw [zU_hi (by decide) hk]
theorem zMov_600 {n : Int} {A : Int → Int} (h : zOK n A) {i t : Int} (hi : -50000 ≤ i ∧ i ≤ 50000) (ht : 1 ≤ t ∧ t ≤ 600) : -30000000 ≤ zMov A i t ∧ zMov A i t ≤ 30000000 := by
  have := zMov_r (t := t) (T := 600) h hi ⟨by omega, ht.2⟩
  omega
theorem zOK_cnt {n : Int} {A : Int → Int} (h : zOK n A) {i t : Int} (hi : -50000 ≤ i ∧ i ≤ 50000) (ht : 1 ≤ t ∧ t ≤ 600) : zOK (n + 1) (zCnt A i t) := by
  obtain ⟨a1, a2, a3, a4, a5, a6, a7, a8, a9, a10, a11, a12, a13, a14, a15, a16, a17, a18⟩ := h.2.2.1
  have hm := zMov_600 h hi ht
  have hd := zDrf_r h (c := zMov A i t) (t := t) (by omega) (by omega)
  have hC := zOK_C h
  have hR := zRng_r h
  have eR : zRng (zCnt A i t) = zRng A := by unfold zRng; rw [zCnt_37, zCnt_3]
  have c1 := zclamp_r (v := A 34 + zMov A i t) (a := 0) (b := A 37) (by omega)
  have c2 := zclamp_r (v := A 39 + zMov A i t) (a := 0) (b := zRng A) (by omega)
  have c3 := zLow_e h i t
  have c4 := zHigh_e h i t
  have c5 : zLow A i t ≤ zHigh A i t := zclamp_mono (by omega) (by omega)
  refine zOK_of h (fun k a b => zCnt_lo A i t k b) ?_ (zRw_of h.2.2.2 rfl rfl rfl (fun k a b => zCnt_hi A i t k a) a18)
  unfold zSc
  rw [eR, zCnt_34, zCnt_35, zCnt_36, zCnt_37, zCnt_38, zCnt_39, zCnt_40, zCnt_41, zCnt_42, zCnt_43, zCnt_44, zCnt_45, zCnt_46, zCnt_47, zCnt_48, zCnt_49, zCnt_50, zCnt_51, zCnt_52]
  exact ⟨a1, a2, c1, by omega, c2, by omega, by omega, by omega, by omega, by omega, a11, a12, a13, a14, a15, by omega, by omega, a18⟩
theorem zRst_t {A : Int → Int} {i v t : Int} (h : zRests A i v) : zRst A i v t = zU A 43 (A 43 + t) := by unfold zRst; rw [zI_ft h]
theorem zRst_f {A : Int → Int} {i v t : Int} (h : ¬ zRests A i v) : zRst A i v t = zU A 43 0 := by unfold zRst; rw [zI_ff h]
theorem zFul_t {A : Int → Int} {i v t : Int} (h : zFulls A i v) : zFul A i v t = zU A 44 (A 44 + t) := by unfold zFul; rw [zI_ft h]
theorem zFul_f {A : Int → Int} {i v t : Int} (h : ¬ zFulls A i v) : zFul A i v t = zU A 44 0 := by unfold zFul; rw [zI_ff h]
theorem zOK_u43 {n : Int} {A : Int → Int} {x : Int} (h : zOK n A) (hx : 0 ≤ x ∧ x ≤ A 43 + 600) : zOK (n + 1) (zU A 43 x) := by
  obtain ⟨a1, a2, a3, a4, a5, a6, a7, a8, a9, a10, a11, a12, a13, a14, a15, a16, a17, a18⟩ := h.2.2.1
  refine zOK_of h (fun k a b => zU_lo (by decide) b) ?_ (zRw_of h.2.2.2 rfl rfl rfl (fun k a b => zU_hi (by decide) a) a18)
  have : zSc (n + 1) (zU A 43 x) ↔ ((360000 ≤ A 38 ∧ A 38 ≤ 72000000 ∧ A 38 % 2 = 0) ∧ (A 38 ≤ 2 * A 37 ∧ 2 * A 37 ≤ 3 * A 38) ∧ (0 ≤ A 34 ∧ A 34 ≤ A 37) ∧ (0 ≤ A 35 ∧ A 35 ≤ A 36 ∧ A 36 ≤ A 37) ∧ (0 ≤ A 39 ∧ A 39 ≤ zRng A) ∧ (-((n + 1) * 30000000) ≤ A 40 ∧ A 40 ≤ (n + 1) * 30000000) ∧ (0 ≤ A 41 ∧ A 41 ≤ (n + 1) * 30000000) ∧ (0 ≤ A 42 ∧ A 42 ≤ (n + 1) * 600) ∧ (0 ≤ x ∧ x ≤ (n + 1) * 600) ∧ (0 ≤ A 44 ∧ A 44 ≤ (n + 1) * 600) ∧ (0 ≤ A 45 ∧ A 45 ≤ 1) ∧ (0 ≤ A 46 ∧ A 46 ≤ 6000) ∧ (0 ≤ A 47 ∧ A 47 ≤ 1) ∧ (0 ≤ A 48 ∧ A 48 ≤ 1) ∧ (0 ≤ A 49 ∧ A 49 ≤ 10000) ∧ (0 ≤ A 50 ∧ A 50 ≤ (n + 1)) ∧ (0 ≤ A 51 ∧ A 51 ≤ (n + 1)) ∧ (0 ≤ A 52 ∧ A 52 ≤ 40)) := Iff.rfl
  rw [this]
  exact ⟨a1, a2, a3, a4, a5, by omega, by omega, by omega, by omega, by omega, by omega, by omega, by omega, a14, a15, by omega, by omega, a18⟩
theorem zOK_u44 {n : Int} {A : Int → Int} {x : Int} (h : zOK n A) (hx : 0 ≤ x ∧ x ≤ A 44 + 600) : zOK (n + 1) (zU A 44 x) := by
  obtain ⟨a1, a2, a3, a4, a5, a6, a7, a8, a9, a10, a11, a12, a13, a14, a15, a16, a17, a18⟩ := h.2.2.1
  refine zOK_of h (fun k a b => zU_lo (by decide) b) ?_ (zRw_of h.2.2.2 rfl rfl rfl (fun k a b => zU_hi (by decide) a) a18)
  have : zSc (n + 1) (zU A 44 x) ↔ ((360000 ≤ A 38 ∧ A 38 ≤ 72000000 ∧ A 38 % 2 = 0) ∧ (A 38 ≤ 2 * A 37 ∧ 2 * A 37 ≤ 3 * A 38) ∧ (0 ≤ A 34 ∧ A 34 ≤ A 37) ∧ (0 ≤ A 35 ∧ A 35 ≤ A 36 ∧ A 36 ≤ A 37) ∧ (0 ≤ A 39 ∧ A 39 ≤ zRng A) ∧ (-((n + 1) * 30000000) ≤ A 40 ∧ A 40 ≤ (n + 1) * 30000000) ∧ (0 ≤ A 41 ∧ A 41 ≤ (n + 1) * 30000000) ∧ (0 ≤ A 42 ∧ A 42 ≤ (n + 1) * 600) ∧ (0 ≤ A 43 ∧ A 43 ≤ (n + 1) * 600) ∧ (0 ≤ x ∧ x ≤ (n + 1) * 600) ∧ (0 ≤ A 45 ∧ A 45 ≤ 1) ∧ (0 ≤ A 46 ∧ A 46 ≤ 6000) ∧ (0 ≤ A 47 ∧ A 47 ≤ 1) ∧ (0 ≤ A 48 ∧ A 48 ≤ 1) ∧ (0 ≤ A 49 ∧ A 49 ≤ 10000) ∧ (0 ≤ A 50 ∧ A 50 ≤ (n + 1)) ∧ (0 ≤ A 51 ∧ A 51 ≤ (n + 1)) ∧ (0 ≤ A 52 ∧ A 52 ≤ 40)) := Iff.rfl
  rw [this]
  exact ⟨a1, a2, a3, a4, a5, by omega, by omega, by omega, by omega, by omega, by omega, by omega, by omega, a14, a15, by omega, by omega, a18⟩
theorem zOK_u45 {n : Int} {A : Int → Int} {x : Int} (h : zOK n A) (hx : 0 ≤ x ∧ x ≤ 1) : zOK (n + 1) (zU A 45 x) := by
  obtain ⟨a1, a2, a3, a4, a5, a6, a7, a8, a9, a10, a11, a12, a13, a14, a15, a16, a17, a18⟩ := h.2.2.1
  refine zOK_of h (fun k a b => zU_lo (by decide) b) ?_ (zRw_of h.2.2.2 rfl rfl rfl (fun k a b => zU_hi (by decide) a) a18)
  have : zSc (n + 1) (zU A 45 x) ↔ ((360000 ≤ A 38 ∧ A 38 ≤ 72000000 ∧ A 38 % 2 = 0) ∧ (A 38 ≤ 2 * A 37 ∧ 2 * A 37 ≤ 3 * A 38) ∧ (0 ≤ A 34 ∧ A 34 ≤ A 37) ∧ (0 ≤ A 35 ∧ A 35 ≤ A 36 ∧ A 36 ≤ A 37) ∧ (0 ≤ A 39 ∧ A 39 ≤ zRng A) ∧ (-((n + 1) * 30000000) ≤ A 40 ∧ A 40 ≤ (n + 1) * 30000000) ∧ (0 ≤ A 41 ∧ A 41 ≤ (n + 1) * 30000000) ∧ (0 ≤ A 42 ∧ A 42 ≤ (n + 1) * 600) ∧ (0 ≤ A 43 ∧ A 43 ≤ (n + 1) * 600) ∧ (0 ≤ A 44 ∧ A 44 ≤ (n + 1) * 600) ∧ (0 ≤ x ∧ x ≤ 1) ∧ (0 ≤ A 46 ∧ A 46 ≤ 6000) ∧ (0 ≤ A 47 ∧ A 47 ≤ 1) ∧ (0 ≤ A 48 ∧ A 48 ≤ 1) ∧ (0 ≤ A 49 ∧ A 49 ≤ 10000) ∧ (0 ≤ A 50 ∧ A 50 ≤ (n + 1)) ∧ (0 ≤ A 51 ∧ A 51 ≤ (n + 1)) ∧ (0 ≤ A 52 ∧ A 52 ≤ 40)) := Iff.rfl
  rw [this]
  exact ⟨a1, a2, a3, a4, a5, by omega, by omega, by omega, by omega, by omega, by omega, by omega, by omega, a14, a15, by omega, by omega, a18⟩
theorem zOK_u46 {n : Int} {A : Int → Int} {x : Int} (h : zOK n A) (hx : 0 ≤ x ∧ x ≤ 6000) : zOK (n + 1) (zU A 46 x) := by
  obtain ⟨a1, a2, a3, a4, a5, a6, a7, a8, a9, a10, a11, a12, a13, a14, a15, a16, a17, a18⟩ := h.2.2.1
  refine zOK_of h (fun k a b => zU_lo (by decide) b) ?_ (zRw_of h.2.2.2 rfl rfl rfl (fun k a b => zU_hi (by decide) a) a18)
  have : zSc (n + 1) (zU A 46 x) ↔ ((360000 ≤ A 38 ∧ A 38 ≤ 72000000 ∧ A 38 % 2 = 0) ∧ (A 38 ≤ 2 * A 37 ∧ 2 * A 37 ≤ 3 * A 38) ∧ (0 ≤ A 34 ∧ A 34 ≤ A 37) ∧ (0 ≤ A 35 ∧ A 35 ≤ A 36 ∧ A 36 ≤ A 37) ∧ (0 ≤ A 39 ∧ A 39 ≤ zRng A) ∧ (-((n + 1) * 30000000) ≤ A 40 ∧ A 40 ≤ (n + 1) * 30000000) ∧ (0 ≤ A 41 ∧ A 41 ≤ (n + 1) * 30000000) ∧ (0 ≤ A 42 ∧ A 42 ≤ (n + 1) * 600) ∧ (0 ≤ A 43 ∧ A 43 ≤ (n + 1) * 600) ∧ (0 ≤ A 44 ∧ A 44 ≤ (n + 1) * 600) ∧ (0 ≤ A 45 ∧ A 45 ≤ 1) ∧ (0 ≤ x ∧ x ≤ 6000) ∧ (0 ≤ A 47 ∧ A 47 ≤ 1) ∧ (0 ≤ A 48 ∧ A 48 ≤ 1) ∧ (0 ≤ A 49 ∧ A 49 ≤ 10000) ∧ (0 ≤ A 50 ∧ A 50 ≤ (n + 1)) ∧ (0 ≤ A 51 ∧ A 51 ≤ (n + 1)) ∧ (0 ≤ A 52 ∧ A 52 ≤ 40)) := Iff.rfl
  rw [this]
  exact ⟨a1, a2, a3, a4, a5, by omega, by omega, by omega, by omega, by omega, by omega, by omega, by omega, a14, a15, by omega, by omega, a18⟩
theorem zOK_u47 {n : Int} {A : Int → Int} {x : Int} (h : zOK n A) (hx : 0 ≤ x ∧ x ≤ 1) : zOK (n + 1) (zU A 47 x) := by
  obtain ⟨a1, a2, a3, a4, a5, a6, a7, a8, a9, a10, a11, a12, a13, a14, a15, a16, a17, a18⟩ := h.2.2.1
  refine zOK_of h (fun k a b => zU_lo (by decide) b) ?_ (zRw_of h.2.2.2 rfl rfl rfl (fun k a b => zU_hi (by decide) a) a18)
  have : zSc (n + 1) (zU A 47 x) ↔ ((360000 ≤ A 38 ∧ A 38 ≤ 72000000 ∧ A 38 % 2 = 0) ∧ (A 38 ≤ 2 * A 37 ∧ 2 * A 37 ≤ 3 * A 38) ∧ (0 ≤ A 34 ∧ A 34 ≤ A 37) ∧ (0 ≤ A 35 ∧ A 35 ≤ A 36 ∧ A 36 ≤ A 37) ∧ (0 ≤ A 39 ∧ A 39 ≤ zRng A) ∧ (-((n + 1) * 30000000) ≤ A 40 ∧ A 40 ≤ (n + 1) * 30000000) ∧ (0 ≤ A 41 ∧ A 41 ≤ (n + 1) * 30000000) ∧ (0 ≤ A 42 ∧ A 42 ≤ (n + 1) * 600) ∧ (0 ≤ A 43 ∧ A 43 ≤ (n + 1) * 600) ∧ (0 ≤ A 44 ∧ A 44 ≤ (n + 1) * 600) ∧ (0 ≤ A 45 ∧ A 45 ≤ 1) ∧ (0 ≤ A 46 ∧ A 46 ≤ 6000) ∧ (0 ≤ x ∧ x ≤ 1) ∧ (0 ≤ A 48 ∧ A 48 ≤ 1) ∧ (0 ≤ A 49 ∧ A 49 ≤ 10000) ∧ (0 ≤ A 50 ∧ A 50 ≤ (n + 1)) ∧ (0 ≤ A 51 ∧ A 51 ≤ (n + 1)) ∧ (0 ≤ A 52 ∧ A 52 ≤ 40)) := Iff.rfl
  rw [this]
  exact ⟨a1, a2, a3, a4, a5, by omega, by omega, by omega, by omega, by omega, by omega, by omega, by omega, a14, a15, by omega, by omega, a18⟩
theorem zOK_rst {n : Int} {A : Int → Int} (h : zOK n A) {i v t : Int} (ht : 1 ≤ t ∧ t ≤ 600) : zOK (n + 1) (zRst A i v t) := by
  have h1 := (zOK_q h).2.2.2.2.2.2.2.2.1
  unfold zRst zI_f
  split
  · exact zOK_u43 h (by omega)
  · exact zOK_u43 h (by omega)
theorem zOK_ful {n : Int} {A : Int → Int} (h : zOK n A) {i v t : Int} (ht : 1 ≤ t ∧ t ≤ 600) : zOK (n + 1) (zFul A i v t) := by
  have h1 := (zOK_q h).2.2.2.2.2.2.2.2.2.1
  unfold zFul zI_f
  split
  · exact zOK_u44 h (by omega)
  · exact zOK_u44 h (by omega)
theorem zCap_r {n : Int} {A : Int → Int} (h : zOK n A) {s : Int} (hl : A 38 / 2 ≤ zSeen A s ∧ zSeen A s ≤ A 38 * 3 / 2) : A 38 ≤ 2 * zCap A s ∧ 2 * zCap A s ≤ 3 * A 38 := by
  have h1 := (zOK_q h).1
  have h2 := (zOK_q h).2.1
  unfold zCap
  omega
theorem zLrn1_34 (A : Int → Int) (s : Int) : zLrn1 A s 34 = min (A 34) (zCap A s) := rfl
theorem zLrn1_35 (A : Int → Int) (s : Int) : zLrn1 A s 35 = min (A 35) (zCap A s) := rfl
theorem zLrn1_36 (A : Int → Int) (s : Int) : zLrn1 A s 36 = min (A 36) (zCap A s) := rfl
theorem zLrn1_37 (A : Int → Int) (s : Int) : zLrn1 A s 37 = zCap A s := rfl
theorem zLrn1_38 (A : Int → Int) (s : Int) : zLrn1 A s 38 = A 38 := rfl
theorem zLrn1_39 (A : Int → Int) (s : Int) : zLrn1 A s 39 = min (A 39) (zCap A s * A 3 / 100) := rfl
theorem zLrn1_40 (A : Int → Int) (s : Int) : zLrn1 A s 40 = A 40 := rfl
theorem zLrn1_41 (A : Int → Int) (s : Int) : zLrn1 A s 41 = A 41 := rfl
theorem zLrn1_42 (A : Int → Int) (s : Int) : zLrn1 A s 42 = A 42 := rfl
theorem zLrn1_43 (A : Int → Int) (s : Int) : zLrn1 A s 43 = A 43 := rfl
theorem zLrn1_44 (A : Int → Int) (s : Int) : zLrn1 A s 44 = A 44 := rfl
theorem zLrn1_45 (A : Int → Int) (s : Int) : zLrn1 A s 45 = A 45 := rfl
theorem zLrn1_46 (A : Int → Int) (s : Int) : zLrn1 A s 46 = A 46 := rfl
theorem zLrn1_47 (A : Int → Int) (s : Int) : zLrn1 A s 47 = A 47 := rfl
theorem zLrn1_48 (A : Int → Int) (s : Int) : zLrn1 A s 48 = A 48 := rfl
theorem zLrn1_49 (A : Int → Int) (s : Int) : zLrn1 A s 49 = A 49 := rfl
theorem zLrn1_50 (A : Int → Int) (s : Int) : zLrn1 A s 50 = A 50 := rfl
theorem zLrn1_51 (A : Int → Int) (s : Int) : zLrn1 A s 51 = A 51 + 1 := rfl
theorem zLrn1_52 (A : Int → Int) (s : Int) : zLrn1 A s 52 = A 52 := rfl
theorem zLrn1_3 (A : Int → Int) (s : Int) : zLrn1 A s 3 = A 3 := rfl
theorem zLrn1_lo (A : Int → Int) (s : Int) (k : Int) (hk : k < 34) : zLrn1 A s k = A k := by unfold zLrn1; iterate 6 rw [zU_lo (by decide) hk]
theorem zLrn1_hi (A : Int → Int) (s : Int) (k : Int) (hk : 53 ≤ k) : zLrn1 A s k = A k := by unfold zLrn1; iterate 6 rw [zU_hi (by decide) hk]
theorem zOK_lrn1 {n : Int} {A : Int → Int} (h : zOK n A) {s : Int} (hl : A 38 / 2 ≤ zSeen A s ∧ zSeen A s ≤ A 38 * 3 / 2) : zOK (n + 1) (zLrn1 A s) := by
  obtain ⟨a1, a2, a3, a4, a5, a6, a7, a8, a9, a10, a11, a12, a13, a14, a15, a16, a17, a18⟩ := h.2.2.1
  have hC := zOK_C h
  have hp := zCap_r h hl
  have hs3 := (zOK_s h).2.2.2.1
  have eR : zRng (zLrn1 A s) = zCap A s * A 3 / 100 := by unfold zRng; rw [zLrn1_37, zLrn1_3]
  have hr : 0 ≤ zCap A s * A 3 / 100 := Int.ediv_nonneg (Int.mul_nonneg (by omega) (by omega)) (by decide)
  refine zOK_of h (fun k a b => zLrn1_lo A s k b) ?_ (zRw_of h.2.2.2 rfl rfl rfl (fun k a b => zLrn1_hi A s k a) a18)
  unfold zSc
  rw [eR, zLrn1_34, zLrn1_35, zLrn1_36, zLrn1_37, zLrn1_38, zLrn1_39, zLrn1_40, zLrn1_41, zLrn1_42, zLrn1_43, zLrn1_44, zLrn1_45, zLrn1_46, zLrn1_47, zLrn1_48, zLrn1_49, zLrn1_50, zLrn1_51, zLrn1_52]
  exact ⟨a1, hp, by omega, by omega, by omega, by omega, by omega, by omega, by omega, by omega, a11, a12, a13, a14, a15, by omega, by omega, a18⟩
theorem zOK_lrn {n : Int} {A : Int → Int} (h : zOK n A) (s : Int) : zOK (n + 1) (zLrn A s) := by
  unfold zLrn
  split
  · rename_i hl
    exact zOK_lrn1 h ⟨hl.2.2.2.2.1, hl.2.2.2.2.2⟩
  · exact zOK_mono h (by omega)
theorem zBnd_lo (A : Int → Int) (s0 s1 k : Int) (hk : k < 34) : zBnd A s0 s1 k = A k := by
  unfold zBnd
  split
  · iterate 3 rw [zU_lo (by decide) hk]
  · iterate 2 rw [zU_lo (by decide) hk]
theorem zBnd_hi (A : Int → Int) (s0 s1 k : Int) (hk : 53 ≤ k) : zBnd A s0 s1 k = A k := by
  unfold zBnd
  split
  · iterate 3 rw [zU_hi (by decide) hk]
  · iterate 2 rw [zU_hi (by decide) hk]
theorem zscap {C s : Int} (hC : 0 ≤ C) (hs : 0 ≤ s ∧ s ≤ 10000) : 0 ≤ C * s / 10000 ∧ C * s / 10000 ≤ C := by
  have h1 := Int.mul_le_mul_of_nonneg_left hs.2 hC
  have h2 := Int.mul_nonneg hC hs.1
  omega
theorem zOK_bnd {n : Int} {A : Int → Int} (h : zOK n A) {s0 s1 : Int} (h0 : 0 ≤ s0 ∧ s0 ≤ s1 ∧ s1 ≤ 10000) : zOK (n + 1) (zBnd A s0 s1) := by
  obtain ⟨a1, a2, a3, a4, a5, a6, a7, a8, a9, a10, a11, a12, a13, a14, a15, a16, a17, a18⟩ := h.2.2.1
  have hC := zOK_C h
  have b0 := zscap (C := A 37) (s := s0) (by omega) (by omega)
  have b1 := zscap (C := A 37) (s := s1) (by omega) (by omega)
  have b2 : A 37 * s0 / 10000 ≤ A 37 * s1 / 10000 := zdiv_mono (Int.mul_le_mul_of_nonneg_left h0.2.1 (by omega)) (by decide)
  have m40 : -((n + 1) * 30000000) ≤ A 40 ∧ A 40 ≤ (n + 1) * 30000000 := by omega
  have m41 : 0 ≤ A 41 ∧ A 41 ≤ (n + 1) * 30000000 := by omega
  have m42 : 0 ≤ A 42 ∧ A 42 ≤ (n + 1) * 600 := by omega
  have m43 : 0 ≤ A 43 ∧ A 43 ≤ (n + 1) * 600 := by omega
  have m44 : 0 ≤ A 44 ∧ A 44 ≤ (n + 1) * 600 := by omega
  have m51 : 0 ≤ A 51 ∧ A 51 ≤ n + 1 := by omega
  refine zOK_of h (fun k a b => zBnd_lo A s0 s1 k b) ?_ (zRw_of h.2.2.2 ?_ ?_ ?_ (fun k a b => zBnd_hi A s0 s1 k a) a18)
  · unfold zBnd
    split
    · exact ⟨a1, a2, a3, ⟨b0.1, b2, b1.2⟩, a5, m40, m41, m42, m43, m44, a11, a12, a13, a14, a15, ⟨show 0 ≤ A 50 + 1 by omega, show A 50 + 1 ≤ n + 1 by omega⟩, m51, a18⟩
    · rename_i hc
      refine ⟨a1, a2, a3, ⟨show 0 ≤ max (A 35) (A 37 * s0 / 10000) by omega, show max (A 35) (A 37 * s0 / 10000) ≤ min (A 36) (A 37 * s1 / 10000) by omega, show min (A 36) (A 37 * s1 / 10000) ≤ A 37 by omega⟩, a5, m40, m41, m42, m43, m44, a11, a12, a13, a14, a15, ?_, m51, a18⟩
      exact ⟨show 0 ≤ A 50 by omega, show A 50 ≤ n + 1 by omega⟩
  · unfold zBnd; split <;> rfl
  · unfold zBnd; split <;> rfl
  · unfold zBnd; split <;> rfl
theorem zQcl_34 (A : Int → Int) (s : Int) : zQcl A s 34 = zclamp (A 34) (A 35) (A 36) := rfl
theorem zQcl_35 (A : Int → Int) (s : Int) : zQcl A s 35 = A 35 := rfl
theorem zQcl_36 (A : Int → Int) (s : Int) : zQcl A s 36 = A 36 := rfl
theorem zQcl_37 (A : Int → Int) (s : Int) : zQcl A s 37 = A 37 := rfl
theorem zQcl_38 (A : Int → Int) (s : Int) : zQcl A s 38 = A 38 := rfl
theorem zQcl_39 (A : Int → Int) (s : Int) : zQcl A s 39 = A 39 := rfl
theorem zQcl_40 (A : Int → Int) (s : Int) : zQcl A s 40 = 0 := rfl
theorem zQcl_41 (A : Int → Int) (s : Int) : zQcl A s 41 = A 41 := rfl
theorem zQcl_42 (A : Int → Int) (s : Int) : zQcl A s 42 = A 42 := rfl
theorem zQcl_43 (A : Int → Int) (s : Int) : zQcl A s 43 = A 43 := rfl
theorem zQcl_44 (A : Int → Int) (s : Int) : zQcl A s 44 = A 44 := rfl
theorem zQcl_45 (A : Int → Int) (s : Int) : zQcl A s 45 = A 45 := rfl
theorem zQcl_46 (A : Int → Int) (s : Int) : zQcl A s 46 = A 46 := rfl
theorem zQcl_47 (A : Int → Int) (s : Int) : zQcl A s 47 = A 47 := rfl
theorem zQcl_48 (A : Int → Int) (s : Int) : zQcl A s 48 = 1 := rfl
theorem zQcl_49 (A : Int → Int) (s : Int) : zQcl A s 49 = s := rfl
theorem zQcl_50 (A : Int → Int) (s : Int) : zQcl A s 50 = A 50 := rfl
theorem zQcl_51 (A : Int → Int) (s : Int) : zQcl A s 51 = A 51 := rfl
theorem zQcl_52 (A : Int → Int) (s : Int) : zQcl A s 52 = A 52 := rfl
theorem zQcl_lo (A : Int → Int) (s k : Int) (hk : k < 34) : zQcl A s k = A k := by unfold zQcl; iterate 4 rw [zU_lo (by decide) hk]
theorem zQcl_hi (A : Int → Int) (s k : Int) (hk : 53 ≤ k) : zQcl A s k = A k := by unfold zQcl; iterate 4 rw [zU_hi (by decide) hk]
theorem zLogS_m (A : Int → Int) (h : 0 ≤ A 52 ∧ A 52 ≤ 40) : zLogS A 52 = (if A 52 = 40 then 39 else A 52) ∧ 0 ≤ zLogS A 52 ∧ zLogS A 52 ≤ 39 := by
  unfold zLogS
  split
  · exact ⟨rfl, by show (0 : Int) ≤ 39; omega, by show (39 : Int) ≤ 39; omega⟩
  · exact ⟨rfl, h.1, by omega⟩
theorem zLogS_lo (A : Int → Int) (k : Int) (hk : k < 52) : zLogS A k = A k := by
  unfold zLogS
  split
  · rw [zU_ne _ _ (by omega)]; simp only [zC]; rw [if_neg (by omega)]
  · rfl
theorem zLogS_row {A : Int → Int} (h : ∀ k : Int, 0 ≤ k → k < 160 → 0 ≤ A (53 + k) ∧ A (53 + k) ≤ 2000000000) (k : Int) (a : 0 ≤ k) (b : k < 160) : 0 ≤ zLogS A (53 + k) ∧ zLogS A (53 + k) ≤ 2000000000 := by
  unfold zLogS
  split
  · rw [zU_ne _ _ (by omega)]
    simp only [zC]
    split
    · rw [show (57 : Int) + (53 + k - 53) = 53 + (k + 4) by omega]
      exact h _ (by omega) (by omega)
    · exact h k a b
  · exact h k a b
theorem zLog_lo (A : Int → Int) (h : 0 ≤ A 52 ∧ A 52 ≤ 40) (k s j : Int) (hj : j < 52) : zLog A k s j = A j := by
  have hm := zLogS_m A h
  unfold zLog
  rw [zU_ne _ _ (by omega), zU_ne _ _ (by omega), zU_ne _ _ (by omega), zU_ne _ _ (by omega), zU_ne _ _ (by omega)]
  exact zLogS_lo A j hj
theorem zLog_52 (A : Int → Int) (k s : Int) : zLog A k s 52 = zLogS A 52 + 1 := rfl
theorem zOK_log {n : Int} {A : Int → Int} {s k : Int} (hs : 0 ≤ s ∧ s ≤ 10000) (hk : 0 ≤ k ∧ k ≤ 2) (hn : n ≤ 3100000) (h1 : zSt A) (h2 : zCv A) (h3 : zSc n A) (h5 : A 48 = 1) (h6 : A 49 = s) (h7 : ∀ k : Int, 0 ≤ k → k < 160 → 0 ≤ A (53 + k) ∧ A (53 + k) ≤ 2000000000) : zOK n (zLog A k s) := by
  obtain ⟨a1, a2, a3, a4, a5, a6, a7, a8, a9, a10, a11, a12, a13, a14, a15, a16, a17, a18⟩ := id h3
  have hm := zLogS_m A a18
  have hl := zLog_lo A a18 k s
  refine ⟨?_, ⟨fun j a b => ?_, fun j a b => ?_⟩, ?_, ⟨?_, fun q => ?_, fun j a b => ?_⟩⟩
  · unfold zSt at h1 ⊢
    rw [hl 0 (by decide), hl 1 (by decide), hl 2 (by decide), hl 3 (by decide), hl 4 (by decide), hl 5 (by decide), hl 6 (by decide), hl 7 (by decide), hl 8 (by decide), hl 9 (by decide), hl 10 (by decide), hl 11 (by decide)]
    exact h1
  · rw [hl _ (by omega), hl _ (by omega)]; exact h2.1 j a b
  · rw [hl _ (by omega), hl _ (by omega), hl _ (by omega), hl _ (by omega)]; exact h2.2 j a b
  · unfold zSc zRng
    rw [hl 38 (by decide), hl 37 (by decide), hl 34 (by decide), hl 35 (by decide), hl 36 (by decide), hl 39 (by decide), hl 40 (by decide), hl 41 (by decide), hl 42 (by decide), hl 43 (by decide), hl 44 (by decide), hl 45 (by decide), hl 46 (by decide), hl 47 (by decide), hl 48 (by decide), hl 49 (by decide), hl 50 (by decide), hl 51 (by decide), hl 3 (by decide), zLog_52]
    exact ⟨a1, a2, a3, a4, a5, a6, a7, a8, a9, a10, a11, a12, a13, a14, a15, a16, a17, by omega⟩
  · rw [hl 48 (by decide), zLog_52, h5]
    omega
  · rw [hl 49 (by decide), h6, zLog_52]
    unfold zLog
    rw [zU_ne _ _ (by omega), zU_ne _ _ (by omega), zU_ne _ _ (by omega), show 53 + 4 * (zLogS A 52 + 1 - 1) + 1 = 53 + 4 * zLogS A 52 + 1 by omega, zU_same]
  · unfold zLog
    rw [zU_ne _ _ (by omega)]
    have hC : A 37 ≤ 108000000 := by omega
    simp only [zU]
    split
    · omega
    · split
      · omega
      · split
        · omega
        · split
          · omega
          · exact zLogS_row h7 j a b
theorem zOK_anc {n : Int} {A : Int → Int} (h : zOK n A) (hn : n ≤ 3099990) {k s s0 s1 : Int} (hk : 0 ≤ k ∧ k ≤ 2) (hs : 0 ≤ s ∧ s ≤ 10000) (h0 : 0 ≤ s0 ∧ s0 ≤ s1 ∧ s1 ≤ 10000) : zOK (n + 2) (zAnc A k s s0 s1) := by
  have h1 := zOK_bnd (zOK_lrn h s) h0
  obtain ⟨a1, a2, a3, a4, a5, a6, a7, a8, a9, a10, a11, a12, a13, a14, a15, a16, a17, a18⟩ := id h1.2.2.1
  unfold zAnc
  generalize zBnd (zLrn A s) s0 s1 = B at *
  have c1 := zclamp_r (v := B 34) (a := B 35) (b := B 36) (by omega)
  have eR : zRng (zQcl B s) = zRng B := rfl
  refine zOK_log hs hk (by omega) ?_ ⟨fun j a b => ?_, fun j a b => ?_⟩ ?_ rfl rfl (fun j a b => ?_)
  · exact h1.1
  · rw [zQcl_lo _ _ _ (by omega), zQcl_lo _ _ _ (by omega)]; exact h1.2.1.1 j a b
  · rw [zQcl_lo _ _ _ (by omega), zQcl_lo _ _ _ (by omega), zQcl_lo _ _ _ (by omega), zQcl_lo _ _ _ (by omega)]; exact h1.2.1.2 j a b
  · unfold zSc
    rw [eR, zQcl_34, zQcl_35, zQcl_36, zQcl_37, zQcl_38, zQcl_39, zQcl_40, zQcl_41, zQcl_42, zQcl_43, zQcl_44, zQcl_45, zQcl_46, zQcl_47, zQcl_48, zQcl_49, zQcl_50, zQcl_51, zQcl_52]
    exact ⟨a1, a2, by omega, a4, a5, by omega, by omega, by omega, by omega, by omega, a11, a12, a13, by omega, hs, by omega, by omega, a18⟩
  · rw [zQcl_hi _ _ _ (by omega)]; exact h1.2.2.2.2.2 j a b
