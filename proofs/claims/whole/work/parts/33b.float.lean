/-! floats: bits by hand, and cycles -/
section ZFQ
theorem zF_c1 : Jvm.FP.fconst1.toNat = 127 * 8388608 + 0 := by decide
theorem zF_c2 : Jvm.FP.fconst2.toNat = 128 * 8388608 + 0 := by decide
theorem zF_c3 : (1258291200 : UInt32).toNat = 150 * 8388608 + 0 := by decide
abbrev zFb (e t : Nat) : UInt32 := UInt32.ofNat (e * 8388608 + t)
theorem zFb_c {a b c d : Nat} (h1 : a = c) (h2 : b = d) : zFb a b = zFb c d := by rw [h1, h2]
theorem zFb_n {e t : Nat} (he : e ≤ 254) (ht : t < 8388608) : (zFb e t).toNat = e * 8388608 + t := zU32 (by omega)
theorem zFb_v {e t : Nat} (he : e ≤ 254) (ht : t < 8388608) : vf_n32 (zFb e t) := by
  unfold vf_n32
  rw [UInt32.le_iff_toNat_le, UInt32.toNat_and, zFb_n he ht]
  show (e * 8388608 + t) &&& 2147483647 ≤ 2139095040
  rw [show (2147483647 : Nat) = 2 ^ 31 - 1 from rfl, Nat.and_two_pow_sub_one_eq_mod]
  omega
/-- the exact number c 2^q as bits -/
theorem zFb_e {c : Nat} {q : Int} (hc : 8388608 ≤ c ∧ c < 16777216) (hq : -149 ≤ q ∧ q ≤ 104) : UInt32.ofNat (Jvm.FP.Core.encode Jvm.FP.Core.b32 (.fin false c q)) = zFb ((q + 149).toNat + 1) (c - 8388608) := by rw [zF_enc hc.1]
theorem zF_mul2 {e t : Nat} (he : 1 ≤ e ∧ e ≤ 200) (ht : t < 8388608) : Jvm.FP.fmul (zFb e t) Jvm.FP.fconst2 = zFb (e + 1) t := by
  show UInt32.ofNat (Jvm.FP.Core.encode Jvm.FP.Core.b32 (Jvm.FP.Core.round Jvm.FP.Core.b32 (Jvm.FP.Core.exactProduct (Jvm.FP.Core.decode Jvm.FP.Core.b32 (zFb e t).toNat) (Jvm.FP.Core.decode Jvm.FP.Core.b32 Jvm.FP.fconst2.toNat)))) = _
  rw [zFb_n (by omega) ht, zF_dec ⟨he.1, by omega⟩ ht, zF_c2, zF_dec (by omega) (by omega)]
  show UInt32.ofNat (Jvm.FP.Core.encode Jvm.FP.Core.b32 (Jvm.FP.Core.roundRatio Jvm.FP.Core.b32 false ((8388608 + t) * (8388608 + 0)) 1 (-149 + ((e : Int) - 1) + (-149 + (((128 : Nat) : Int) - 1))))) = _
  rw [zF_exact (k := 46) (c := 8388608 + t) (by omega) (by omega) (by omega) (by omega) (by omega), zFb_e (by omega) (by omega)]
  exact zFb_c (by omega) (by omega)
theorem zF_ord (c d : Nat) (q r : Int) : Jvm.FP.Core.order (.fin false c q) (.fin false d r) = some (compare ((c * 2 ^ (q - min q r).toNat : Nat) : Int) ((d * 2 ^ (r - min q r).toNat : Nat) : Int)) := rfl
theorem zF_lt1 {e t : Nat} (he : 1 ≤ e ∧ e ≤ 126) (ht : t < 8388608) : Jvm.FP.fcmp (zFb e t) Jvm.FP.fconst1 = some .lt := by
  unfold Jvm.FP.fcmp Jvm.FP.Core.fcmp Jvm.FP.Core.cmp
  rw [zFb_n (by omega) ht, zF_dec ⟨he.1, by omega⟩ ht, zF_c1, zF_dec (by omega) (by omega), zF_ord]
  have hm : min (-149 + ((e : Int) - 1)) (-149 + (((127 : Nat) : Int) - 1)) = -149 + ((e : Int) - 1) := by omega
  rw [hm, show (-149 + ((e : Int) - 1) - (-149 + ((e : Int) - 1))).toNat = 0 by omega, show (-149 + (((127 : Nat) : Int) - 1) - (-149 + ((e : Int) - 1))).toNat = (126 - e) + 1 by omega, Nat.pow_zero, Nat.mul_one, Nat.pow_succ]
  have := Nat.two_pow_pos (126 - e)
  refine congrArg some ?_
  rw [Int.compare_eq_lt]
  have h2 : (8388608 + 0) * (2 ^ (126 - e) * 2) = 16777216 * 2 ^ (126 - e) := by rw [← Nat.mul_assoc, Nat.mul_comm (8388608 + 0), Nat.mul_assoc, Nat.mul_comm]
  rw [h2]
  omega
theorem zF_ge1 {t : Nat} (ht : t < 8388608) : Jvm.FP.fcmp (zFb 127 t) Jvm.FP.fconst1 = some (if t = 0 then .eq else .gt) := by
  unfold Jvm.FP.fcmp Jvm.FP.Core.fcmp Jvm.FP.Core.cmp
  rw [zFb_n (by omega) ht, zF_dec (by omega) ht, zF_c1, zF_dec (by omega) (by omega), zF_ord, show (-149 + (((127 : Nat) : Int) - 1) - min (-149 + (((127 : Nat) : Int) - 1)) (-149 + (((127 : Nat) : Int) - 1))).toNat = 0 by decide, Nat.pow_zero, Nat.mul_one, Nat.mul_one]
  refine congrArg some ?_
  by_cases h : t = 0
  · rw [if_pos h, Int.compare_eq_eq]
    omega
  · rw [if_neg h, Int.compare_eq_gt]
    omega
/-- (value - 1) 2^23, cut, for a value in [1, 2) -/
theorem zF_frac {t : Nat} (ht : t < 8388608) : vf_n32 (Jvm.FP.fsub (zFb 127 t) Jvm.FP.fconst1) ∧ vf_n32 (Jvm.FP.fmul (Jvm.FP.fsub (zFb 127 t) Jvm.FP.fconst1) 1258291200) ∧ Jvm.FP.f2i (Jvm.FP.fmul (Jvm.FP.fsub (zFb 127 t) Jvm.FP.fconst1) 1258291200) = zI (t : Int) := by
  have hs : Jvm.FP.fsub (zFb 127 t) Jvm.FP.fconst1 = UInt32.ofNat (Jvm.FP.Core.encode Jvm.FP.Core.b32 (Jvm.FP.Core.roundRatio Jvm.FP.Core.b32 false t 1 (-23))) := by
    show UInt32.ofNat (Jvm.FP.Core.encode Jvm.FP.Core.b32 (Jvm.FP.Core.round Jvm.FP.Core.b32 (Jvm.FP.Core.exactSum (Jvm.FP.Core.decode Jvm.FP.Core.b32 (zFb 127 t).toNat) (Jvm.FP.Core.negate (Jvm.FP.Core.decode Jvm.FP.Core.b32 Jvm.FP.fconst1.toNat))))) = _
    rw [zFb_n (by omega) ht, zF_dec (by omega) ht, zF_c1, zF_dec (by omega) (by omega)]
    have hu : Jvm.FP.Core.sumUnits false (8388608 + t) (-149 + (((127 : Nat) : Int) - 1)) true (8388608 + 0) (-149 + (((127 : Nat) : Int) - 1)) (min (-149 + (((127 : Nat) : Int) - 1)) (-149 + (((127 : Nat) : Int) - 1))) = (t : Int) := by
      show (((8388608 + t) * 1 : Nat) : Int) + -(((8388608 + 0) * 1 : Nat) : Int) = _
      omega
    have hg : Jvm.FP.Core.sumSign false true (t : Int) = false := by
      unfold Jvm.FP.Core.sumSign
      split
      · rfl
      · exact decide_eq_false (by omega)
    have hx : Jvm.FP.Core.exactSum (.fin false (8388608 + t) (-149 + (((127 : Nat) : Int) - 1))) (Jvm.FP.Core.negate (.fin false (8388608 + 0) (-149 + (((127 : Nat) : Int) - 1)))) = .fin false t (-23) := by
      show Jvm.FP.Core.Datum.fin (Jvm.FP.Core.sumSign false true (Jvm.FP.Core.sumUnits false (8388608 + t) (-149 + (((127 : Nat) : Int) - 1)) true (8388608 + 0) (-149 + (((127 : Nat) : Int) - 1)) (min (-149 + (((127 : Nat) : Int) - 1)) (-149 + (((127 : Nat) : Int) - 1))))) (Jvm.FP.Core.sumUnits false (8388608 + t) (-149 + (((127 : Nat) : Int) - 1)) true (8388608 + 0) (-149 + (((127 : Nat) : Int) - 1)) (min (-149 + (((127 : Nat) : Int) - 1)) (-149 + (((127 : Nat) : Int) - 1)))).natAbs (min (-149 + (((127 : Nat) : Int) - 1)) (-149 + (((127 : Nat) : Int) - 1))) = _
      rw [hu, hg]
      rfl
    rw [hx]
    rfl
  by_cases h0 : t = 0
  · subst h0
    rw [hs]
    unfold vf_n32
    decide +kernel
  · obtain ⟨k, k1, k2, k3⟩ : ∃ k : Nat, 2 ^ k ≤ t ∧ t < 2 ^ (k + 1) ∧ k ≤ 22 := by
      refine ⟨t.log2, ((Nat.log2_eq_iff h0).mp rfl).1, ((Nat.log2_eq_iff h0).mp rfl).2, ?_⟩
      have := ((Nat.log2_eq_iff h0).mp rfl).1
      rcases Nat.lt_or_ge 22 t.log2 with g | g
      · have : 2 ^ 23 ≤ 2 ^ t.log2 := Nat.pow_le_pow_right (by decide) g
        omega
      · exact g
    have p1 : 2 ^ k * 2 ^ (23 - k) = 8388608 := by rw [← Nat.pow_add, show k + (23 - k) = 23 by omega]
    have p2 : 2 ^ (k + 1) * 2 ^ (23 - k) = 16777216 := by rw [← Nat.pow_add, show k + 1 + (23 - k) = 24 by omega]
    have b1 : 8388608 ≤ t * 2 ^ (23 - k) := by rw [← p1]; exact Nat.mul_le_mul_right _ k1
    have b2 : t * 2 ^ (23 - k) < 16777216 := by rw [← p2]; exact Nat.mul_lt_mul_of_pos_right k2 (Nat.two_pow_pos _)
    have e1 : Jvm.FP.Core.roundRatio Jvm.FP.Core.b32 false t 1 (-23) = .fin false (t * 2 ^ (23 - k)) (-23 + k - 23) := zF_exact k1 k2 (by rw [show k - 23 = 0 by omega, Nat.pow_zero, Nat.mul_one]) b2 (by omega)
    have e2 := zFb_e (c := t * 2 ^ (23 - k)) (q := -23 + (k : Int) - 23) ⟨b1, b2⟩ (by omega)
    rw [hs, e1, e2]
    have e3 : Jvm.FP.fmul (zFb ((-23 + (k : Int) - 23 + 149).toNat + 1) (t * 2 ^ (23 - k) - 8388608)) 1258291200 = zFb ((-23 + (k : Int) + 149).toNat + 1) (t * 2 ^ (23 - k) - 8388608) := by
      show UInt32.ofNat (Jvm.FP.Core.encode Jvm.FP.Core.b32 (Jvm.FP.Core.round Jvm.FP.Core.b32 (Jvm.FP.Core.exactProduct (Jvm.FP.Core.decode Jvm.FP.Core.b32 (zFb ((-23 + (k : Int) - 23 + 149).toNat + 1) (t * 2 ^ (23 - k) - 8388608)).toNat) (Jvm.FP.Core.decode Jvm.FP.Core.b32 (1258291200 : UInt32).toNat)))) = _
      rw [zFb_n (by omega) (by omega), zF_dec (by omega) (by omega), zF_c3, zF_dec (by omega) (by omega)]
      show UInt32.ofNat (Jvm.FP.Core.encode Jvm.FP.Core.b32 (Jvm.FP.Core.roundRatio Jvm.FP.Core.b32 false ((8388608 + (t * 2 ^ (23 - k) - 8388608)) * (8388608 + 0)) 1 (-149 + ((((-23 + (k : Int) - 23 + 149).toNat + 1 : Nat) : Int) - 1) + (-149 + (((150 : Nat) : Int) - 1))))) = _
      rw [zF_exact (k := 46) (c := t * 2 ^ (23 - k)) (by omega) (by omega) (by omega) (by omega) (by omega), zFb_e (by omega) (by omega)]
      exact zFb_c (by omega) (by omega)
    rw [e3]
    refine ⟨zFb_v (by omega) (by omega), zFb_v (by omega) (by omega), ?_⟩
    show Int32.ofInt (Jvm.FP.Core.toInt (-2 ^ 31) (2 ^ 31 - 1) (Jvm.FP.Core.decode Jvm.FP.Core.b32 (zFb ((-23 + (k : Int) + 149).toNat + 1) (t * 2 ^ (23 - k) - 8388608)).toNat)) = _
    rw [zFb_n (by omega) (by omega), zF_dec (by omega) (by omega)]
    have hq : (-149 : Int) + ((((-23 + (k : Int) + 149).toNat + 1 : Nat) : Int) - 1) = -((23 - k : Nat) : Int) := by omega
    rw [hq, show 8388608 + (t * 2 ^ (23 - k) - 8388608) = t * 2 ^ (23 - k) by omega]
    show Int32.ofInt (max (-2 ^ 31) (min (2 ^ 31 - 1) (((t * 2 ^ (23 - k) * 2 ^ (-((23 - k : Nat) : Int)).toNat / 2 ^ (- -((23 - k : Nat) : Int)).toNat : Nat) : Int)))) = _
    rw [show (-((23 - k : Nat) : Int)).toNat = 0 by omega, show (- -((23 - k : Nat) : Int)).toNat = 23 - k by omega, Nat.pow_zero, Nat.mul_one, Nat.mul_div_cancel _ (Nat.two_pow_pos _)]
    have hm : max (-2 ^ 31 : Int) (min (2 ^ 31 - 1) (t : Int)) = (t : Int) := by omega
    rw [hm]
    rfl
theorem zdv1 {u v w p : Nat} (hp : 0 < p) (h : u * p ≤ v * p + w) : u ≤ v + w := by
  rcases Nat.le_total u v with g | g
  · omega
  · obtain ⟨s, rfl⟩ := Nat.exists_eq_add_of_le g
    rw [Nat.add_mul] at h
    have := Nat.le_mul_of_pos_right s hp
    omega
theorem zF_l2f {n : Nat} (h : 131072 ≤ n ∧ n < 134217728) : ∃ (c : Nat) (q : Int), Jvm.FP.Core.decode Jvm.FP.Core.b32 (Jvm.FP.l2f (zL (n : Int))).toNat = .fin false c q ∧ (8388608 ≤ c ∧ c < 16777216) ∧ (-6 ≤ q ∧ q ≤ 4) ∧ 64 * n ≤ c * 2 ^ (q + 6).toNat + 256 ∧ c * 2 ^ (q + 6).toNat ≤ 64 * n + 256 := by
  obtain ⟨c, q, h1, h2, h3, h4, h5⟩ := zF_int h
  refine ⟨c, q, ?_, h2, h3, h4, h5⟩
  show Jvm.FP.Core.decode Jvm.FP.Core.b32 (UInt32.ofNat (Jvm.FP.Core.encode Jvm.FP.Core.b32 (Jvm.FP.Core.round Jvm.FP.Core.b32 (Jvm.FP.Core.ofInt (zL (n : Int)).toInt)))).toNat = _
  rw [zL_toInt (by omega), h1]
  have := zF_ed h2 (q := q) (by omega)
  rw [zU32 (by omega)]
  exact this.1
theorem zF_h {C N : Nat} (hN : 360000 ≤ N ∧ N ≤ 72000000) (h1 : N ≤ 2 * C) (h2 : 2 * C ≤ 3 * N) : ∃ e t : Nat, Jvm.FP.fdiv (Jvm.FP.l2f (zL (C : Int))) (Jvm.FP.l2f (zL (N : Int))) = zFb e t ∧ (125 ≤ e ∧ e ≤ 127) ∧ t < 8388608 := by
  obtain ⟨c, q, c1, c2, c3, c4, c5⟩ := zF_l2f (n := C) (by omega)
  obtain ⟨d, r, d1, d2, d3, d4, d5⟩ := zF_l2f (n := N) (by omega)
  have e0 : Jvm.FP.fdiv (Jvm.FP.l2f (zL (C : Int))) (Jvm.FP.l2f (zL (N : Int))) = UInt32.ofNat (Jvm.FP.Core.encode Jvm.FP.Core.b32 (Jvm.FP.Core.roundRatio Jvm.FP.Core.b32 false c d (q - r))) := by
    show UInt32.ofNat (Jvm.FP.Core.encode Jvm.FP.Core.b32 (Jvm.FP.Core.quotient Jvm.FP.Core.b32 (Jvm.FP.Core.decode Jvm.FP.Core.b32 (Jvm.FP.l2f (zL (C : Int))).toNat) (Jvm.FP.Core.decode Jvm.FP.Core.b32 (Jvm.FP.l2f (zL (N : Int))).toNat))) = _
    rw [c1, d1]
    show UInt32.ofNat (Jvm.FP.Core.encode Jvm.FP.Core.b32 (if d = 0 then _ else Jvm.FP.Core.roundRatio Jvm.FP.Core.b32 false c d (q - r))) = _
    rw [if_neg (by omega)]
  have fin : ∃ (x : Nat) (z : Int), Jvm.FP.Core.roundRatio Jvm.FP.Core.b32 false c d (q - r) = .fin false x z ∧ (8388608 ≤ x ∧ x < 16777216) ∧ (-25 ≤ z ∧ z ≤ -23) := by
    obtain ⟨x, L, x1, x2, x3⟩ := zF_quo (E := q - r) c2 d2 (by omega)
    have big : (L + (q - r) = 0 → x < 16777216) ∧ -2 ≤ L + (q - r) ∧ L + (q - r) ≤ 0 := by
      rcases Int.le_total r q with g | g
      · obtain ⟨k, hk⟩ : ∃ k : Nat, (k : Int) = q - r := ⟨(q - r).toNat, by omega⟩
        have pw : 2 ^ (q + 6).toNat = 2 ^ k * 2 ^ (r + 6).toNat := by rw [← Nat.pow_add]; congr 1; omega
        rw [pw, ← Nat.mul_assoc] at c4 c5
        have i1 : 2 * (c * 2 ^ k) ≤ 3 * d + 1280 := zdv1 (Nat.two_pow_pos (r + 6).toNat) (by rw [Nat.mul_assoc 2, Nat.mul_assoc 3]; omega)
        have i2 : d ≤ 2 * (c * 2 ^ k) + 768 := zdv1 (Nat.two_pow_pos (r + 6).toNat) (by rw [Nat.mul_assoc 2]; omega)
        rcases (show k = 0 ∨ k = 1 ∨ 2 ≤ k by omega) with rfl | rfl | k2
        · rw [Nat.pow_zero, Nat.mul_one] at i1 i2
          rcases x3 with ⟨y1, y2, y3⟩ | ⟨y1, y2, y3⟩
          · refine ⟨fun _ => ?_, by omega, by omega⟩
            rcases Nat.lt_or_ge x 16777216 with w | w
            · exact w
            · exfalso
              have := Nat.mul_le_mul_right d w
              omega
          · exact ⟨fun w => by omega, by omega, by omega⟩
        · rw [Nat.pow_one] at i1 i2
          rcases x3 with ⟨y1, y2, y3⟩ | ⟨y1, y2, y3⟩
          · exfalso; omega
          · refine ⟨fun _ => ?_, by omega, by omega⟩
            rcases Nat.lt_or_ge x 16777216 with w | w
            · exact w
            · exfalso
              have := Nat.mul_le_mul_right d w
              omega
        · exfalso
          have : 2 ^ 2 ≤ 2 ^ k := Nat.pow_le_pow_right (by decide) k2
          have := Nat.mul_le_mul_left c this
          omega
      · obtain ⟨k, hk⟩ : ∃ k : Nat, (k : Int) = r - q := ⟨(r - q).toNat, by omega⟩
        have pw : 2 ^ (r + 6).toNat = 2 ^ k * 2 ^ (q + 6).toNat := by rw [← Nat.pow_add]; congr 1; omega
        rw [pw, ← Nat.mul_assoc] at d4 d5
        have i1 : 2 * c ≤ 3 * (d * 2 ^ k) + 1280 := zdv1 (Nat.two_pow_pos (q + 6).toNat) (by rw [Nat.mul_assoc 2, Nat.mul_assoc 3]; omega)
        have i2 : d * 2 ^ k ≤ 2 * c + 768 := zdv1 (Nat.two_pow_pos (q + 6).toNat) (by rw [Nat.mul_assoc 2]; omega)
        rcases (show k = 0 ∨ k = 1 ∨ k = 2 ∨ 3 ≤ k by omega) with rfl | rfl | rfl | k2
        · rw [Nat.pow_zero, Nat.mul_one] at i1 i2
          rcases x3 with ⟨y1, y2, y3⟩ | ⟨y1, y2, y3⟩
          · refine ⟨fun _ => ?_, by omega, by omega⟩
            rcases Nat.lt_or_ge x 16777216 with w | w
            · exact w
            · exfalso
              have := Nat.mul_le_mul_right d w
              omega
          · exact ⟨fun w => by omega, by omega, by omega⟩
        · exact ⟨fun w => by omega, by omega, by omega⟩
        · exact ⟨fun w => by omega, by omega, by omega⟩
        · exfalso
          have : 2 ^ 3 ≤ 2 ^ k := Nat.pow_le_pow_right (by decide) k2
          have := Nat.mul_le_mul_left d this
          omega
    rw [x1]
    rcases Nat.lt_or_ge x 16777216 with w | w
    · exact ⟨x, L + (q - r) - 23, zF_settle w (by omega), ⟨x2.1, w⟩, by omega⟩
    · have hx : x = 16777216 := by omega
      have : L + (q - r) ≠ 0 := fun z => by have := big.1 z; omega
      rw [hx]
      exact ⟨8388608, L + (q - r) - 23 + 1, zF_carry (by omega), ⟨by omega, by omega⟩, by omega⟩
  obtain ⟨x, z, f1, f2, f3⟩ := fin
  rw [e0, f1, zFb_e f2 (by omega)]
  exact ⟨_, _, rfl, by omega, by omega⟩
end ZFQ
