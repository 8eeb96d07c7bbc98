/-! floats: a quotient near 1, its bits -/
section ZFP
theorem zF_T : Jvm.FP.Core.b32.tails = 8388608 := by decide
theorem zF_E : Jvm.FP.Core.b32.exps = 256 := by decide
theorem zF_q : Jvm.FP.Core.b32.qmin = -149 := by decide
theorem zF_Q : Jvm.FP.Core.b32.qmax = 104 := by decide
theorem zF_dec {e t : Nat} (he : 1 ≤ e ∧ e ≤ 254) (ht : t < 8388608) : Jvm.FP.Core.decode Jvm.FP.Core.b32 (e * 8388608 + t) = .fin false (8388608 + t) (-149 + ((e : Int) - 1)) := by
  unfold Jvm.FP.Core.decode Jvm.FP.Core.fieldE Jvm.FP.Core.fieldT Jvm.FP.Core.fieldS
  rw [zF_T, zF_E, zF_q]
  have h1 : (e * 8388608 + t) / 8388608 = e := by omega
  have h2 : (e * 8388608 + t) % 8388608 = t := by omega
  rw [h1, h2]
  have h3 : e % 256 = e := Nat.mod_eq_of_lt (by omega)
  have h4 : e / 256 = 0 := by omega
  rw [h3, h4, if_neg (by omega), if_neg (by omega)]
  rfl
theorem zF_enc {c : Nat} {q : Int} (hc : 8388608 ≤ c) : Jvm.FP.Core.encode Jvm.FP.Core.b32 (.fin false c q) = ((q + 149).toNat + 1) * 8388608 + (c - 8388608) := by
  unfold Jvm.FP.Core.encode
  show (if c < Jvm.FP.Core.b32.tails then _ else _) = _
  rw [zF_T, if_neg (by omega)]
  unfold Jvm.FP.Core.assemble
  rw [zF_T, zF_E, zF_q]
  show (0 * 256 + ((q - -149).toNat + 1)) * 8388608 + (c - 8388608) = _
  rw [show q - -149 = q + 149 by omega]
  omega
theorem zF_ed {c : Nat} {q : Int} (hc : 8388608 ≤ c ∧ c < 16777216) (hq : -149 ≤ q ∧ q ≤ 104) : Jvm.FP.Core.decode Jvm.FP.Core.b32 (Jvm.FP.Core.encode Jvm.FP.Core.b32 (.fin false c q)) = .fin false c q ∧ Jvm.FP.Core.encode Jvm.FP.Core.b32 (.fin false c q) < 2139095040 := by
  rw [zF_enc hc.1]
  refine ⟨?_, by omega⟩
  rw [zF_dec (by omega) (by omega), show 8388608 + (c - 8388608) = c by omega, show (-149 : Int) + ((((q + 149).toNat + 1 : Nat) : Int) - 1) = q by omega]
theorem zF_log {n k : Nat} (h : 2 ^ k ≤ n) (h2 : n < 2 ^ (k + 1)) : n.log2 = k := by
  have : n ≠ 0 := by
    have := Nat.two_pow_pos k
    omega
  exact (Nat.log2_eq_iff this).mpr ⟨h, h2⟩
theorem zF_lead {n k : Nat} (h : 2 ^ k ≤ n) (h2 : n < 2 ^ (k + 1)) : Jvm.FP.Core.leading n 1 = (k : Int) := by
  unfold Jvm.FP.Core.leading
  rw [zF_log h h2, show Nat.log2 1 = 0 by decide]
  show (if 1 * 2 ^ ((k : Int) - 0).toNat ≤ n * 2 ^ (-((k : Int) - 0)).toNat then (k : Int) - 0 else _) = _
  rw [show ((k : Int) - 0).toNat = k by omega, show (-((k : Int) - 0)).toNat = 0 by omega, if_pos (by omega)]
  omega
theorem zF_near (n d : Nat) (hd : 0 < d) : (Jvm.FP.Core.nearest n d = n / d ∨ Jvm.FP.Core.nearest n d = n / d + 1) ∧ 2 * n ≤ 2 * (Jvm.FP.Core.nearest n d * d) + d ∧ 2 * (Jvm.FP.Core.nearest n d * d) ≤ 2 * n + d := by
  have h1 := Nat.div_add_mod n d
  have h2 := Nat.mod_lt n hd
  have e1 : n / d * d = d * (n / d) := Nat.mul_comm _ _
  have e2 : (n / d + 1) * d = d * (n / d) + d := by rw [Nat.add_mul, Nat.one_mul, e1]
  unfold Jvm.FP.Core.nearest
  by_cases c1 : 2 * (n % d) < d
  · rw [if_pos c1, e1]
    exact ⟨Or.inl rfl, by omega, by omega⟩
  · rw [if_neg c1]
    by_cases c2 : d < 2 * (n % d)
    · rw [if_pos c2, e2]
      exact ⟨Or.inr rfl, by omega, by omega⟩
    · rw [if_neg c2]
      rcases Nat.mod_two_eq_zero_or_one (n / d) with c3 | c3
      · rw [c3, Nat.add_zero, e1]
        exact ⟨Or.inl rfl, by omega, by omega⟩
      · rw [c3, e2]
        exact ⟨Or.inr rfl, by omega, by omega⟩
theorem zF_near1 (c d : Nat) (hd : 0 < d) : Jvm.FP.Core.nearest (c * d) d = c := by
  unfold Jvm.FP.Core.nearest
  rw [Nat.mul_mod_left, if_pos (by omega), Nat.mul_div_cancel _ hd]
theorem zF_settle {c : Nat} {q : Int} (hc : c < 16777216) (hq : q ≤ 104) : Jvm.FP.Core.settle Jvm.FP.Core.b32 false c q = .fin false c q := by
  unfold Jvm.FP.Core.settle Jvm.FP.Core.bound
  rw [zF_Q, show Jvm.FP.Core.b32.p = 24 from rfl, if_pos (by omega), if_pos hq]
theorem zF_carry {q : Int} (hq : q + 1 ≤ 104) : Jvm.FP.Core.settle Jvm.FP.Core.b32 false 16777216 q = .fin false 8388608 (q + 1) := by
  unfold Jvm.FP.Core.settle Jvm.FP.Core.bound
  rw [zF_Q, zF_T, show Jvm.FP.Core.b32.p = 24 from rfl, if_neg (by omega), if_pos hq]
/-- a number that the format has -/
theorem zF_exact {n k c : Nat} {e : Int} (h : 2 ^ k ≤ n) (h2 : n < 2 ^ (k + 1)) (hc : n * 2 ^ (23 - k) = c * 2 ^ (k - 23)) (hc2 : c < 16777216) (he : -149 ≤ e + k - 23 ∧ e + k - 23 ≤ 104) : Jvm.FP.Core.roundRatio Jvm.FP.Core.b32 false n 1 e = .fin false c (e + k - 23) := by
  have hn : n ≠ 0 := by
    have := Nat.two_pow_pos k
    omega
  unfold Jvm.FP.Core.roundRatio Jvm.FP.Core.roundAt Jvm.FP.Core.quantum Jvm.FP.Core.unitsNum Jvm.FP.Core.unitsDen
  rw [if_neg hn, zF_lead h h2, zF_q, show Jvm.FP.Core.b32.p = 24 from rfl]
  have hm : max (-149 : Int) ((k : Int) + e - (((24 : Nat) : Int) - 1)) = e + k - 23 := by omega
  rw [hm, show (e - (e + (k : Int) - 23)).toNat = 23 - k by omega, show (e + (k : Int) - 23 - e).toNat = k - 23 by omega, hc, Nat.one_mul, zF_near1 _ _ (Nat.two_pow_pos _)]
  exact zF_settle hc2 he.2
/-- a whole number as a float -/
theorem zF_int {n : Nat} (h : 131072 ≤ n ∧ n < 134217728) : ∃ (c : Nat) (q : Int), Jvm.FP.Core.round Jvm.FP.Core.b32 (Jvm.FP.Core.ofInt (n : Int)) = .fin false c q ∧ (8388608 ≤ c ∧ c < 16777216) ∧ (-6 ≤ q ∧ q ≤ 4) ∧ 64 * n ≤ c * 2 ^ (q + 6).toNat + 256 ∧ c * 2 ^ (q + 6).toNat ≤ 64 * n + 256 := by
  have e0 : Jvm.FP.Core.round Jvm.FP.Core.b32 (Jvm.FP.Core.ofInt (n : Int)) = Jvm.FP.Core.roundRatio Jvm.FP.Core.b32 false n 1 0 := by
    unfold Jvm.FP.Core.ofInt Jvm.FP.Core.round
    rw [show decide ((n : Int) < 0) = false from decide_eq_false (by omega), Int.natAbs_natCast]
  rw [e0]
  have key : ∀ k : Nat, 17 ≤ k → k ≤ 23 → 2 ^ k ≤ n → n < 2 ^ (k + 1) → ∃ (c : Nat) (q : Int), Jvm.FP.Core.roundRatio Jvm.FP.Core.b32 false n 1 0 = .fin false c q ∧ (8388608 ≤ c ∧ c < 16777216) ∧ (-6 ≤ q ∧ q ≤ 4) ∧ 64 * n ≤ c * 2 ^ (q + 6).toNat + 256 ∧ c * 2 ^ (q + 6).toNat ≤ 64 * n + 256 := by
    intro k k1 k2 h1 h2
    have p1 : 2 ^ k * 2 ^ (23 - k) = 8388608 := by rw [← Nat.pow_add, show k + (23 - k) = 23 by omega]
    have p2 : 2 ^ (k + 1) * 2 ^ (23 - k) = 16777216 := by rw [← Nat.pow_add, show k + 1 + (23 - k) = 24 by omega]
    have b1 : 8388608 ≤ n * 2 ^ (23 - k) := by rw [← p1]; exact Nat.mul_le_mul_right _ h1
    have b2 : n * 2 ^ (23 - k) < 16777216 := by rw [← p2]; exact Nat.mul_lt_mul_of_pos_right h2 (Nat.two_pow_pos _)
    refine ⟨n * 2 ^ (23 - k), 0 + (k : Int) - 23, zF_exact (e := 0) h1 h2 ?_ b2 (by omega), ⟨b1, b2⟩, by omega, ?_⟩
    · rw [show k - 23 = 0 by omega, Nat.pow_zero, Nat.mul_one]
    · have p3 : n * 2 ^ (23 - k) * 2 ^ (0 + (k : Int) - 23 + 6).toNat = 64 * n := by
        rw [Nat.mul_assoc, ← Nat.pow_add, show 23 - k + (0 + (k : Int) - 23 + 6).toNat = 6 by omega, Nat.mul_comm]
      rw [p3]
      omega
  have key2 : ∀ j : Nat, 1 ≤ j → j ≤ 3 → 2 ^ (j + 23) ≤ n → n < 2 ^ (j + 23 + 1) → ∃ (c : Nat) (q : Int), Jvm.FP.Core.roundRatio Jvm.FP.Core.b32 false n 1 0 = .fin false c q ∧ (8388608 ≤ c ∧ c < 16777216) ∧ (-6 ≤ q ∧ q ≤ 4) ∧ 64 * n ≤ c * 2 ^ (q + 6).toNat + 256 ∧ c * 2 ^ (q + 6).toNat ≤ 64 * n + 256 := by
    intro j j1 j2 h1 h2
    have hn : n ≠ 0 := by omega
    have hp := Nat.two_pow_pos j
    have hj8 : 2 ^ j ≤ 8 := by
      rcases (show j = 1 ∨ j = 2 ∨ j = 3 by omega) with rfl | rfl | rfl <;> decide
    have e1 : Jvm.FP.Core.roundRatio Jvm.FP.Core.b32 false n 1 0 = Jvm.FP.Core.settle Jvm.FP.Core.b32 false (Jvm.FP.Core.nearest n (2 ^ j)) (j : Int) := by
      unfold Jvm.FP.Core.roundRatio Jvm.FP.Core.roundAt Jvm.FP.Core.quantum Jvm.FP.Core.unitsNum Jvm.FP.Core.unitsDen
      rw [if_neg hn, zF_lead h1 h2, zF_q, show Jvm.FP.Core.b32.p = 24 from rfl]
      have hm : max (-149 : Int) (((j + 23 : Nat) : Int) + 0 - (((24 : Nat) : Int) - 1)) = (j : Int) := by omega
      rw [hm, show (0 - (j : Int)).toNat = 0 by omega, show ((j : Int) - 0).toNat = j by omega, Nat.pow_zero, Nat.mul_one, Nat.one_mul]
    obtain ⟨hd, h3, h4⟩ := zF_near n (2 ^ j) hp
    have d1 : 8388608 ≤ n / 2 ^ j := (Nat.le_div_iff_mul_le hp).mpr (by have q := h1; rw [Nat.pow_add] at q; omega)
    have d2 : n / 2 ^ j < 16777216 := (Nat.div_lt_iff_lt_mul hp).mpr (by have q := h2; rw [Nat.pow_succ, Nat.pow_add] at q; omega)
    rw [e1]
    generalize Jvm.FP.Core.nearest n (2 ^ j) = x at hd h3 h4
    have p6 : 2 ^ ((j : Int) + 6).toNat = 2 ^ j * 64 := by rw [show ((j : Int) + 6).toNat = j + 6 by omega, Nat.pow_add]
    have m1 : x * (2 ^ j * 64) = 64 * (x * 2 ^ j) := by rw [← Nat.mul_assoc, Nat.mul_comm]
    by_cases hx : x < 16777216
    · refine ⟨x, (j : Int), zF_settle hx (by omega), ⟨by omega, hx⟩, by omega, ?_⟩
      rw [p6, m1]
      omega
    · have hx : x = 16777216 := by omega
      subst hx
      refine ⟨8388608, (j : Int) + 1, zF_carry (by omega), ⟨by omega, by omega⟩, by omega, ?_⟩
      have p7 : 2 ^ ((j : Int) + 1 + 6).toNat = 2 ^ j * 128 := by rw [show ((j : Int) + 1 + 6).toNat = j + 7 by omega, Nat.pow_add]
      rw [p7]
      omega
  have : n < 2 ^ 24 ∨ 2 ^ 24 ≤ n := by omega
  rcases (show (131072 ≤ n ∧ n < 262144) ∨ (262144 ≤ n ∧ n < 524288) ∨ (524288 ≤ n ∧ n < 1048576) ∨ (1048576 ≤ n ∧ n < 2097152) ∨ (2097152 ≤ n ∧ n < 4194304) ∨ (4194304 ≤ n ∧ n < 8388608) ∨ (8388608 ≤ n ∧ n < 16777216) ∨ (16777216 ≤ n ∧ n < 33554432) ∨ (33554432 ≤ n ∧ n < 67108864) ∨ (67108864 ≤ n ∧ n < 134217728) by omega) with k | k | k | k | k | k | k | k | k | k
  · exact key 17 (by decide) (by decide) k.1 k.2
  · exact key 18 (by decide) (by decide) k.1 k.2
  · exact key 19 (by decide) (by decide) k.1 k.2
  · exact key 20 (by decide) (by decide) k.1 k.2
  · exact key 21 (by decide) (by decide) k.1 k.2
  · exact key 22 (by decide) (by decide) k.1 k.2
  · exact key 23 (by decide) (by decide) k.1 k.2
  · exact key2 1 (by decide) (by decide) k.1 k.2
  · exact key2 2 (by decide) (by decide) k.1 k.2
  · exact key2 3 (by decide) (by decide) k.1 k.2
/-- a quotient of two significands -/
theorem zF_quo {c d : Nat} {E : Int} (hc : 8388608 ≤ c ∧ c < 16777216) (hd : 8388608 ≤ d ∧ d < 16777216) (hE : -20 ≤ E ∧ E ≤ 20) : ∃ (x : Nat) (L : Int), Jvm.FP.Core.roundRatio Jvm.FP.Core.b32 false c d E = Jvm.FP.Core.settle Jvm.FP.Core.b32 false x (L + E - 23) ∧ (8388608 ≤ x ∧ x ≤ 16777216) ∧ ((d ≤ c ∧ L = 0 ∧ 2 * (x * d) ≤ 2 * (c * 8388608) + d) ∨ (c < d ∧ L = -1 ∧ 2 * (x * d) ≤ 2 * (c * 16777216) + d)) := by
  have lc : c.log2 = 23 := zF_log (k := 23) hc.1 hc.2
  have ld : d.log2 = 23 := zF_log (k := 23) hd.1 hd.2
  have hn : c ≠ 0 := by omega
  by_cases h : d ≤ c
  · have e1 : Jvm.FP.Core.leading c d = 0 := by
      unfold Jvm.FP.Core.leading
      rw [lc, ld]
      show (if d * 2 ^ (0 : Nat) ≤ c * 2 ^ (0 : Nat) then (0 : Int) else _) = 0
      rw [if_pos (by omega)]
    have e2 : Jvm.FP.Core.roundRatio Jvm.FP.Core.b32 false c d E = Jvm.FP.Core.settle Jvm.FP.Core.b32 false (Jvm.FP.Core.nearest (c * 8388608) d) (0 + E - 23) := by
      unfold Jvm.FP.Core.roundRatio Jvm.FP.Core.roundAt Jvm.FP.Core.quantum Jvm.FP.Core.unitsNum Jvm.FP.Core.unitsDen
      rw [if_neg hn, e1, zF_q, show Jvm.FP.Core.b32.p = 24 from rfl]
      have hm : max (-149 : Int) (0 + E - (((24 : Nat) : Int) - 1)) = 0 + E - 23 := by omega
      rw [hm, show (E - (0 + E - 23)).toNat = 23 by omega, show (0 + E - 23 - E).toNat = 0 by omega, Nat.pow_zero, Nat.mul_one]
    obtain ⟨h1, h2, h3⟩ := zF_near (c * 8388608) d (by omega)
    have d1 : 8388608 ≤ c * 8388608 / d := (Nat.le_div_iff_mul_le (by omega)).mpr (by rw [Nat.mul_comm]; exact Nat.mul_le_mul_right _ h)
    have d2 : c * 8388608 / d < 16777216 := (Nat.div_lt_iff_lt_mul (by omega)).mpr (by omega)
    exact ⟨_, 0, e2, by omega, Or.inl ⟨h, rfl, h3⟩⟩
  · have e1 : Jvm.FP.Core.leading c d = -1 := by
      unfold Jvm.FP.Core.leading
      rw [lc, ld]
      show (if d * 2 ^ (0 : Nat) ≤ c * 2 ^ (0 : Nat) then (0 : Int) else _) = _
      rw [if_neg (by omega)]
      rfl
    have e2 : Jvm.FP.Core.roundRatio Jvm.FP.Core.b32 false c d E = Jvm.FP.Core.settle Jvm.FP.Core.b32 false (Jvm.FP.Core.nearest (c * 16777216) d) (-1 + E - 23) := by
      unfold Jvm.FP.Core.roundRatio Jvm.FP.Core.roundAt Jvm.FP.Core.quantum Jvm.FP.Core.unitsNum Jvm.FP.Core.unitsDen
      rw [if_neg hn, e1, zF_q, show Jvm.FP.Core.b32.p = 24 from rfl]
      have hm : max (-149 : Int) (-1 + E - (((24 : Nat) : Int) - 1)) = -1 + E - 23 := by omega
      rw [hm, show (E - (-1 + E - 23)).toNat = 24 by omega, show (-1 + E - 23 - E).toNat = 0 by omega, Nat.pow_zero, Nat.mul_one]
    obtain ⟨h1, h2, h3⟩ := zF_near (c * 16777216) d (by omega)
    have d1 : 8388608 ≤ c * 16777216 / d := (Nat.le_div_iff_mul_le (by omega)).mpr (by omega)
    have d2 : c * 16777216 / d < 16777216 := (Nat.div_lt_iff_lt_mul (by omega)).mpr (by omega)
    exact ⟨_, -1, e2, by omega, Or.inr ⟨by omega, rfl, h3⟩⟩
theorem zU32 {n : Nat} (h : n < 4294967296) : (UInt32.ofNat n).toNat = n := by
  first | exact UInt32.toNat_ofNat_of_lt' h | exact UInt32.toNat_ofNat_of_lt h | (show n % 4294967296 = n; exact Nat.mod_eq_of_lt h)
end ZFP
