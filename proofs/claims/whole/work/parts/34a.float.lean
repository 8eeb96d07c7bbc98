/-! floats: the calls cycles and healthBits -/
section ZFD
theorem zD_T : Jvm.FP.Core.b64.tails = 4503599627370496 := by decide
theorem zD_E : Jvm.FP.Core.b64.exps = 2048 := by decide
theorem zD_q : Jvm.FP.Core.b64.qmin = -1074 := by decide
theorem zD_Q : Jvm.FP.Core.b64.qmax = 971 := by decide
theorem zD_dec {e t : Nat} (he : 1 ≤ e ∧ e ≤ 2046) (ht : t < 4503599627370496) : Jvm.FP.Core.decode Jvm.FP.Core.b64 (e * 4503599627370496 + t) = .fin false (4503599627370496 + t) (-1074 + ((e : Int) - 1)) := by
  unfold Jvm.FP.Core.decode Jvm.FP.Core.fieldE Jvm.FP.Core.fieldT Jvm.FP.Core.fieldS
  rw [zD_T, zD_E, zD_q]
  have h1 : (e * 4503599627370496 + t) / 4503599627370496 = e := by omega
  have h2 : (e * 4503599627370496 + t) % 4503599627370496 = t := by omega
  rw [h1, h2]
  have h3 : e % 2048 = e := Nat.mod_eq_of_lt (by omega)
  have h4 : e / 2048 = 0 := by omega
  rw [h3, h4, if_neg (by omega), if_neg (by omega)]
  rfl
theorem zD_enc {c : Nat} {q : Int} (hc : 4503599627370496 ≤ c) : Jvm.FP.Core.encode Jvm.FP.Core.b64 (.fin false c q) = ((q + 1074).toNat + 1) * 4503599627370496 + (c - 4503599627370496) := by
  unfold Jvm.FP.Core.encode
  show (if c < Jvm.FP.Core.b64.tails then _ else _) = _
  rw [zD_T, if_neg (by omega)]
  unfold Jvm.FP.Core.assemble
  rw [zD_T, zD_E, zD_q]
  show (0 * 2048 + ((q - -1074).toNat + 1)) * 4503599627370496 + (c - 4503599627370496) = _
  rw [show q - -1074 = q + 1074 by omega]
  omega
theorem zD_int {n : Nat} (h : 0 < n ∧ n < 9007199254740992) : ∃ (c : Nat) (q : Int), Jvm.FP.Core.decode Jvm.FP.Core.b64 (Jvm.FP.l2d (zL (n : Int))).toNat = .fin false c q ∧ c ≠ 0 := by
  obtain ⟨k, k1, k2, k3⟩ : ∃ k : Nat, 2 ^ k ≤ n ∧ n < 2 ^ (k + 1) ∧ k ≤ 52 := by
    have hn : n ≠ 0 := by omega
    refine ⟨n.log2, ((Nat.log2_eq_iff hn).mp rfl).1, ((Nat.log2_eq_iff hn).mp rfl).2, ?_⟩
    have := ((Nat.log2_eq_iff hn).mp rfl).1
    rcases Nat.lt_or_ge 52 n.log2 with g | g
    · have : 2 ^ 53 ≤ 2 ^ n.log2 := Nat.pow_le_pow_right (by decide) g
      omega
    · exact g
  have p1 : 2 ^ k * 2 ^ (52 - k) = 4503599627370496 := by rw [← Nat.pow_add, show k + (52 - k) = 52 by omega]
  have p2 : 2 ^ (k + 1) * 2 ^ (52 - k) = 9007199254740992 := by rw [← Nat.pow_add, show k + 1 + (52 - k) = 53 by omega]
  have b1 : 4503599627370496 ≤ n * 2 ^ (52 - k) := by rw [← p1]; exact Nat.mul_le_mul_right _ k1
  have b2 : n * 2 ^ (52 - k) < 9007199254740992 := by rw [← p2]; exact Nat.mul_lt_mul_of_pos_right k2 (Nat.two_pow_pos _)
  have hn : n ≠ 0 := by omega
  have e1 : Jvm.FP.Core.roundRatio Jvm.FP.Core.b64 false n 1 0 = .fin false (n * 2 ^ (52 - k)) ((k : Int) - 52) := by
    unfold Jvm.FP.Core.roundRatio Jvm.FP.Core.roundAt Jvm.FP.Core.quantum Jvm.FP.Core.unitsNum Jvm.FP.Core.unitsDen
    rw [if_neg hn, zF_lead k1 k2, zD_q, show Jvm.FP.Core.b64.p = 53 from rfl]
    have hm : max (-1074 : Int) ((k : Int) + 0 - (((53 : Nat) : Int) - 1)) = (k : Int) - 52 := by omega
    rw [hm, show (0 - ((k : Int) - 52)).toNat = 52 - k by omega, show ((k : Int) - 52 - 0).toNat = 0 by omega, Nat.pow_zero, Nat.mul_one]
    have := zF_near1 (n * 2 ^ (52 - k)) 1 (by decide)
    rw [Nat.mul_one] at this
    rw [this]
    unfold Jvm.FP.Core.settle Jvm.FP.Core.bound
    rw [zD_Q, show Jvm.FP.Core.b64.p = 53 from rfl, if_pos (by omega), if_pos (by omega)]
  have e0 : (Jvm.FP.l2d (zL (n : Int))) = UInt64.ofNat (Jvm.FP.Core.encode Jvm.FP.Core.b64 (Jvm.FP.Core.roundRatio Jvm.FP.Core.b64 false n 1 0)) := by
    show UInt64.ofNat (Jvm.FP.Core.encode Jvm.FP.Core.b64 (Jvm.FP.Core.round Jvm.FP.Core.b64 (Jvm.FP.Core.ofInt (zL (n : Int)).toInt))) = _
    rw [zL_toInt (by omega)]
    unfold Jvm.FP.Core.ofInt Jvm.FP.Core.round
    rw [show decide ((n : Int) < 0) = false from decide_eq_false (by omega), Int.natAbs_natCast]
  refine ⟨n * 2 ^ (52 - k), (k : Int) - 52, ?_, by omega⟩
  rw [e0, e1, zD_enc b1]
  have hv : (UInt64.ofNat (((((k : Int) - 52) + 1074).toNat + 1) * 4503599627370496 + (n * 2 ^ (52 - k) - 4503599627370496))).toNat = ((((k : Int) - 52) + 1074).toNat + 1) * 4503599627370496 + (n * 2 ^ (52 - k) - 4503599627370496) := by
    first | exact UInt64.toNat_ofNat_of_lt' (by show _ < 18446744073709551616; omega) | (show _ % 18446744073709551616 = _; exact Nat.mod_eq_of_lt (by omega))
  rw [hv, zD_dec (by omega) (by omega), show 4503599627370496 + (n * 2 ^ (52 - k) - 4503599627370496) = n * 2 ^ (52 - k) by omega, show (-1074 : Int) + ((((((k : Int) - 52) + 1074).toNat + 1 : Nat) : Int) - 1) = (k : Int) - 52 by omega]
/-- whatever is rounded is no NaN -/
theorem zD_le (num den : Nat) (e : Int) : Jvm.FP.Core.encode Jvm.FP.Core.b64 (Jvm.FP.Core.roundRatio Jvm.FP.Core.b64 false num den e) ≤ 9218868437227405312 := by
  have hb : ∀ (c : Nat) (q : Int), c < 9007199254740992 → Jvm.FP.Core.encode Jvm.FP.Core.b64 (Jvm.FP.Core.bound Jvm.FP.Core.b64 false c q) ≤ 9218868437227405312 := by
    intro c q hc
    unfold Jvm.FP.Core.bound
    rw [zD_Q]
    by_cases h : q ≤ 971
    · rw [if_pos h]
      by_cases h2 : c < 4503599627370496
      · unfold Jvm.FP.Core.encode
        show (if c < Jvm.FP.Core.b64.tails then _ else _) ≤ _
        rw [zD_T, if_pos h2]
        unfold Jvm.FP.Core.assemble
        rw [zD_T, zD_E]
        show (0 * 2048 + 0) * 4503599627370496 + c ≤ _
        omega
      · rw [zD_enc (by omega)]
        omega
    · rw [if_neg h]
      decide
  unfold Jvm.FP.Core.roundRatio
  split
  · decide
  · unfold Jvm.FP.Core.roundAt Jvm.FP.Core.settle
    rw [show Jvm.FP.Core.b64.p = 53 from rfl, zD_T]
    split
    · exact hb _ _ (by assumption)
    · exact hb _ _ (by decide)
theorem zD_v {x y : Nat} (hx : x < 9007199254740992) (hy : 0 < y ∧ y < 9007199254740992) : vf_n64 (Jvm.FP.ddiv (Jvm.FP.l2d (zL (x : Int))) (Jvm.FP.l2d (zL (y : Int)))) := by
  obtain ⟨d, r, d1, d2⟩ := zD_int hy
  have key : ∃ (c : Nat) (q : Int), Jvm.FP.Core.decode Jvm.FP.Core.b64 (Jvm.FP.l2d (zL (x : Int))).toNat = .fin false c q := by
    rcases Nat.eq_zero_or_pos x with rfl | h
    · exact ⟨0, -1074, by decide +kernel⟩
    · obtain ⟨c, q, c1, -⟩ := zD_int ⟨h, hx⟩
      exact ⟨c, q, c1⟩
  obtain ⟨c, q, c1⟩ := key
  have e0 : Jvm.FP.ddiv (Jvm.FP.l2d (zL (x : Int))) (Jvm.FP.l2d (zL (y : Int))) = UInt64.ofNat (Jvm.FP.Core.encode Jvm.FP.Core.b64 (Jvm.FP.Core.roundRatio Jvm.FP.Core.b64 false c d (q - r))) := by
    show UInt64.ofNat (Jvm.FP.Core.encode Jvm.FP.Core.b64 (Jvm.FP.Core.quotient Jvm.FP.Core.b64 (Jvm.FP.Core.decode Jvm.FP.Core.b64 (Jvm.FP.l2d (zL (x : Int))).toNat) (Jvm.FP.Core.decode Jvm.FP.Core.b64 (Jvm.FP.l2d (zL (y : Int))).toNat))) = _
    rw [c1, d1]
    show UInt64.ofNat (Jvm.FP.Core.encode Jvm.FP.Core.b64 (if d = 0 then _ else Jvm.FP.Core.roundRatio Jvm.FP.Core.b64 false c d (q - r))) = _
    rw [if_neg d2]
  have hle := zD_le c d (q - r)
  rw [e0]
  generalize Jvm.FP.Core.encode Jvm.FP.Core.b64 (Jvm.FP.Core.roundRatio Jvm.FP.Core.b64 false c d (q - r)) = z at hle
  unfold vf_n64
  have hz : (UInt64.ofNat z).toNat = z := by
    first | exact UInt64.toNat_ofNat_of_lt' (by show _ < 18446744073709551616; omega) | (show _ % 18446744073709551616 = _; exact Nat.mod_eq_of_lt (by omega))
  rw [UInt64.le_iff_toNat_le, UInt64.toNat_and, hz]
  show z &&& 9223372036854775807 ≤ 9218868437227405312
  rw [show (9223372036854775807 : Nat) = 2 ^ 63 - 1 from rfl, Nat.and_two_pow_sub_one_eq_mod]
  omega
theorem zF_hA {n : Int} {A : Int → Int} (hI : zOK n A) : ∃ e t : Nat, Jvm.FP.fdiv (Jvm.FP.l2f (zL (A 37))) (Jvm.FP.l2f (zL (A 38))) = zFb e t ∧ (125 ≤ e ∧ e ≤ 127) ∧ t < 8388608 := by
  have q := zOK_q hI
  have h := zF_h (C := (A 37).toNat) (N := (A 38).toNat) (by omega) (by omega) (by omega)
  rw [Int.toNat_of_nonneg (by omega), Int.toNat_of_nonneg (by omega)] at h
  exact h
def zHB (A : Int → Int) : Int := ((Jvm.FP.fdiv (Jvm.FP.l2f (zL (A 37))) (Jvm.FP.l2f (zL (A 38)))).toNat : Int)
theorem zFb_i {e t : Nat} (he : e ≤ 254) (ht : t < 8388608) : (zFb e t).toInt32 = zI ((e * 8388608 + t : Nat) : Int) := by
  unfold zI zFb
  apply Int32.toBitVec_inj.mp
  show BitVec.ofNat 32 (e * 8388608 + t) = BitVec.ofInt 32 ((e * 8388608 + t : Nat) : Int)
  rw [BitVec.ofInt_natCast]
theorem zF_self {e t : Nat} (he : 1 ≤ e ∧ e ≤ 254) (ht : t < 8388608) : Jvm.FP.fcmp (zFb e t) (zFb e t) = some .eq := by
  unfold Jvm.FP.fcmp Jvm.FP.Core.fcmp Jvm.FP.Core.cmp
  rw [zFb_n he.2 ht, zF_dec he ht, zF_ord]
  exact congrArg some (Int.compare_eq_eq.mpr rfl)
end ZFD
