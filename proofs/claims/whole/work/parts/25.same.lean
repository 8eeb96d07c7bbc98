/-! the text: the reference reads it as the class does -/
theorem zRun {f : Int → Int} (g : Int → Int) {L p n : Int} (hp : 0 ≤ p) (hs : zAs f p.toNat = (n, 0, 0, 0)) : ∀ j : Nat, j ≤ 5 → (∀ k, p + zMin f L p ≤ k → k < p + zMin f L p + (j : Int) → zFig f L k) → zAs f (p + zMin f L p + (j : Int)).toNat = (n, zNm f (p + zMin f L p) j, (j : Int), zMin f L p) ∧ (∀ k, p ≤ k → k < p + zMin f L p + (j : Int) → zAk (zAs f k.toNat) (f k) ≠ 0) ∧ zAg f g (p + zMin f L p + (j : Int)).toNat = zAg f g p.toNat
  | 0, _, _ => by
    rw [show ((0 : Nat) : Int) = 0 from rfl, Int.add_zero]
    show _ = (n, (0 : Int), (0 : Int), zMin f L p) ∧ _
    rcases zMin_r f L p with ⟨m1, m2, m3⟩ | ⟨m1, m2⟩
    · rw [m1, zAs_s f hp, zAg_s f g hp, hs, zAt_a m3, zAh_a _ m3]
      refine ⟨rfl, fun k a b => ?_, rfl⟩
      rw [show k = p by omega, hs, zAk_a m3]
      decide
    · rw [m1, Int.add_zero]
      exact ⟨hs, fun k a b => by omega, rfl⟩
  | j + 1, hj, h => by
    have hm := zMin_r f L p
    have hc : ((j + 1 : Nat) : Int) = (j : Int) + 1 := by omega
    rw [hc] at h ⊢
    obtain ⟨i1, i2, i3⟩ := zRun g hp hs j (by omega) (fun k a b => h k a (by omega))
    have hf : 48 ≤ f (p + zMin f L p + (j : Int)) ∧ f (p + zMin f L p + (j : Int)) ≤ 57 := (h (p + zMin f L p + (j : Int)) (by omega) (by omega)).2
    rw [← Int.add_assoc, zAs_s f (by omega), zAg_s f g (by omega), i1, i3, zAt_b hf, zAh_b _ hf]
    refine ⟨?_, fun k a b => ?_, rfl⟩
    · show _ = (n, 10 * zNm f (p + zMin f L p) j + f (p + zMin f L p + (j : Int)) - 48, (j : Int) + 1, zMin f L p)
      rw [Int.add_sub_assoc]
    · rcases Int.lt_or_le k (p + zMin f L p + (j : Int)) with q | q
      · exact i2 k a q
      · rw [show k = p + zMin f L p + (j : Int) by omega, i1, zAk_b hf, zB_t (by omega)]
        decide
theorem zRune {f : Int → Int} (g : Int → Int) {L p n : Int} (hp : 0 ≤ p ∧ p ≤ L) (hs : zAs f p.toNat = (n, 0, 0, 0)) : ∃ j : Int, (0 ≤ j ∧ j ≤ 5) ∧ zFE f L (p + zMin f L p) = p + zMin f L p + j ∧ p + zMin f L p + j ≤ L ∧ (j < 5 → ¬ zFig f L (p + zMin f L p + j)) ∧ zAs f (p + zMin f L p + j).toNat = (n, zNm f (p + zMin f L p) j.toNat, j, zMin f L p) ∧ (∀ k, p ≤ k → k < p + zMin f L p + j → zAk (zAs f k.toNat) (f k) ≠ 0) ∧ zAg f g (p + zMin f L p + j).toNat = zAg f g p.toNat := by
  obtain ⟨j, h1, h2, h3, h4⟩ := zFE_r f L (p + zMin f L p)
  have hm := zMin_r f L p
  have r := zRun (L := L) g hp.1 hs j.toNat (by omega) (fun k a b => h3 k a (by omega))
  rw [Int.toNat_of_nonneg h1.1] at r
  refine ⟨j, h1, h2, ?_, h4, r⟩
  rcases Int.lt_or_le 0 j with q | q
  · have := (h3 (p + zMin f L p + j - 1) (by omega) (by omega)).1
    omega
  · omega
theorem zNum_t {f : Int → Int} (g : Int → Int) {L p n : Int} (hp : 0 ≤ p ∧ p ≤ L) (hs : zAs f p.toNat = (n, 0, 0, 0)) (hr : zRok f L n (p + zMin f L p)) : zAs f (zFE f L (p + zMin f L p) + 1).toNat = (n + 1, 0, 0, 0) ∧ (∀ k, p ≤ k → k < zFE f L (p + zMin f L p) + 1 → zAk (zAs f k.toNat) (f k) ≠ 0) ∧ zAg f g (zFE f L (p + zMin f L p) + 1).toNat = zU (zAg f g p.toNat) n (zSg (zMin f L p) (zNm f (p + zMin f L p) (zFE f L (p + zMin f L p) - (p + zMin f L p)).toNat)) ∧ p + 2 ≤ zFE f L (p + zMin f L p) + 1 ∧ zFE f L (p + zMin f L p) + 1 ≤ L := by
  obtain ⟨j, h1, h2, h3, h4, i1, i2, i3⟩ := zRune (L := L) g hp hs
  have hm := zMin_r f L p
  obtain ⟨r1, r2, r3, r4⟩ := hr
  rw [h2] at r1 r2 r3 r4 ⊢
  have c3 : f (p + zMin f L p + j) = zSep n ∧ j ≠ 0 := ⟨r4, by omega⟩
  rw [zAs_s f (by omega), zAg_s f g (by omega), i1, i3, zAt_c c3, zAh_c _ c3]
  refine ⟨rfl, fun k a b => ?_, ?_, by omega, by omega⟩
  · rcases Int.lt_or_le k (p + zMin f L p + j) with q | q
    · exact i2 k a q
    · rw [show k = p + zMin f L p + j by omega, i1, zAk_c c3]
      decide
  · rw [show (p + zMin f L p + j - (p + zMin f L p)) = j by omega]
theorem zNum_f {f : Int → Int} {L p n : Int} (hp : 0 ≤ p ∧ p ≤ L) (hs : zAs f p.toNat = (n, 0, 0, 0)) (ho : ∀ k, 0 ≤ k → k < p → zAk (zAs f k.toNat) (f k) ≠ 0) (hr : ¬ zRok f L n (p + zMin f L p)) (hc : p < L ∨ n % 3 ≠ 0) : zRd f L = zFE f L (p + zMin f L p) ∧ 0 ≤ zFE f L (p + zMin f L p) ∧ zFE f L (p + zMin f L p) ≤ L := by
  obtain ⟨j, h1, h2, h3, h4, i1, i2, i3⟩ := zRune (L := L) f hp hs
  have hm := zMin_r f L p
  have hall : ∀ k, 0 ≤ k → k < p + zMin f L p + j → zAk (zAs f k.toNat) (f k) ≠ 0 := fun k a b => by
    rcases Int.lt_or_le k p with q | q
    · exact ho k a q
    · exact i2 k q b
  refine ⟨?_, by omega, by omega⟩
  rw [h2]
  rcases Int.lt_or_le (p + zMin f L p + j) L with q | q
  · have hz : zAk (zAs f (p + zMin f L p + j).toNat) (f (p + zMin f L p + j)) = 0 := by
      rw [i1]
      by_cases c1 : f (p + zMin f L p + j) = 45
      · rw [zAk_a c1]
        refine zB_f (fun ⟨d1, d2⟩ => ?_)
        rw [d1, d2] at c1
        rw [Int.add_zero, Int.add_zero] at c1
        omega
      by_cases c2 : 48 ≤ f (p + zMin f L p + j) ∧ f (p + zMin f L p + j) ≤ 57
      · rw [zAk_b c2]
        refine zB_f (fun d1 => ?_)
        exact h4 (by omega) ⟨q, c2⟩
      · refine zAk_d c1 c2 (fun ⟨d1, d2⟩ => hr ?_)
        unfold zRok
        rw [h2]
        exact ⟨by omega, fun d3 => c2 d3.2, q, d1⟩
    have e9 : zEr f L = p + zMin f L p + j := zEr_eq (by omega) hall (fun _ => hz)
    unfold zRd
    rw [e9, if_pos q]
  · have e8 : p + zMin f L p + j = L := by omega
    have e9 : zEr f L = L := zEr_eq (by omega) (fun k a b => hall k a (by omega)) (fun d => by omega)
    unfold zRd
    rw [e9, if_neg (by omega), if_neg, e8]
    rw [← e8, i1]
    show ¬ (n % 3 = 0 ∧ j = 0 ∧ zMin f L p = 0)
    omega
theorem zNum_e {f : Int → Int} {L n : Int} (hL : 0 ≤ L) (hs : zAs f L.toNat = (n, 0, 0, 0)) (ho : ∀ k, 0 ≤ k → k < L → zAk (zAs f k.toNat) (f k) ≠ 0) (hc : n % 3 = 0) : zRd f L = -1 ∧ zRk f L = L.toNat := by
  have e9 : zEr f L = L := zEr_eq (by omega) ho (fun d => by omega)
  constructor
  · unfold zRd
    rw [e9, if_neg (by omega), hs, if_pos ⟨hc, rfl, rfl⟩]
  · unfold zRk
    rw [e9, if_neg (by omega)]
theorem zAg_c {f : Int → Int} (g h : Int → Int) : ∀ (k : Nat) (j : Int), (∀ i : Int, 0 ≤ i → i < k → zAk (zAs f i.toNat) (f i) ≠ 0) → 0 ≤ j → j < (zAs f k).1 → zAg f g k j = zAg f h k j
  | 0, j, _, a, b => absurd b (by show ¬ j < (0 : Int); omega)
  | k + 1, j, o, a, b => by
    have ih := zAg_c (f := f) g h k
    have ho : ∀ i : Int, 0 ≤ i → i < k → zAk (zAs f i.toNat) (f i) ≠ 0 := fun i a b => o i a (by omega)
    have b1 : j < (zAt (zAs f k) (f (k : Int))).1 := b
    show zAh (zAs f k) (f (k : Int)) (zAg f g k) j = zAh (zAs f k) (f (k : Int)) (zAg f h k) j
    have ih9 := ih j ho a
    revert b1 ih9
    generalize zAs f k = s9
    obtain ⟨c, n, d, e⟩ := s9
    intro b1 ih9
    have ih9 : j < c → zAg f g k j = zAg f h k j := ih9
    by_cases c1 : f (k : Int) = 45
    · rw [zAt_a c1] at b1
      rw [zAh_a _ c1, zAh_a _ c1]
      exact ih9 b1
    by_cases c2 : 48 ≤ f (k : Int) ∧ f (k : Int) ≤ 57
    · rw [zAt_b c2] at b1
      rw [zAh_b _ c2, zAh_b _ c2]
      exact ih9 b1
    by_cases c3 : f (k : Int) = zSep c ∧ d ≠ 0
    · rw [zAt_c c3] at b1
      have b1 : j < c + 1 := b1
      rw [zAh_c _ c3, zAh_c _ c3]
      simp only [zU]
      by_cases c4 : j = c
      · rw [if_pos c4, if_pos c4]
      · rw [if_neg c4, if_neg c4]
        exact ih9 (by omega)
    · unfold zAt at b1
      rw [zIf3_d c1 c2 c3] at b1
      unfold zAh
      rw [zIf3_d c1 c2 c3]
      exact ih9 b1
