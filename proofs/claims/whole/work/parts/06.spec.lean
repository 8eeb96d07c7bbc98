/-! the mathematical value: one table A of integers (places as in the reference's 'all'), and what the calls do to it -/
def zclamp (v a b : Int) : Int := if v < a then a else if b < v then b else v
theorem zclamp_r {v a b : Int} (h : a ≤ b) : a ≤ zclamp v a b ∧ zclamp v a b ≤ b := by unfold zclamp; split <;> (try split) <;> omega
theorem zclamp_mm {v a b : Int} (h : a ≤ b) : min (max v a) b = zclamp v a b := by unfold zclamp; split <;> (try split) <;> omega
theorem zclamp_mono {v w a b : Int} (h : v ≤ w) (hab : a ≤ b) : zclamp v a b ≤ zclamp w a b := by unfold zclamp; split <;> (try split) <;> (try split) <;> (try split) <;> omega
def zRng (A : Int → Int) : Int := A 37 * A 3 / 100
def zHys (A : Int → Int) : Int := A 39 * 1000 / zRng A
def zK (s : Int) : Int := if s / 1000 < 9 then s / 1000 else 9
def zBr (A : Int → Int) (w s : Int) : Int := A (w + zK s) + (A (w + zK s + 1) - A (w + zK s)) * (s - 1000 * zK s) / 1000
def zV (A : Int → Int) (s h : Int) : Int := zBr A 12 s + (zBr A 23 s - zBr A 12 s) * h / 1000
def zFst (P : Int → Bool) : Nat → Int → Int
  | 0, s => s
  | n + 1, s => if P s then s else zFst P n (s + 1)
def zInv (A : Int → Int) (v h : Int) : Int := zFst (fun s => decide (v ≤ zV A s h)) 10000 0
def zMov (A : Int → Int) (i t : Int) : Int := if 0 < i then i * t * A 0 / 1000 else i * t
def zDrf (A : Int → Int) (c t : Int) : Int := A 1 * t / 1000 + max c (-c) * A 2 / 1000000
def zLow (A : Int → Int) (i t : Int) : Int := zclamp (A 35 + zMov A i t - zDrf A (zMov A i t) t) 0 (A 37)
def zHigh (A : Int → Int) (i t : Int) : Int := zclamp (A 36 + zMov A i t + zDrf A (zMov A i t) t) 0 (A 37)
def zCnt (A : Int → Int) (i t : Int) : Int → Int :=
  zU (zU (zU (zU (zU (zU (zU A 34 (zclamp (A 34 + zMov A i t) 0 (A 37))) 35 (zLow A i t)) 36 (zHigh A i t)) 39 (zclamp (A 39 + zMov A i t) 0 (zRng A))) 41 (A 41 + max (zMov A i t) (-zMov A i t))) 40 (A 40 + zMov A i t)) 42 (A 42 + t)
def zSpan (A : Int → Int) (s : Int) : Int := max (s - A 49) (-(s - A 49))
def zSeen (A : Int → Int) (s : Int) : Int := max (A 40) (-A 40) * 10000 / zSpan A s
def zLearns (A : Int → Int) (s : Int) : Prop := A 48 ≠ 0 ∧ A 11 ≤ zSpan A s ∧ A 40 ≠ 0 ∧ (0 < A 40 ↔ A 49 < s) ∧ A 38 / 2 ≤ zSeen A s ∧ zSeen A s ≤ A 38 * 3 / 2
/-- the capacity after a learning, and what it brings down -/
def zCap (A : Int → Int) (s : Int) : Int := A 37 + (zSeen A s - A 37) / 4
def zLrn1 (A : Int → Int) (s : Int) : Int → Int :=
  zU (zU (zU (zU (zU (zU A 37 (zCap A s)) 51 (A 51 + 1)) 34 (min (A 34) (zCap A s))) 35 (min (A 35) (zCap A s))) 36 (min (A 36) (zCap A s))) 39 (min (A 39) (zCap A s * A 3 / 100))
noncomputable def zLrn (A : Int → Int) (s : Int) : Int → Int := @ite _ (zLearns A s) (Classical.propDecidable _) (zLrn1 A s) A
theorem zLrn_t {A : Int → Int} {s : Int} (h : zLearns A s) : zLrn A s = zLrn1 A s := by unfold zLrn; rw [if_pos h]
theorem zLrn_f {A : Int → Int} {s : Int} (h : ¬ zLearns A s) : zLrn A s = A := by unfold zLrn; rw [if_neg h]
def zLogS (A : Int → Int) : Int → Int := if A 52 = 40 then zU (zC A A 57 53 156) 52 39 else A
def zLog (A : Int → Int) (k s : Int) : Int → Int :=
  zU (zU (zU (zU (zU (zLogS A) (53 + 4 * zLogS A 52) k) (53 + 4 * zLogS A 52 + 1) s) (53 + 4 * zLogS A 52 + 2) (A 42)) (53 + 4 * zLogS A 52 + 3) (A 37)) 52 (zLogS A 52 + 1)
def zBnd (A : Int → Int) (s0 s1 : Int) : Int → Int :=
  if A 37 * s1 / 10000 < A 35 ∨ A 36 < A 37 * s0 / 10000 then zU (zU (zU A 50 (A 50 + 1)) 35 (A 37 * s0 / 10000)) 36 (A 37 * s1 / 10000)
  else zU (zU A 35 (max (A 35) (A 37 * s0 / 10000))) 36 (min (A 36) (A 37 * s1 / 10000))
def zQcl (A : Int → Int) (s : Int) : Int → Int := zU (zU (zU (zU A 34 (zclamp (A 34) (A 35) (A 36))) 40 0) 48 1) 49 s
noncomputable def zAnc (A : Int → Int) (k s s0 s1 : Int) : Int → Int := zLog (zQcl (zBnd (zLrn A s) s0 s1) s) k s
def zRests (A : Int → Int) (i v : Int) : Prop := -A 4 ≤ i ∧ i ≤ A 4 ∧ A 45 = 1 ∧ max (v - A 46) (-(v - A 46)) ≤ A 5
def zFulls (A : Int → Int) (i v : Int) : Prop := 0 ≤ i ∧ i ≤ A 9 ∧ A 8 ≤ v
def zEmpties (A : Int → Int) (i v : Int) : Prop := i < 0 ∧ v ≤ A 10
noncomputable def zI_f (P : Prop) (x y : Int) : Int := @ite _ P (Classical.propDecidable _) x y
theorem zI_ft {P : Prop} (h : P) (x y : Int) : zI_f P x y = x := by unfold zI_f; rw [if_pos h]
theorem zI_ff {P : Prop} (h : ¬ P) (x y : Int) : zI_f P x y = y := by unfold zI_f; rw [if_neg h]
noncomputable def zS_f (P : Prop) (x y : Int → Int) : Int → Int := @ite _ P (Classical.propDecidable _) x y
theorem zS_ft {P : Prop} (h : P) (x y : Int → Int) : zS_f P x y = x := by unfold zS_f; rw [if_pos h]
theorem zS_ff {P : Prop} (h : ¬ P) (x y : Int → Int) : zS_f P x y = y := by unfold zS_f; rw [if_neg h]
/-- the steps of a measurement -/
noncomputable def zRst (A : Int → Int) (i v t : Int) : Int → Int := zU A 43 (zI_f (zRests A i v) (A 43 + t) 0)
noncomputable def zFul (A : Int → Int) (i v t : Int) : Int → Int := zU A 44 (zI_f (zFulls A i v) (A 44 + t) 0)
noncomputable def zT2 (A : Int → Int) (i v t : Int) : Int → Int := zRst (zCnt A i t) i v t
def zP1 (A : Int → Int) (i v t : Int) : Prop := zCnt A i t 43 < zCnt A i t 6 ∧ zCnt A i t 6 ≤ zT2 A i v t 43
noncomputable def zT3 (A : Int → Int) (i v t : Int) : Int → Int := zS_f (zP1 A i v t) (zAnc (zT2 A i v t) 0 (zInv (zT2 A i v t) v (zHys (zT2 A i v t))) (zInv (zT2 A i v t) (v - zT2 A i v t 7) (zHys (zT2 A i v t))) (zInv (zT2 A i v t) (v + zT2 A i v t 7) (zHys (zT2 A i v t)))) (zT2 A i v t)
noncomputable def zT4 (A : Int → Int) (i v t : Int) : Int → Int := zFul (zT3 A i v t) i v t
def zP2 (A : Int → Int) (i v t : Int) : Prop := zT3 A i v t 44 < 60 ∧ 60 ≤ zT4 A i v t 44
noncomputable def zT5 (A : Int → Int) (i v t : Int) : Int → Int := zS_f (zP2 A i v t) (zAnc (zT4 A i v t) 1 10000 10000 10000) (zT4 A i v t)
def zP3 (A : Int → Int) (i v t : Int) : Prop := zEmpties (zT5 A i v t) i v ∧ zT5 A i v t 47 = 0
noncomputable def zT6 (A : Int → Int) (i v t : Int) : Int → Int := zS_f (zP3 A i v t) (zAnc (zT5 A i v t) 2 0 0 0) (zT5 A i v t)
noncomputable def zTr (A : Int → Int) (i v t : Int) : Int → Int := zU (zU (zU (zT6 A i v t) 47 (zI_f (zEmpties (zT5 A i v t) i v) 1 0)) 45 1) 46 v
noncomputable def zBits (A : Int → Int) (i v t : Int) : Int := zI_f (zP1 A i v t) 1 0 + zI_f (zP2 A i v t) 2 0 + zI_f (zP3 A i v t) 4 0
noncomputable def zMany (A : Int → Int) (i v t : Int) : Int := zI_f (zP1 A i v t) 1 0 + zI_f (zP2 A i v t) 1 0 + zI_f (zP3 A i v t) 1 0
/-- the voltage that is kept, or none -/
def zlv (A : Int → Int) : Int := if A 45 = 1 then A 46 else -1
/-- a table from a place on -/
def zO (A : Int → Int) (o : Int) : Int → Int := fun j => A (o + j)
/-- what always holds; n: a count of steps so far -/
def zSt (A : Int → Int) : Prop := (900 ≤ A 0 ∧ A 0 ≤ 1000) ∧ (0 ≤ A 1 ∧ A 1 ≤ 10000) ∧ (0 ≤ A 2 ∧ A 2 ≤ 20000) ∧ (1 ≤ A 3 ∧ A 3 ≤ 50) ∧ (0 ≤ A 4 ∧ A 4 ≤ 1000) ∧ (0 ≤ A 5 ∧ A 5 ≤ 100) ∧ (1 ≤ A 6 ∧ A 6 ≤ 10000) ∧ (0 ≤ A 7 ∧ A 7 ≤ 50) ∧ (2000 ≤ A 8 ∧ A 8 ≤ 5000) ∧ (0 ≤ A 9 ∧ A 9 ≤ 10000) ∧ (1000 ≤ A 10 ∧ A 10 ≤ 4000) ∧ (500 ≤ A 11 ∧ A 11 ≤ 10000)
/-- what the curves keep -/
def zCv (A : Int → Int) : Prop := (∀ k : Int, 0 ≤ k → k ≤ 10 → 2000 ≤ A (12 + k) ∧ A (12 + k) ≤ A (23 + k) ∧ A (23 + k) ≤ 5000) ∧ (∀ k : Int, 0 ≤ k → k < 10 → A (12 + k) < A (12 + k + 1) ∧ A (23 + k) < A (23 + k + 1))
def zSc (n : Int) (A : Int → Int) : Prop := (360000 ≤ A 38 ∧ A 38 ≤ 72000000 ∧ A 38 % 2 = 0) ∧ (A 38 ≤ 2 * A 37 ∧ 2 * A 37 ≤ 3 * A 38)
  ∧ (0 ≤ A 34 ∧ A 34 ≤ A 37) ∧ (0 ≤ A 35 ∧ A 35 ≤ A 36 ∧ A 36 ≤ A 37) ∧ (0 ≤ A 39 ∧ A 39 ≤ zRng A)
  ∧ (-(n * 30000000) ≤ A 40 ∧ A 40 ≤ n * 30000000) ∧ (0 ≤ A 41 ∧ A 41 ≤ n * 30000000) ∧ (0 ≤ A 42 ∧ A 42 ≤ n * 600) ∧ (0 ≤ A 43 ∧ A 43 ≤ n * 600) ∧ (0 ≤ A 44 ∧ A 44 ≤ n * 600)
  ∧ (0 ≤ A 45 ∧ A 45 ≤ 1) ∧ (0 ≤ A 46 ∧ A 46 ≤ 6000) ∧ (0 ≤ A 47 ∧ A 47 ≤ 1) ∧ (0 ≤ A 48 ∧ A 48 ≤ 1) ∧ (0 ≤ A 49 ∧ A 49 ≤ 10000) ∧ (0 ≤ A 50 ∧ A 50 ≤ n) ∧ (0 ≤ A 51 ∧ A 51 ≤ n) ∧ (0 ≤ A 52 ∧ A 52 ≤ 40)
def zRw (A : Int → Int) : Prop := (A 48 = 0 ↔ A 52 = 0) ∧ (0 < A 52 → A (53 + 4 * (A 52 - 1) + 1) = A 49) ∧ (∀ k : Int, 0 ≤ k → k < 160 → 0 ≤ A (53 + k) ∧ A (53 + k) ≤ 2000000000)
def zOK (n : Int) (A : Int → Int) : Prop := zSt A ∧ zCv A ∧ zSc n A ∧ zRw A
theorem zOK_s {n : Int} {A : Int → Int} (h : zOK n A) : (900 ≤ A 0 ∧ A 0 ≤ 1000) ∧ (0 ≤ A 1 ∧ A 1 ≤ 10000) ∧ (0 ≤ A 2 ∧ A 2 ≤ 20000) ∧ (1 ≤ A 3 ∧ A 3 ≤ 50) ∧ (0 ≤ A 4 ∧ A 4 ≤ 1000) ∧ (0 ≤ A 5 ∧ A 5 ≤ 100) ∧ (1 ≤ A 6 ∧ A 6 ≤ 10000) ∧ (0 ≤ A 7 ∧ A 7 ≤ 50) ∧ (2000 ≤ A 8 ∧ A 8 ≤ 5000) ∧ (0 ≤ A 9 ∧ A 9 ≤ 10000) ∧ (1000 ≤ A 10 ∧ A 10 ≤ 4000) ∧ (500 ≤ A 11 ∧ A 11 ≤ 10000) := h.1
theorem zOK_c {n : Int} {A : Int → Int} (h : zOK n A) : zCv A := h.2.1
theorem zOK_q {n : Int} {A : Int → Int} (h : zOK n A) : (360000 ≤ A 38 ∧ A 38 ≤ 72000000 ∧ A 38 % 2 = 0) ∧ (A 38 ≤ 2 * A 37 ∧ 2 * A 37 ≤ 3 * A 38)
  ∧ (0 ≤ A 34 ∧ A 34 ≤ A 37) ∧ (0 ≤ A 35 ∧ A 35 ≤ A 36 ∧ A 36 ≤ A 37) ∧ (0 ≤ A 39 ∧ A 39 ≤ zRng A)
  ∧ (-(n * 30000000) ≤ A 40 ∧ A 40 ≤ n * 30000000) ∧ (0 ≤ A 41 ∧ A 41 ≤ n * 30000000) ∧ (0 ≤ A 42 ∧ A 42 ≤ n * 600) ∧ (0 ≤ A 43 ∧ A 43 ≤ n * 600) ∧ (0 ≤ A 44 ∧ A 44 ≤ n * 600)
  ∧ (0 ≤ A 45 ∧ A 45 ≤ 1) ∧ (0 ≤ A 46 ∧ A 46 ≤ 6000) ∧ (0 ≤ A 47 ∧ A 47 ≤ 1) ∧ (0 ≤ A 48 ∧ A 48 ≤ 1) ∧ (0 ≤ A 49 ∧ A 49 ≤ 10000) ∧ (0 ≤ A 50 ∧ A 50 ≤ n) ∧ (0 ≤ A 51 ∧ A 51 ≤ n) ∧ (0 ≤ A 52 ∧ A 52 ≤ 40)
  ∧ (A 48 = 0 ↔ A 52 = 0) ∧ (0 < A 52 → A (53 + 4 * (A 52 - 1) + 1) = A 49) ∧ (∀ k : Int, 0 ≤ k → k < 160 → 0 ≤ A (53 + k) ∧ A (53 + k) ≤ 2000000000) := by
  obtain ⟨-, -, ⟨a1, a2, a3, a4, a5, a6, a7, a8, a9, a10, a11, a12, a13, a14, a15, a16, a17, a18⟩, b1, b2, b3⟩ := h
  exact ⟨a1, a2, a3, a4, a5, a6, a7, a8, a9, a10, a11, a12, a13, a14, a15, a16, a17, a18, b1, b2, b3⟩
theorem zOK_mono {n m : Int} {A : Int → Int} (h : zOK n A) (hnm : n ≤ m) : zOK m A := by
  obtain ⟨h1, h2, ⟨a1, a2, a3, a4, a5, a6, a7, a8, a9, a10, a11, a12, a13, a14, a15, a16, a17, a18⟩, h4⟩ := h
  exact ⟨h1, h2, ⟨a1, a2, a3, a4, a5, by omega, by omega, by omega, by omega, by omega, a11, a12, a13, a14, a15, by omega, by omega, a18⟩, h4⟩
/-- a new table that agrees on settings and curves -/
theorem zOK_of {n m : Int} {A A2 : Int → Int} (h : zOK n A) (e : ∀ k : Int, 0 ≤ k → k < 34 → A2 k = A k) (hs : zSc m A2) (hr : zRw A2) : zOK m A2 := by
  refine ⟨?_, ⟨fun k a b => ?_, fun k a b => ?_⟩, hs, hr⟩
  · have h1 := h.1
    unfold zSt at h1 ⊢
    rw [e 0 (by decide) (by decide), e 1 (by decide) (by decide), e 2 (by decide) (by decide), e 3 (by decide) (by decide), e 4 (by decide) (by decide), e 5 (by decide) (by decide), e 6 (by decide) (by decide), e 7 (by decide) (by decide), e 8 (by decide) (by decide), e 9 (by decide) (by decide), e 10 (by decide) (by decide), e 11 (by decide) (by decide)]
    exact h1
  · rw [e (12 + k) (by omega) (by omega), e (23 + k) (by omega) (by omega)]
    exact h.2.1.1 k a b
  · rw [e (12 + k) (by omega) (by omega), e (23 + k) (by omega) (by omega), e (12 + k + 1) (by omega) (by omega), e (23 + k + 1) (by omega) (by omega)]
    exact h.2.1.2 k a b
theorem zRw_of {A A2 : Int → Int} (h : zRw A) (e1 : A2 48 = A 48) (e2 : A2 49 = A 49) (e3 : A2 52 = A 52) (e : ∀ k : Int, 53 ≤ k → k < 213 → A2 k = A k) (hm : 0 ≤ A 52 ∧ A 52 ≤ 40) : zRw A2 := by
  obtain ⟨b1, b2, b3⟩ := h
  refine ⟨by rw [e1, e3]; exact b1, fun q => ?_, fun k a b => ?_⟩
  · rw [e3] at q ⊢
    rw [e _ (by omega) (by omega), e2]
    exact b2 q
  · rw [e _ (by omega) (by omega)]
    exact b3 k a b
