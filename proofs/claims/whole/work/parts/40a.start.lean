/-! the law: its start -/
theorem zEv {args : Array Value} {s : State} {t : Term} {z : Int32} (h : (Cond.eq t (.int z)).before args s = true) : t.eval args s none [] s = some (.int z) := by
  cases hv : t.eval args s none [] s with
  | none => simp [Cond.before, Cond.holds, Cond.value, hv] at h
  | some w =>
    have hz : (Term.int z).eval args s none [] s = some (.int z) := rfl
    simp only [Cond.before, Cond.holds, Cond.value, hv, hz] at h
    cases w <;> simp_all
theorem zEw {args : Array Value} {s : State} {t : Term} {z z2 : Int32} (h : (Cond.eq t (.int z)).before args s = true) (e : z = z2) : t.eval args s none [] s = some (.int z2) := by rw [← e]; exact zEv h
theorem zEx {args : Array Value} {s : State} {t : Term} {C : String} (h : (Cond.exactly t C).before args s = true) : ∃ a : Nat, t.eval args s none [] s = some (.ref a) := by
  cases hv : t.eval args s none [] s with
  | none => simp [Cond.before, Cond.holds, Cond.value, hv] at h
  | some w =>
    cases w with
    | ref a => exact ⟨a, rfl⟩
    | _ =>
      simp only [Cond.before, Cond.holds, Cond.value, hv] at h
      revert h
      cases s.vm.findClass C <;> simp
set_option maxRecDepth 100000 in
theorem zSt_INITIAL_SETTING {args : Array Value} {s : State} (hq : ∀ w ∈ flatC (Jvm.Cond.and given_1 narrow_1), w.before args s = true) (hts0 : ∀ w ∈ lw_tbl, w.before args s = true) : zSZ (fun z => s.heap.size ≤ z) s s.heap "ChargeEstimator" "INITIAL_SETTING" 12 zIni := by
  have hA : ∀ a : Nat, a < s.heap.size → ¬ (fun z => s.heap.size ≤ z) a := fun a h => Nat.not_le.mpr h
  have hel : ∀ j : Nat, j < 12 → (Term.elem (.static "ChargeEstimator" "INITIAL_SETTING" "[I") (.int (Int32.ofNat j))).eval args s none [] s = some (.int (zA zIni j)) := by
    intro j hj
    rcases (show j = 0 ∨ j = 1 ∨ j = 2 ∨ j = 3 ∨ j = 4 ∨ j = 5 ∨ j = 6 ∨ j = 7 ∨ j = 8 ∨ j = 9 ∨ j = 10 ∨ j = 11 by omega) with rfl | rfl | rfl | rfl | rfl | rfl | rfl | rfl | rfl | rfl | rfl | rfl
    · exact zEw (hq (.eq (.elem (.static "ChargeEstimator" "INITIAL_SETTING" "[I") (.int 0)) (.int 995)) (by decide +kernel)) (by decide +kernel)
    · exact zEw (hq (.eq (.elem (.static "ChargeEstimator" "INITIAL_SETTING" "[I") (.int 1)) (.int 500)) (by decide +kernel)) (by decide +kernel)
    · exact zEw (hq (.eq (.elem (.static "ChargeEstimator" "INITIAL_SETTING" "[I") (.int 2)) (.int 5000)) (by decide +kernel)) (by decide +kernel)
    · exact zEw (hq (.eq (.elem (.static "ChargeEstimator" "INITIAL_SETTING" "[I") (.int 3)) (.int 10)) (by decide +kernel)) (by decide +kernel)
    · exact zEw (hq (.eq (.elem (.static "ChargeEstimator" "INITIAL_SETTING" "[I") (.int 4)) (.int 20)) (by decide +kernel)) (by decide +kernel)
    · exact zEw (hq (.eq (.elem (.static "ChargeEstimator" "INITIAL_SETTING" "[I") (.int 5)) (.int 2)) (by decide +kernel)) (by decide +kernel)
    · exact zEw (hq (.eq (.elem (.static "ChargeEstimator" "INITIAL_SETTING" "[I") (.int 6)) (.int 1800)) (by decide +kernel)) (by decide +kernel)
    · exact zEw (hq (.eq (.elem (.static "ChargeEstimator" "INITIAL_SETTING" "[I") (.int 7)) (.int 5)) (by decide +kernel)) (by decide +kernel)
    · exact zEw (hq (.eq (.elem (.static "ChargeEstimator" "INITIAL_SETTING" "[I") (.int 8)) (.int 4150)) (by decide +kernel)) (by decide +kernel)
    · exact zEw (hq (.eq (.elem (.static "ChargeEstimator" "INITIAL_SETTING" "[I") (.int 9)) (.int 100)) (by decide +kernel)) (by decide +kernel)
    · exact zEw (hq (.eq (.elem (.static "ChargeEstimator" "INITIAL_SETTING" "[I") (.int 10)) (.int 2900)) (by decide +kernel)) (by decide +kernel)
    · exact zEw (hq (.eq (.elem (.static "ChargeEstimator" "INITIAL_SETTING" "[I") (.int 11)) (.int 4000)) (by decide +kernel)) (by decide +kernel)
  obtain ⟨t, h1, h2⟩ := va_Tof (tm := (.static "ChargeEstimator" "INITIAL_SETTING" "[I")) (ty := .int) (N := 12) (f := fun j => .int (zA zIni j)) (A := fun z => s.heap.size ≤ z) (by decide) (hq (.arrayOf (.static "ChargeEstimator" "INITIAL_SETTING" "[I") .int) (by decide +kernel)) (zEw (hq (.eq (.length (.static "ChargeEstimator" "INITIAL_SETTING" "[I")) (.int 12)) (by decide +kernel)) (by decide +kernel)) hel hA
  exact ⟨t, va_Zref (hts0 (.laysStatic "ChargeEstimator" "INITIAL_SETTING" "[I") (by decide +kernel)) (hts0 (.initialized "ChargeEstimator") (by decide +kernel)) h1 hA, h2⟩
set_option maxRecDepth 100000 in
theorem zSt_INITIAL_LOWER {args : Array Value} {s : State} (hq : ∀ w ∈ flatC (Jvm.Cond.and given_1 narrow_1), w.before args s = true) (hts0 : ∀ w ∈ lw_tbl, w.before args s = true) : zSZ (fun z => s.heap.size ≤ z) s s.heap "ChargeEstimator$Curves" "INITIAL_LOWER" 11 zIlo := by
  have hA : ∀ a : Nat, a < s.heap.size → ¬ (fun z => s.heap.size ≤ z) a := fun a h => Nat.not_le.mpr h
  have hel : ∀ j : Nat, j < 11 → (Term.elem (.static "ChargeEstimator$Curves" "INITIAL_LOWER" "[I") (.int (Int32.ofNat j))).eval args s none [] s = some (.int (zA zIlo j)) := by
    intro j hj
    rcases (show j = 0 ∨ j = 1 ∨ j = 2 ∨ j = 3 ∨ j = 4 ∨ j = 5 ∨ j = 6 ∨ j = 7 ∨ j = 8 ∨ j = 9 ∨ j = 10 by omega) with rfl | rfl | rfl | rfl | rfl | rfl | rfl | rfl | rfl | rfl | rfl
    · exact zEw (hq (.eq (.elem (.static "ChargeEstimator$Curves" "INITIAL_LOWER" "[I") (.int 0)) (.int 3000)) (by decide +kernel)) (by decide +kernel)
    · exact zEw (hq (.eq (.elem (.static "ChargeEstimator$Curves" "INITIAL_LOWER" "[I") (.int 1)) (.int 3300)) (by decide +kernel)) (by decide +kernel)
    · exact zEw (hq (.eq (.elem (.static "ChargeEstimator$Curves" "INITIAL_LOWER" "[I") (.int 2)) (.int 3450)) (by decide +kernel)) (by decide +kernel)
    · exact zEw (hq (.eq (.elem (.static "ChargeEstimator$Curves" "INITIAL_LOWER" "[I") (.int 3)) (.int 3520)) (by decide +kernel)) (by decide +kernel)
    · exact zEw (hq (.eq (.elem (.static "ChargeEstimator$Curves" "INITIAL_LOWER" "[I") (.int 4)) (.int 3560)) (by decide +kernel)) (by decide +kernel)
    · exact zEw (hq (.eq (.elem (.static "ChargeEstimator$Curves" "INITIAL_LOWER" "[I") (.int 5)) (.int 3600)) (by decide +kernel)) (by decide +kernel)
    · exact zEw (hq (.eq (.elem (.static "ChargeEstimator$Curves" "INITIAL_LOWER" "[I") (.int 6)) (.int 3650)) (by decide +kernel)) (by decide +kernel)
    · exact zEw (hq (.eq (.elem (.static "ChargeEstimator$Curves" "INITIAL_LOWER" "[I") (.int 7)) (.int 3730)) (by decide +kernel)) (by decide +kernel)
    · exact zEw (hq (.eq (.elem (.static "ChargeEstimator$Curves" "INITIAL_LOWER" "[I") (.int 8)) (.int 3830)) (by decide +kernel)) (by decide +kernel)
    · exact zEw (hq (.eq (.elem (.static "ChargeEstimator$Curves" "INITIAL_LOWER" "[I") (.int 9)) (.int 3950)) (by decide +kernel)) (by decide +kernel)
    · exact zEw (hq (.eq (.elem (.static "ChargeEstimator$Curves" "INITIAL_LOWER" "[I") (.int 10)) (.int 4100)) (by decide +kernel)) (by decide +kernel)
  obtain ⟨t, h1, h2⟩ := va_Tof (tm := (.static "ChargeEstimator$Curves" "INITIAL_LOWER" "[I")) (ty := .int) (N := 11) (f := fun j => .int (zA zIlo j)) (A := fun z => s.heap.size ≤ z) (by decide) (hq (.arrayOf (.static "ChargeEstimator$Curves" "INITIAL_LOWER" "[I") .int) (by decide +kernel)) (zEw (hq (.eq (.length (.static "ChargeEstimator$Curves" "INITIAL_LOWER" "[I")) (.int 11)) (by decide +kernel)) (by decide +kernel)) hel hA
  exact ⟨t, va_Zref (hts0 (.laysStatic "ChargeEstimator$Curves" "INITIAL_LOWER" "[I") (by decide +kernel)) (hts0 (.initialized "ChargeEstimator$Curves") (by decide +kernel)) h1 hA, h2⟩
set_option maxRecDepth 100000 in
theorem zSt_LEAST_SETTING {args : Array Value} {s : State} (hq : ∀ w ∈ flatC (Jvm.Cond.and given_1 narrow_1), w.before args s = true) (hts0 : ∀ w ∈ lw_tbl, w.before args s = true) : zSZ (fun z => s.heap.size ≤ z) s s.heap "ChargeEstimator" "LEAST_SETTING" 12 zLoS := by
  have hA : ∀ a : Nat, a < s.heap.size → ¬ (fun z => s.heap.size ≤ z) a := fun a h => Nat.not_le.mpr h
  have hel : ∀ j : Nat, j < 12 → (Term.elem (.static "ChargeEstimator" "LEAST_SETTING" "[I") (.int (Int32.ofNat j))).eval args s none [] s = some (.int (zA zLoS j)) := by
    intro j hj
    rcases (show j = 0 ∨ j = 1 ∨ j = 2 ∨ j = 3 ∨ j = 4 ∨ j = 5 ∨ j = 6 ∨ j = 7 ∨ j = 8 ∨ j = 9 ∨ j = 10 ∨ j = 11 by omega) with rfl | rfl | rfl | rfl | rfl | rfl | rfl | rfl | rfl | rfl | rfl | rfl
    · exact zEw (hq (.eq (.elem (.static "ChargeEstimator" "LEAST_SETTING" "[I") (.int 0)) (.int 900)) (by decide +kernel)) (by decide +kernel)
    · exact zEw (hq (.eq (.elem (.static "ChargeEstimator" "LEAST_SETTING" "[I") (.int 1)) (.int 0)) (by decide +kernel)) (by decide +kernel)
    · exact zEw (hq (.eq (.elem (.static "ChargeEstimator" "LEAST_SETTING" "[I") (.int 2)) (.int 0)) (by decide +kernel)) (by decide +kernel)
    · exact zEw (hq (.eq (.elem (.static "ChargeEstimator" "LEAST_SETTING" "[I") (.int 3)) (.int 1)) (by decide +kernel)) (by decide +kernel)
    · exact zEw (hq (.eq (.elem (.static "ChargeEstimator" "LEAST_SETTING" "[I") (.int 4)) (.int 0)) (by decide +kernel)) (by decide +kernel)
    · exact zEw (hq (.eq (.elem (.static "ChargeEstimator" "LEAST_SETTING" "[I") (.int 5)) (.int 0)) (by decide +kernel)) (by decide +kernel)
    · exact zEw (hq (.eq (.elem (.static "ChargeEstimator" "LEAST_SETTING" "[I") (.int 6)) (.int 1)) (by decide +kernel)) (by decide +kernel)
    · exact zEw (hq (.eq (.elem (.static "ChargeEstimator" "LEAST_SETTING" "[I") (.int 7)) (.int 0)) (by decide +kernel)) (by decide +kernel)
    · exact zEw (hq (.eq (.elem (.static "ChargeEstimator" "LEAST_SETTING" "[I") (.int 8)) (.int 2000)) (by decide +kernel)) (by decide +kernel)
    · exact zEw (hq (.eq (.elem (.static "ChargeEstimator" "LEAST_SETTING" "[I") (.int 9)) (.int 0)) (by decide +kernel)) (by decide +kernel)
    · exact zEw (hq (.eq (.elem (.static "ChargeEstimator" "LEAST_SETTING" "[I") (.int 10)) (.int 1000)) (by decide +kernel)) (by decide +kernel)
    · exact zEw (hq (.eq (.elem (.static "ChargeEstimator" "LEAST_SETTING" "[I") (.int 11)) (.int 500)) (by decide +kernel)) (by decide +kernel)
  obtain ⟨t, h1, h2⟩ := va_Tof (tm := (.static "ChargeEstimator" "LEAST_SETTING" "[I")) (ty := .int) (N := 12) (f := fun j => .int (zA zLoS j)) (A := fun z => s.heap.size ≤ z) (by decide) (hq (.arrayOf (.static "ChargeEstimator" "LEAST_SETTING" "[I") .int) (by decide +kernel)) (zEw (hq (.eq (.length (.static "ChargeEstimator" "LEAST_SETTING" "[I")) (.int 12)) (by decide +kernel)) (by decide +kernel)) hel hA
  exact ⟨t, va_Zref (hts0 (.laysStatic "ChargeEstimator" "LEAST_SETTING" "[I") (by decide +kernel)) (hts0 (.initialized "ChargeEstimator") (by decide +kernel)) h1 hA, h2⟩
set_option maxRecDepth 100000 in
theorem zSt_MOST_SETTING {args : Array Value} {s : State} (hq : ∀ w ∈ flatC (Jvm.Cond.and given_1 narrow_1), w.before args s = true) (hts0 : ∀ w ∈ lw_tbl, w.before args s = true) : zSZ (fun z => s.heap.size ≤ z) s s.heap "ChargeEstimator" "MOST_SETTING" 12 zHiS := by
  have hA : ∀ a : Nat, a < s.heap.size → ¬ (fun z => s.heap.size ≤ z) a := fun a h => Nat.not_le.mpr h
  have hel : ∀ j : Nat, j < 12 → (Term.elem (.static "ChargeEstimator" "MOST_SETTING" "[I") (.int (Int32.ofNat j))).eval args s none [] s = some (.int (zA zHiS j)) := by
    intro j hj
    rcases (show j = 0 ∨ j = 1 ∨ j = 2 ∨ j = 3 ∨ j = 4 ∨ j = 5 ∨ j = 6 ∨ j = 7 ∨ j = 8 ∨ j = 9 ∨ j = 10 ∨ j = 11 by omega) with rfl | rfl | rfl | rfl | rfl | rfl | rfl | rfl | rfl | rfl | rfl | rfl
    · exact zEw (hq (.eq (.elem (.static "ChargeEstimator" "MOST_SETTING" "[I") (.int 0)) (.int 1000)) (by decide +kernel)) (by decide +kernel)
    · exact zEw (hq (.eq (.elem (.static "ChargeEstimator" "MOST_SETTING" "[I") (.int 1)) (.int 10000)) (by decide +kernel)) (by decide +kernel)
    · exact zEw (hq (.eq (.elem (.static "ChargeEstimator" "MOST_SETTING" "[I") (.int 2)) (.int 20000)) (by decide +kernel)) (by decide +kernel)
    · exact zEw (hq (.eq (.elem (.static "ChargeEstimator" "MOST_SETTING" "[I") (.int 3)) (.int 50)) (by decide +kernel)) (by decide +kernel)
    · exact zEw (hq (.eq (.elem (.static "ChargeEstimator" "MOST_SETTING" "[I") (.int 4)) (.int 1000)) (by decide +kernel)) (by decide +kernel)
    · exact zEw (hq (.eq (.elem (.static "ChargeEstimator" "MOST_SETTING" "[I") (.int 5)) (.int 100)) (by decide +kernel)) (by decide +kernel)
    · exact zEw (hq (.eq (.elem (.static "ChargeEstimator" "MOST_SETTING" "[I") (.int 6)) (.int 10000)) (by decide +kernel)) (by decide +kernel)
    · exact zEw (hq (.eq (.elem (.static "ChargeEstimator" "MOST_SETTING" "[I") (.int 7)) (.int 50)) (by decide +kernel)) (by decide +kernel)
    · exact zEw (hq (.eq (.elem (.static "ChargeEstimator" "MOST_SETTING" "[I") (.int 8)) (.int 5000)) (by decide +kernel)) (by decide +kernel)
    · exact zEw (hq (.eq (.elem (.static "ChargeEstimator" "MOST_SETTING" "[I") (.int 9)) (.int 10000)) (by decide +kernel)) (by decide +kernel)
    · exact zEw (hq (.eq (.elem (.static "ChargeEstimator" "MOST_SETTING" "[I") (.int 10)) (.int 4000)) (by decide +kernel)) (by decide +kernel)
    · exact zEw (hq (.eq (.elem (.static "ChargeEstimator" "MOST_SETTING" "[I") (.int 11)) (.int 10000)) (by decide +kernel)) (by decide +kernel)
  obtain ⟨t, h1, h2⟩ := va_Tof (tm := (.static "ChargeEstimator" "MOST_SETTING" "[I")) (ty := .int) (N := 12) (f := fun j => .int (zA zHiS j)) (A := fun z => s.heap.size ≤ z) (by decide) (hq (.arrayOf (.static "ChargeEstimator" "MOST_SETTING" "[I") .int) (by decide +kernel)) (zEw (hq (.eq (.length (.static "ChargeEstimator" "MOST_SETTING" "[I")) (.int 12)) (by decide +kernel)) (by decide +kernel)) hel hA
  exact ⟨t, va_Zref (hts0 (.laysStatic "ChargeEstimator" "MOST_SETTING" "[I") (by decide +kernel)) (hts0 (.initialized "ChargeEstimator") (by decide +kernel)) h1 hA, h2⟩
set_option maxRecDepth 100000 in
theorem zXG_at {args : Array Value} {s : State} (hq : ∀ w ∈ flatC (Jvm.Cond.and given_1 narrow_1), w.before args s = true) (hts0 : ∀ w ∈ lw_tbl, w.before args s = true) : zXG s := by
  have hA : ∀ a : Nat, a < s.heap.size → ¬ (fun z => s.heap.size ≤ z) a := fun a h => Nat.not_le.mpr h
  refine ⟨⟨fun w hw => va_Nw.of (zXb_t (List.all_eq_true.mp zXw_b w hw)) (hts0 w ((show ∀ w ∈ zXw, w ∈ lw_tbl by decide +kernel) w hw)), fun q hw => ?_⟩, ⟨?_, ?_⟩, ⟨zSt_INITIAL_SETTING hq hts0, zSt_INITIAL_LOWER hq hts0⟩, zSt_LEAST_SETTING hq hts0, zSt_MOST_SETTING hq hts0⟩
  · obtain ⟨a, ha⟩ := zEx (hq (.exactly (.string RX5 q.1) "java/lang/String") ((show ∀ q ∈ zXt, Cond.exactly (.string RX5 q.1) "java/lang/String" ∈ flatC (Jvm.Cond.and given_1 narrow_1) by decide +kernel) q hw))
    refine ⟨a, ?_⟩
    have h1 := hts0 (.stringRef RX5 q.1 q.2) ((show ∀ q ∈ zXt, Cond.stringRef RX5 q.1 q.2 ∈ lw_tbl by decide +kernel) q hw)
    have h2 := vk_R.of h1 ha
    exact h2
  · exact vx_Zqof (hts0 (.laysStatic Bundle.tN "UNASSIGNED_STACK" Bundle.steD) (by decide +kernel)) (hts0 (.initialized Bundle.tN) (by decide +kernel)) (hq (.isRef (.static Bundle.tN "UNASSIGNED_STACK" Bundle.steD)) (by decide +kernel)) hA
  · exact vx_Zqof (hts0 (.laysStatic Bundle.tN "SUPPRESSED_SENTINEL" Bundle.listD) (by decide +kernel)) (hts0 (.initialized Bundle.tN) (by decide +kernel)) (hq (.isRef (.static Bundle.tN "SUPPRESSED_SENTINEL" Bundle.listD)) (by decide +kernel)) hA
set_option maxRecDepth 100000 in
theorem zNc_at {args : Array Value} {s : State} (hq : ∀ w ∈ flatC (Jvm.Cond.and given_1 narrow_1), w.before args s = true) : zNcP s :=
  ⟨va_Nc.of (hq (.not (.castable "java/lang/IllegalArgumentException" "java/lang/IndexOutOfBoundsException")) (by decide +kernel)), va_Nc.of (hq (.not (.castable "java/lang/IllegalStateException" "java/lang/IllegalArgumentException")) (by decide +kernel))⟩
set_option maxRecDepth 100000 in
theorem zNW_at {args : Array Value} {s : State} (hts0 : ∀ w ∈ lw_tbl, w.before args s = true) : zNW s := fun w hw =>
  va_Nw.of ((show ∀ w ∈ zNWl, w.onTables = true by decide +kernel) w hw) (hts0 w ((show ∀ w ∈ zNWl, w ∈ lw_tbl by decide +kernel) w hw))
