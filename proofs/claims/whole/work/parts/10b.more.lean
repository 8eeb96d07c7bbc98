/-! more rows: signed division, signs, copies, switches, answers of one place -/
theorem zI_tdiv {a b : Int} (ha : -2147483648 ≤ a ∧ a ≤ 2147483647) (hb : 0 < b ∧ b ≤ 2147483647) : zI a / zI b = zI (a.tdiv b) := by
  have h := Int32.ofInt_tdiv (a := a) (b := b) (by rw [show Int32.minValue.toInt = -2147483648 from rfl]; omega) (by rw [show Int32.maxValue.toInt = 2147483647 from rfl]; omega) (by rw [show Int32.minValue.toInt = -2147483648 from rfl]; omega) (by rw [show Int32.maxValue.toInt = 2147483647 from rfl]; omega)
  exact h.symm
theorem zL_tdiv {a b : Int} (ha : -9223372036854775808 ≤ a ∧ a ≤ 9223372036854775807) (hb : 0 < b ∧ b ≤ 9223372036854775807) : zL a / zL b = zL (a.tdiv b) := by
  have h := Int64.ofInt_tdiv (a := a) (b := b) (by rw [show Int64.minValue.toInt = -9223372036854775808 from rfl]; omega) (by rw [show Int64.maxValue.toInt = 9223372036854775807 from rfl]; omega) (by rw [show Int64.minValue.toInt = -9223372036854775808 from rfl]; omega) (by rw [show Int64.maxValue.toInt = 9223372036854775807 from rfl]; omega)
  exact h.symm
theorem zI_xor {a b : Int} (ha : -2147483648 ≤ a ∧ a ≤ 2147483647) (hb : 0 < b ∧ b ≤ 2147483647) : 0 ≤ zI a ^^^ zI b ↔ 0 ≤ a := by
  have h1 : (zI a).toBitVec.msb = decide (a < 0) := by rw [BitVec.msb_eq_toInt]; exact decide_eq_decide.mpr (by rw [show (zI a).toBitVec.toInt = (zI a).toInt from rfl, zI_toInt ha])
  have h2 : (zI b).toBitVec.msb = false := by rw [BitVec.msb_eq_toInt, show (zI b).toBitVec.toInt = (zI b).toInt from rfl, zI_toInt (by omega)]; simp; omega
  rw [Int32.le_iff_toInt_le, show (0 : Int32).toInt = 0 from rfl, show (zI a ^^^ zI b).toInt = ((zI a).toBitVec ^^^ (zI b).toBitVec).toInt from rfl]
  have h3 : ((zI a).toBitVec ^^^ (zI b).toBitVec).msb = decide (((zI a).toBitVec ^^^ (zI b).toBitVec).toInt < 0) := BitVec.msb_eq_toInt
  rw [BitVec.msb_xor, h1, h2, Bool.xor_false] at h3
  have h4 := decide_eq_decide.mp h3
  omega
theorem zL_xor {a b : Int} (ha : -9223372036854775808 ≤ a ∧ a ≤ 9223372036854775807) (hb : 0 < b ∧ b ≤ 9223372036854775807) : 0 ≤ zL a ^^^ zL b ↔ 0 ≤ a := by
  have h1 : (zL a).toBitVec.msb = decide (a < 0) := by rw [BitVec.msb_eq_toInt]; exact decide_eq_decide.mpr (by rw [show (zL a).toBitVec.toInt = (zL a).toInt from rfl, zL_toInt ha])
  have h2 : (zL b).toBitVec.msb = false := by rw [BitVec.msb_eq_toInt, show (zL b).toBitVec.toInt = (zL b).toInt from rfl, zL_toInt (by omega)]; simp; omega
  rw [Int64.le_iff_toInt_le, show (0 : Int64).toInt = 0 from rfl, show (zL a ^^^ zL b).toInt = ((zL a).toBitVec ^^^ (zL b).toBitVec).toInt from rfl]
  have h3 : ((zL a).toBitVec ^^^ (zL b).toBitVec).msb = decide (((zL a).toBitVec ^^^ (zL b).toBitVec).toInt < 0) := BitVec.msb_eq_toInt
  rw [BitVec.msb_xor, h1, h2, Bool.xor_false] at h3
  have h4 := decide_eq_decide.mp h3
  omega
theorem zfd_0 {a b : Int} (ha : 0 ≤ a) : a.tdiv b = a / b := Int.tdiv_eq_ediv_of_nonneg ha
theorem zfd_1 {a b : Int} (hb : 0 < b) (h : a.tdiv b * b = a) : a.tdiv b = a / b := by
  have : a / b = a.tdiv b * b / b := by rw [h]
  rw [this, Int.mul_ediv_cancel _ (by omega)]
theorem zfd_2 {a b : Int} (ha : a < 0) (hb : 0 < b) (h : a.tdiv b * b ≠ a) : a.tdiv b - 1 = a / b := by
  have h1 := Int.tmod_add_mul_tdiv a b
  have h2 : -b < a.tmod b := Int.lt_tmod_of_pos a hb
  have h3 : a.tmod b ≤ 0 := by
    have := Int.tmod_nonneg (a := -a) b (by omega)
    rw [Int.neg_tmod] at this
    omega
  have h4 : b * a.tdiv b = a.tdiv b * b := Int.mul_comm _ _
  symm
  rw [Int.ediv_eq_iff_of_pos hb, Int.sub_mul]
  omega
section ZN
variable {p : Program} {l : Launch} {e : Env} {R : Room} {s : State} {m : MethodId} {args : Array Value} {below : List Frame} {meth : Method} {c : Code} {H : Heap} {locs : List Loc} {cells slots : Nat} {Q : State → Prop}
variable {cc : ByteArray} {pc : Nat} {ls : Array Slot} {rest : List Value}
theorem zr_idivT (hx : p.tables.exec = Jvm.exec) (hb : c.code = cc) {a b : Int} (d : decode cc pc = .ok (.idiv, 1)) (ha : -2147483648 ≤ a ∧ a ≤ 2147483647) (hb2 : 0 < b ∧ b ≤ 2147483647) (k : W p l e R s m args below meth c H locs cells slots Q (F0 m (pc + 1) ls (.int (zI (a.tdiv b)) :: rest))) : W p l e R s m args below meth c H locs cells slots Q (F0 m pc ls (.int (zI b) :: .int (zI a) :: rest)) := lv_idiv hx hb d (fun h => by rw [← zI_0, zI_eq (by omega) (by omega)] at h; omega) (by rw [zI_tdiv ha hb2]; exact k)
theorem zr_ldivT (hx : p.tables.exec = Jvm.exec) (hb : c.code = cc) {a b : Int} (d : decode cc pc = .ok (.ldiv, 1)) (ha : -9223372036854775808 ≤ a ∧ a ≤ 9223372036854775807) (hb2 : 0 < b ∧ b ≤ 9223372036854775807) (k : W p l e R s m args below meth c H locs cells slots Q (F0 m (pc + 1) ls (.long (zL (a.tdiv b)) :: rest))) : W p l e R s m args below meth c H locs cells slots Q (F0 m pc ls (.long (zL b) :: .long (zL a) :: rest)) := lv_ldiv hx hb d (fun h => by rw [← zL_0, zL_eq (by omega) (by omega)] at h; omega) (by rw [zL_tdiv ha hb2]; exact k)
theorem zr_ixge (hx : p.tables.exec = Jvm.exec) (hb : c.code = cc) {a b off : Int} {tgt : Nat} (d1 : decode cc pc = .ok (.ixor, 1)) (d : decode cc (pc + 1) = .ok (.ifCond .ge off, 3)) (ht : ((pc + 1 : Nat) : Int) + off = (tgt : Int)) (ha : -2147483648 ≤ a ∧ a ≤ 2147483647) (hb2 : 0 < b ∧ b ≤ 2147483647) (kt : 0 ≤ a → W p l e R s m args below meth c H locs cells slots Q (F0 m tgt ls (rest))) (kf : a < 0 → W p l e R s m args below meth c H locs cells slots Q (F0 m (pc + 1 + 3) ls (rest))) : W p l e R s m args below meth c H locs cells slots Q (F0 m pc ls (.int (zI b) :: .int (zI a) :: rest)) := lv_ixor hx hb d1 (lv_if_ge hx hb d ht (fun h => kt ((zI_xor ha hb2).mp h)) (fun h => kf (by have := mt (zI_xor ha hb2).mpr h; omega)))
theorem zr_lxge (hx : p.tables.exec = Jvm.exec) (hb : c.code = cc) {a b off : Int} {tgt : Nat} (d1 : decode cc pc = .ok (.lxor, 1)) (d2 : decode cc (pc + 1) = .ok (.lconst 0, 1)) (d3 : decode cc (pc + 1 + 1) = .ok (.lcmp, 1)) (d : decode cc (pc + 1 + 1 + 1) = .ok (.ifCond .ge off, 3)) (ht : ((pc + 1 + 1 + 1 : Nat) : Int) + off = (tgt : Int)) (ha : -9223372036854775808 ≤ a ∧ a ≤ 9223372036854775807) (hb2 : 0 < b ∧ b ≤ 9223372036854775807) (kt : 0 ≤ a → W p l e R s m args below meth c H locs cells slots Q (F0 m tgt ls (rest))) (kf : a < 0 → W p l e R s m args below meth c H locs cells slots Q (F0 m (pc + 1 + 1 + 1 + 3) ls (rest))) : W p l e R s m args below meth c H locs cells slots Q (F0 m pc ls (.long (zL b) :: .long (zL a) :: rest)) := lv_lxor hx hb d1 (lv_lconst hx hb d2 rfl (W.lcmp hx hb d3 (lv_if_ge hx hb d ht (fun h => kt ((zL_xor ha hb2).mp ((lg_cmp_ge _ _).mp h))) (fun h => kf (by have := mt (fun z => (lg_cmp_ge _ _).mpr ((zL_xor ha hb2).mpr z)) h; omega)))))
theorem zr_tsIn (hx : p.tables.exec = Jvm.exec) (hb : c.code = cc) {dflt lo hi : Int} {offs : Array Int} {len : Nat} {e9 k9 off : Int} {tgt : Nat} (d : decode cc pc = .ok (.tableswitch dflt lo hi offs, len)) (he : e9 = k9) (hr : -2147483648 ≤ k9 ∧ k9 ≤ 2147483647) (h1 : lo ≤ k9) (h2 : k9 ≤ hi) (ho : offs[(k9 - lo).toNat]? = some off) (ht : (pc : Int) + off = (tgt : Int)) (k : W p l e R s m args below meth c H locs cells slots Q (F0 m tgt ls (rest))) : W p l e R s m args below meth c H locs cells slots Q (F0 m pc ls (.int (zI e9) :: rest)) := by
  subst he
  have hz := zI_toInt hr
  exact lv_tableIn hx hb d (by rw [hz]; omega) (by rw [hz]; omega) (by rw [hz]; exact ho) ht k
theorem zr_tsOut (hx : p.tables.exec = Jvm.exec) (hb : c.code = cc) {dflt lo hi : Int} {offs : Array Int} {len : Nat} {e9 : Int} {tgt : Nat} (d : decode cc pc = .ok (.tableswitch dflt lo hi offs, len)) (hr : -2147483648 ≤ e9 ∧ e9 ≤ 2147483647) (h : e9 < lo ∨ hi < e9) (ht : (pc : Int) + dflt = (tgt : Int)) (k : W p l e R s m args below meth c H locs cells slots Q (F0 m tgt ls (rest))) : W p l e R s m args below meth c H locs cells slots Q (F0 m pc ls (.int (zI e9) :: rest)) := lv_tableOut hx hb d (by rw [zI_toInt hr]; exact h) ht k
variable {D : va_G} {cl : List vw_C} {A : Nat → Prop} {a : Nat} {tys : List (ClassId × FieldType)} {ws : va_W} {H0 : Heap}
theorem zr_copy (hx : p.tables.exec = Jvm.exec) (hb : c.code = cc) (hml : c.maxLocals = ls.size) {own : String} {index : Nat} (hown : s.vm.findClass own = some m.cls) (hlink : (Cond.methodLink own index arraycopyName).before args s = true) (hnat : (Cond.native arraycopyName).before args s = true) (hstat : (Cond.static arraycopyName).before args s = true) (hini : (Cond.initialized "java/lang/System").before args s = true) (hK : va_K D cl tys s) (hP : va_P D cl ws H) (hD : va_D A ws) (hS : va_S A H0 H locs) (q0 q1 : Nat) {a0 : Nat} {c0 c1 : ClassId} {n0 n1 : Nat} {f g : Int → Int} (ha0 : ws[q0]? = some (a0, .inl (c0, n0, .inl (zA f)))) (ha1 : ws[q1]? = some (a, .inl (c1, n1, .inl (zA g)))) (ht0 : tys[0]? = some (c0, .int)) (ht1 : tys[0]? = some (c1, .int)) {sp dp n : Int} (h : 0 ≤ sp ∧ 0 ≤ dp ∧ 0 ≤ n ∧ sp + n ≤ n0 ∧ dp + n ≤ n1 ∧ n0 < 2147483648 ∧ n1 < 2147483648) (hf : 1 ≤ R.frames) (hlo : (rest.map fun v => v.category).sum + (nativeFrameWords "java/lang/System" "arraycopy" 5 + 11) ≤ R.locals) (d : decode cc pc = .ok (.invokestatic index, 3)) (kk : ∀ (H1 : Heap) (locs1 : List Loc), va_P D cl (ws.set q1 (a, .inl (c1, n1, .inl (zA (zC f g sp dp n))))) H1 → va_D A (ws.set q1 (a, .inl (c1, n1, .inl (zA (zC f g sp dp n))))) → va_S A H0 H1 locs1 → W p l e R s m args below meth c H1 locs1 cells slots Q (F0 m (pc + 3) ls rest)) : W p l e R s m args below meth c H locs cells slots Q (F0 m pc ls (.int (zI n) :: .int (zI dp) :: .ref a :: .int (zI sp) :: .ref a0 :: rest)) := by
  have e1 := zI_cl (i := sp) (by omega)
  have e2 := zI_cl (i := dp) (by omega)
  have e3 := zI_cl (i := n) (by omega)
  have e4 : zA (zC f g sp dp n) = va_cpy (zA f) (zA g) (zI sp).toNatClampNeg (zI dp).toNatClampNeg (zI n).toNatClampNeg := by
    rw [e1, e2, e3, zA_cpy, Int.toNat_of_nonneg h.1, Int.toNat_of_nonneg h.2.1, Int.toNat_of_nonneg h.2.2.1]
  rw [e4] at kk
  refine va_copyi hx hb hml hown hlink hnat hstat hini hK hP hD hS q0 q1 0 0 ha0 ha1 ht0 ht1 rfl ?_ ?_ ?_ (by rw [e1, e3]; omega) (by rw [e2, e3]; omega) (fun _ _ => rfl) hf hlo d kk
  · rw [← zI_0, zI_lt (by omega) (by omega)]; omega
  · rw [← zI_0, zI_lt (by omega) (by omega)]; omega
  · rw [← zI_0, zI_lt (by omega) (by omega)]; omega
end ZN
section ZBQ
variable {D : va_G} {cs : Nat → ClassId} {q : Nat → Nat} {A B : Int → Int} {H : Heap} {v i : Int}
theorem zbp_lv (h : va_P D vwCl ((zbat cs q A).set 0 (q 0, .inr (1, (List.set [.ref (q 1), .ref (q 2), .ref (q 5), .long (zL (A 38)), .long (zL (A 37)), .long (zL (A 34)), .long (zL (A 35)), .long (zL (A 36)), .long (zL (A 39)), .long (zL (A 41)), .long (zL (A 40)), .int (zI (A 42)), .int (zI (A 43)), .int (zI (A 44)), .int (zI (A 50)), .int (zI (A 51)), .int (zI (zlv A)), .int (zI (A 47))] 16 (.int (zI v)))))) H) : va_P D vwCl (zbat cs q (zU (zU A 45 1) 46 v)) H := by
  obtain ⟨h0, h1, h2, h3, h4, h5, h6⟩ := zP7.mp h
  exact zP7.mpr ⟨h0, zat_i h1 (fun k a b => by rw [zU_ne _ _ (by omega), zU_ne _ _ (by omega)]), h2, zat_i h3 (fun k a b => by simp only [zO]; rw [zU_ne _ _ (by omega), zU_ne _ _ (by omega)]), zat_i h4 (fun k a b => by simp only [zO]; rw [zU_ne _ _ (by omega), zU_ne _ _ (by omega)]), h5, zat_i h6 (fun k a b => by simp only [zO]; rw [zU_ne _ _ (by omega), zU_ne _ _ (by omega)])⟩
theorem zbc_6 (h : va_P D vwCl ((zbat cs q A).set 6 (q 6, .inl (cs 0, 160, .inl (zA (zC (zO A 53) (zO A 53) 4 0 156))))) H) : va_P D vwCl (zbat cs q (zC A A 57 53 156)) H := by
  obtain ⟨h0, h1, h2, h3, h4, h5, h6⟩ := zP7.mp h
  have hlo : ∀ k : Int, k < 53 → A k = zC A A 57 53 156 k := fun k hk => by simp only [zC]; rw [if_neg (by omega)]
  have e := zb_fields (q := q) (A := A) (A2 := zC A A 57 53 156) (fun k a b _ _ _ _ => hlo k (by omega)) (by unfold zlv; rw [← hlo 45 (by decide), ← hlo 46 (by decide)])
  refine zP7.mpr ⟨by rw [← e]; exact h0, zat_i h1 (fun k a b => hlo k (by omega)), h2, zat_i h3 (fun k a b => hlo _ (by omega)), zat_i h4 (fun k a b => hlo _ (by omega)), by rw [← hlo 52 (by decide)]; exact h5, zat_i h6 (fun k a b => ?_)⟩
  simp only [zC, zO]
  split
  · rw [if_pos (by omega)]
    congr 1
    omega
  · rw [if_neg (by omega)]
end ZBQ
