/-! constructors: rows -/
def zoF (l : List Nat) : Nat → Nat := fun i => l.getD i 0
def zIni (w : Int) : Int := if w = 0 then 995 else if w = 1 then 500 else if w = 2 then 5000 else if w = 3 then 10 else if w = 4 then 20 else if w = 5 then 2 else if w = 6 then 1800 else if w = 7 then 5 else if w = 8 then 4150 else if w = 9 then 100 else if w = 10 then 2900 else 4000
def zIlo (w : Int) : Int := if w = 0 then 3000 else if w = 1 then 3300 else if w = 2 then 3450 else if w = 3 then 3520 else if w = 4 then 3560 else if w = 5 then 3600 else if w = 6 then 3650 else if w = 7 then 3730 else if w = 8 then 3830 else if w = 9 then 3950 else 4100
/-- the table of a new object, before its battery is begun -/
def zI0 (k : Int) : Int := if k < 0 then 0 else if k < 12 then zIni k else if k < 23 then zIlo (k - 12) else if k < 34 then zIlo (k - 23) + 40 else 0
def zI1 : Int → Int := zU zI0 45 1
theorem zNew_I (N : Int) : zNew zI1 N = zNew zI0 N := by
  have h : zZer zI1 = zZer zI0 := by
    funext k
    unfold zZer
    by_cases h : 34 ≤ k ∧ k ≤ 52
    · rw [if_pos h, if_pos h]
    · rw [if_neg h, if_neg h]
      exact zU_ne _ _ (by omega)
  unfold zNew
  rw [h]
def zSZ (A : Nat → Prop) (U : State) (H : Heap) (C n : String) (N : Nat) (g : Int → Int) : Prop := ∃ t : Nat, va_Z C n "[I" (.ref t) A U H ∧ va_T .int t N (fun j => .int (zA g j)) A U H
theorem zSZ.step {A A1 : Nat → Prop} {s U : State} {H0 H : Heap} {C n : String} {N : Nat} {g : Int → Int} (h : zSZ A s H0 C n N g) (hq : ∀ q : Nat, q < H0.size → ¬ A q → H[q]? = H0[q]?) (hAB : ∀ q, A1 q → A q) (hvm : s.vm.Alike U.vm) : zSZ A1 U H C n N g := by
  obtain ⟨t, h1, h2⟩ := h
  exact ⟨t, va_Z.moved hvm (va_Z.narrow (va_Z.kept h1 hq) hAB), va_T.moved hvm (va_T.narrow (va_T.kept h2 hq) hAB)⟩
/-- the static tables of the class: nobody writes them -/
def zSX (A : Nat → Prop) (U : State) (H : Heap) : Prop := (zSZ A U H "ChargeEstimator" "INITIAL_SETTING" 12 zIni ∧ zSZ A U H "ChargeEstimator$Curves" "INITIAL_LOWER" 11 zIlo) ∧ zSZ A U H "ChargeEstimator" "LEAST_SETTING" 12 zLoS ∧ zSZ A U H "ChargeEstimator" "MOST_SETTING" 12 zHiS
theorem zSX.step {A A1 : Nat → Prop} {s U : State} {H0 H : Heap} (h : zSX A s H0) (hq : ∀ q : Nat, q < H0.size → ¬ A q → H[q]? = H0[q]?) (hAB : ∀ q, A1 q → A q) (hvm : s.vm.Alike U.vm) : zSX A1 U H :=
  ⟨⟨h.1.1.step hq hAB hvm, h.1.2.step hq hAB hvm⟩, h.2.1.step hq hAB hvm, h.2.2.step hq hAB hvm⟩
def zPreN (D : va_G) (tys : List (ClassId × FieldType)) (w : va_W) (sz : Nat) (U : State) : Prop := zPreZ D tys w sz U ∧ zSX (va_A w sz) U U.heap ∧ va_AO RX1 U
theorem zPreN.blind {D : va_G} {tys : List (ClassId × FieldType)} {w : va_W} {sz : Nat} {av : List Value} : FrameBlind (va_Pc av (zPreN D tys w sz)) := by
  intro a U g mk ⟨h0, h1, h2, h3⟩
  obtain ⟨-, h4⟩ := zPreZ.blind (av := av) a U g mk ⟨h0, h1⟩
  exact ⟨h0, h4, h2.step (s := U) (U := U.calling g mk a) (H := U.heap) (fun _ _ _ => rfl) (fun _ h => h) (Vm.Alike.refl U.vm), va_AO.moved (u := U) (U := U.calling g mk a) (Vm.Alike.refl U.vm) h3⟩
theorem zp_N {D : va_G} {tys : List (ClassId × FieldType)} {w : va_W} {s U : State} {H : Heap} {av : List Value} {A A0 : Nat → Prop} {locs : List Loc} (hP : va_P D vwCl w H) (hK : va_K D vwCl tys s) (hD : va_D A w) (hN : zNW s) (hX : zSX A0 s s.heap) (hO : va_AO RX1 s) (hS : va_S A0 s.heap H locs) (hF : ∀ q, va_A w H.size q → A0 q) (hU : U.heap = H) (hW : s.WarmedH U.vm) : va_Pc av (zPreN D tys w H.size) av.toArray U :=
  ⟨rfl, (zp_Z (av := av) hP hK hD hN hU hW).2, by rw [hU]; exact hX.step hS.2.1 hF hW.alike, va_AO.moved hW.alike hO⟩
/-- a constructor: its own cell comes back with all that it made -/
def zQn (D : va_G) (w : va_W) (sz a0 : Nat) (w2 : (Nat → Nat → Nat) → va_W) : Array Value → State → Outcome → State → Prop := va_Qv (fun (_ : Unit) => True) (fun _ t => ∃ o : Nat → Nat → Nat, o 0 0 = a0 ∧ zB2 D (w2 o) w sz t) (va_A w sz)
theorem zK_u {tys : List (ClassId × FieldType)} {s : State} {D : va_G} {cA c0 : ClassId} {ty : FieldType} (hK : va_K D vwCl (tys ++ [(cA, ty)]) s) (i : Nat) (hi : tys[i]? = some (c0, ty)) : cA = c0 := by
  have hl : i < tys.length := (List.getElem?_eq_some_iff.mp hi).1
  have h1 := (hK.2 i _ (by rw [List.getElem?_append_left hl]; exact hi)).2
  have h2 := (hK.2 tys.length (cA, ty) (by rw [List.getElem?_append_right (Nat.le_refl _), Nat.sub_self]; rfl)).2
  cases ty with
  | object C =>
    obtain ⟨-, -, -, -, -, e1⟩ := h1
    obtain ⟨-, -, -, -, -, e2⟩ := h2
    exact Option.some.inj (e2.symm.trans e1)
  | _ => exact Option.some.inj (Eq.trans (Eq.symm h2) h1)
section ZCN
variable {p : Program} {l : Launch} {e : Env} {R : Room} {s : State} {m : MethodId} {args : Array Value} {below : List Frame} {meth : Method} {c : Code} {H : Heap} {locs : List Loc} {cells slots : Nat} {Q : State → Prop}
variable {cc : ByteArray} {pc : Nat} {ls : Array Slot} {rest st0 : List Value} {D : va_G} {cs : Nat → ClassId} {A : Nat → Prop} {a : Array Value} {H0 : Heap} {ws : va_W} {mc ms : Nat}

theorem zr_newi (hx : p.tables.exec = Jvm.exec) (hb : c.code = cc) (harr : (Cond.arrayClass .int).before args s = true) (hK : va_K D vwCl (zTy cs) s) (hP : va_P D vwCl ws H) (hD : va_D A ws) (hS : va_S A H0 H locs) (hA : ∀ q, H0.size ≤ q → A q) {n : Int} {N : Nat} (hn : 0 ≤ n ∧ n ≤ 2147483647) (hN : n.toNat = N) (hbytes : N * componentBytes .int ≤ 536870912) (hcells : cells + 1 ≤ R.cells) (hslots : slots + N ≤ R.slots) (hdg : decode cc pc = .ok (.newarray .int, 2))
    (kk : ∀ (q : Nat) (H1 : Heap), va_P D vwCl (ws ++ [(q, .inl (cs 0, N, .inl (zA (fun _ => 0))))]) H1 → va_D A (ws ++ [(q, .inl (cs 0, N, .inl (zA (fun _ => 0))))]) → va_S A H0 H1 locs → W p l e R s m args below meth c H1 locs (cells + 1) (slots + N) Q (F0 m (pc + 2) ls (.ref q :: rest))) : W p l e R s m args below meth c H locs cells slots Q (F0 m pc ls (.int (zI n) :: rest)) := by
  refine va_newa (atype := .int) (ty := .int) (a0 := (N, .inl (zA (fun _ => 0)))) hx hb harr rfl hK hP hD hS hA ?_ ?_ ?_ hbytes hcells hslots hdg (fun q cA H1 hK1 hP1 hD1 hS1 => ?_)
  · intro cA
    rw [vp_cell_i]
    rfl
  · rw [← zI_0, zI_lt (by omega) (by omega)]; omega
  · rw [zI_cl (by omega)]; exact hN
  · have e := zK_u hK1 0 rfl
    subst e
    exact kk q H1 hP1 hD1 hS1
theorem zr_newb (hx : p.tables.exec = Jvm.exec) (hb : c.code = cc) (harr : (Cond.arrayClass .byte).before args s = true) (hK : va_K D vwCl (zTy cs) s) (hP : va_P D vwCl ws H) (hD : va_D A ws) (hS : va_S A H0 H locs) (hA : ∀ q, H0.size ≤ q → A q) {n : Int} {N : Nat} (hn : 0 ≤ n ∧ n ≤ 2147483647) (hN : n.toNat = N) (hbytes : N * componentBytes .byte ≤ 536870912) (hcells : cells + 1 ≤ R.cells) (hslots : slots + N ≤ R.slots) (hdg : decode cc pc = .ok (.newarray .byte, 2))
    (kk : ∀ (q : Nat) (H1 : Heap), va_P D vwCl (ws ++ [(q, .inl (cs 1, N, .inl (zA (fun _ => 0))))]) H1 → va_D A (ws ++ [(q, .inl (cs 1, N, .inl (zA (fun _ => 0))))]) → va_S A H0 H1 locs → W p l e R s m args below meth c H1 locs (cells + 1) (slots + N) Q (F0 m (pc + 2) ls (.ref q :: rest))) : W p l e R s m args below meth c H locs cells slots Q (F0 m pc ls (.int (zI n) :: rest)) := by
  refine va_newa (atype := .byte) (ty := .byte) (a0 := (N, .inl (zA (fun _ => 0)))) hx hb harr rfl hK hP hD hS hA ?_ ?_ ?_ hbytes hcells hslots hdg (fun q cA H1 hK1 hP1 hD1 hS1 => ?_)
  · intro cA
    rw [vp_cell_i]
    rfl
  · rw [← zI_0, zI_lt (by omega) (by omega)]; omega
  · rw [zI_cl (by omega)]; exact hN
  · have e := zK_u hK1 1 rfl
    subst e
    exact kk q H1 hP1 hD1 hS1
theorem zr_newl (hx : p.tables.exec = Jvm.exec) (hb : c.code = cc) (harr : (Cond.arrayClass .long).before args s = true) (hK : va_K D vwCl (zTy cs) s) (hP : va_P D vwCl ws H) (hD : va_D A ws) (hS : va_S A H0 H locs) (hA : ∀ q, H0.size ≤ q → A q) {n : Int} {N : Nat} (hn : 0 ≤ n ∧ n ≤ 2147483647) (hN : n.toNat = N) (hbytes : N * componentBytes .long ≤ 536870912) (hcells : cells + 1 ≤ R.cells) (hslots : slots + N ≤ R.slots) (hdg : decode cc pc = .ok (.newarray .long, 2))
    (kk : ∀ (q : Nat) (H1 : Heap), va_P D vwCl (ws ++ [(q, .inl (cs 2, N, .inr (.inl (zAL (fun _ => 0)))))]) H1 → va_D A (ws ++ [(q, .inl (cs 2, N, .inr (.inl (zAL (fun _ => 0)))))]) → va_S A H0 H1 locs → W p l e R s m args below meth c H1 locs (cells + 1) (slots + N) Q (F0 m (pc + 2) ls (.ref q :: rest))) : W p l e R s m args below meth c H locs cells slots Q (F0 m pc ls (.int (zI n) :: rest)) := by
  refine va_newa (atype := .long) (ty := .long) (a0 := (N, .inr (.inl (zAL (fun _ => 0))))) hx hb harr rfl hK hP hD hS hA ?_ ?_ ?_ hbytes hcells hslots hdg (fun q cA H1 hK1 hP1 hD1 hS1 => ?_)
  · intro cA
    rw [vp_cell_l]
    rfl
  · rw [← zI_0, zI_lt (by omega) (by omega)]; omega
  · rw [zI_cl (by omega)]; exact hN
  · have e := zK_u hK1 2 rfl
    subst e
    exact kk q H1 hP1 hD1 hS1
theorem zr_newq (hx : p.tables.exec = Jvm.exec) (hb : c.code = cc) {own : String} {index : Nat} (hown : s.vm.findClass own = some m.cls) (hclink : (Cond.classLink own index RX1).before args s = true) (hover : va_AO RX1 s) (hK : va_K D vwCl (zTy cs) s) (hP : va_P D vwCl ws H) (hD : va_D A ws) (hS : va_S A H0 H locs) (hA : ∀ q, H0.size ≤ q → A q) {n : Int} {N : Nat} (hn : 0 ≤ n ∧ n ≤ 2147483647) (hN : n.toNat = N) (hbytes : N * 4 ≤ 536870912) (hcells : cells + 1 ≤ R.cells) (hslots : slots + N ≤ R.slots) (hdg : decode cc pc = .ok (.anewarray index, 3))
    (kk : ∀ (q : Nat) (H1 : Heap), va_P D vwCl (ws ++ [(q, .inl (cs 3, N, .inr (.inr (.inr (.inr (fun _ => none))))))]) H1 → va_D A (ws ++ [(q, .inl (cs 3, N, .inr (.inr (.inr (.inr (fun _ => none))))))]) → va_S A H0 H1 locs → W p l e R s m args below meth c H1 locs (cells + 1) (slots + N) Q (F0 m (pc + 3) ls (.ref q :: rest))) : W p l e R s m args below meth c H locs cells slots Q (F0 m pc ls (.int (zI n) :: rest)) := by
  refine va_newq hx hb hown hclink hover hK hP hD hS hA ?_ ?_ hbytes hcells hslots hdg (fun q cA H1 hK1 hP1 hD1 hS1 => ?_)
  · rw [← zI_0, zI_lt (by omega) (by omega)]; omega
  · rw [zI_cl (by omega)]; exact hN
  · have e := zK_u hK1 3 rfl
    subst e
    exact kk q H1 hP1 hD1 hS1
theorem zc_n {w wr : va_W} {w2 : (Nat → Nat → Nat) → va_W} {a0 : Nat} (hr : va_Run p l e R s m args below meth c H locs cells slots mc ms (F0 m pc ls st0) rest (zQn D w H.size a0 w2 a) (va_A w H.size)) (hS : va_S A H0 H locs) (hP : va_P D vwCl ws H) (hD : va_D A ws) (hA : ∀ q, H0.size ≤ q → A q) (isC isR : List Nat) (hC : isC.map (fun i => ws[i]?) = w.map some) (hR : isR.map (fun i => ws[i]?) = wr.map some) (hn : va_nd isR = true) (hdis : ∀ i ∈ isR, i ∉ isC) (kk : ∀ (o : Nat → Nat → Nat) (H1 : Heap) (locs1 : List Loc), o 0 0 = a0 → va_P D vwCl (wr ++ w2 o) H1 → va_D A (wr ++ w2 o) → va_S A H0 H1 locs1 → W p l e R s m args below meth c H1 locs1 (cells + mc) (slots + ms) Q (F0 m (pc + 3) ls rest)) : W p l e R s m args below meth c H locs cells slots Q (F0 m pc ls st0) := by
  have hF := va_free (wc := w) hD hS hA isC hC
  refine va_callv hr hS (fun q _ h => hF q h) hF (fun u t H1 locs1 ht hvm hw hB hz hk hS1 => ?_)
  obtain ⟨o, ho, hP1, hD1⟩ := hB
  rw [ht] at hP1
  obtain ⟨h1, h2⟩ := va_join hP hD isC isR hC hR hn hdis hk hF hP1 hD1
  exact kk o H1 locs1 ho h1 h2 hS1
theorem zr_sald (hx : p.tables.exec = Jvm.exec) (hb : c.code = cc) {t N : Nat} {g : Int → Int} (hT : va_T .int t N (fun j => .int (zA g j)) A s s.heap) (hS : va_S A s.heap H locs) {i : Int} (hn : N < 2147483648) (hi : 0 ≤ i ∧ i < N) (d : decode cc pc = .ok (.iaload, 1)) (k : W p l e R s m args below meth c H locs cells slots Q (F0 m (pc + 1) ls (.int (zI (g i)) :: rest))) : W p l e R s m args below meth c H locs cells slots Q (F0 m pc ls (.int (zI i) :: .ref t :: rest)) :=
  va_ti hx hb hT hS (zI_in hn hi) (v := .int (zI (g i))) (by rw [zI_cl (by omega)]; show Value.int (zI (g ((i.toNat : Nat) : Int))) = _; rw [Int.toNat_of_nonneg hi.1]) d k
theorem zr_scopy (hx : p.tables.exec = Jvm.exec) (hb : c.code = cc) (hml : c.maxLocals = ls.size) {own : String} {index : Nat} (hown : s.vm.findClass own = some m.cls) (hlink : (Cond.methodLink own index arraycopyName).before args s = true) (hnat : (Cond.native arraycopyName).before args s = true) (hstat : (Cond.static arraycopyName).before args s = true) (hini : (Cond.initialized "java/lang/System").before args s = true)
    (hK : va_K D vwCl (zTy cs) s) (hP : va_P D vwCl ws H) (hD : va_D A ws) (hS : va_S A s.heap H locs) {t q : Nat} {f : Int → Int} (hX : va_T .int t 12 (fun j => .int (zA f j)) A s s.heap) (q1 : Nat) (h1 : ws[q1]? = some (q, .inl (cs 0, 12, .inl (zA (fun _ => 0)))))
    (hf : 1 ≤ R.frames) (hlo : (rest.map fun v => v.category).sum + (nativeFrameWords "java/lang/System" "arraycopy" 5 + 11) ≤ R.locals) (d : decode cc pc = .ok (.invokestatic index, 3))
    (kk : ∀ (H1 : Heap) (locs1 : List Loc), va_P D vwCl (ws.set q1 (q, .inl (cs 0, 12, .inl (zA f)))) H1 → va_D A (ws.set q1 (q, .inl (cs 0, 12, .inl (zA f)))) → va_S A s.heap H1 locs1 → W p l e R s m args below meth c H1 locs1 cells slots Q (F0 m (pc + 3) ls rest)) : W p l e R s m args below meth c H locs cells slots Q (F0 m pc ls (.int (zI 12) :: .int (zI 0) :: .ref q :: .int (zI 0) :: .ref t :: rest)) := by
  have z0 : (zI 0).toNatClampNeg = 0 := by rw [zI_cl (by omega)]; rfl
  have z12 : (zI 12).toNatClampNeg = 12 := by rw [zI_cl (by omega)]; rfl
  intro T hT X
  obtain ⟨scr, hs1, hs2, hs3, hs4, -, hs5, hs7⟩ := hX
  have hc0 : H[t]? = some scr := by rw [hS.2.1 t (Array.getElem?_eq_some_iff.mp hs1).1 hs7]; exact hs1
  have hc1 : H[q]? = some (vp_cell (cs 0) (12, .inl (zA (fun _ => 0)))) := hP q1 _ h1
  obtain ⟨hs6, k0, hk0, cm0, hkk0⟩ := hs2
  obtain ⟨-, k1, hk1, cm1, hkk1⟩ := (hK.2 0 (cs 0, .int) rfl).1 12 (fun j => .int (zA (fun _ => 0) j))
  obtain ⟨vm', X', step⟩ := X.arraycopy hx hown hlink hnat hstat hini (src := t) (dst := q) (cs := scr) (cd := vp_cell (cs 0) (12, .inl (zA (fun _ => 0)))) (srcPos := zI 0) (destPos := zI 0) (n := zI 12) (by rw [hT]; exact hc0) (by rw [hT]; exact hc1)
    hs6 (fun _ h => by cases h) hs3 (fun h => by cases h) hk0 hk1 hkk0 hkk1 (by simp [refKind]) (by decide +kernel) (by decide +kernel) (by decide +kernel)
    (by rw [show (zI 0).toInt = 0 by decide +kernel, show (zI 12).toInt = 12 by decide +kernel]; omega)
    (by rw [show (zI 0).toInt = 0 by decide +kernel, show (zI 12).toInt = 12 by decide +kernel]; show ¬ _ > ((arrV (cs 0) 12 (fun j => .int (zA (fun _ => 0) j))).slots.size : Int); rw [arrV_size]; omega)
    (fun vm₁ _ i hi => by
      rw [z12] at hi
      have e : scr.slots.getD ((zI 0).toNatClampNeg + i) .null = .int (zA f i) := by
        rw [z0, Nat.zero_add, Array.getD_eq_getD_getElem?, hs5 _ (by omega)]
        rfl
      rw [e]
      exact ⟨rfl, trivial⟩)
    (g := F0 m pc ls (.int (zI 12) :: .int (zI 0) :: .ref q :: .int (zI 0) :: .ref t :: rest)) rfl (by rw [hml]) (rest := rest) rfl (by rw [hb]; exact d) hf (by show 2 * 0 + _ + _ ≤ _; omega)
  have e1 : copied scr (vp_cell (cs 0) (12, .inl (zA (fun _ => 0)))) (zI 0) (zI 0) (zI 12) = vp_cell (cs 0) (12, .inl (zA f)) := by
    have e2 : copied scr (vp_cell (cs 0) (12, .inl (zA (fun _ => 0)))) (zI 0) (zI 0) (zI 12) = vp_cell (cs 0) (12, .inl (va_cpy (zA f) (zA (fun _ => 0)) (zI 0).toNatClampNeg (zI 0).toNatClampNeg (zI 12).toNatClampNeg)) := va_copiedX (fun z => .int z) scr (cs 0) (zA f) (zA (fun _ => 0)) hs5 (by rw [z0, z12]; omega)
    rw [e2, z0, z12, vp_cell_i, vp_cell_i]
    exact zV_congr _ (fun k hk => congrArg Value.int (by unfold va_cpy; rw [if_pos (by omega)]; congr 1; omega))
  rw [e1] at X' step
  have hl : q < H.size := (Array.getElem?_eq_some_iff.mp hc1).1
  have hheap : ((T.setVm vm').setCell q (vp_cell (cs 0) (12, .inl (zA f)))).heap = H.setIfInBounds q (vp_cell (cs 0) (12, .inl (zA f))) := by rw [← hT]; rfl
  have oq : ∀ x : Nat, x ≠ q → (H.setIfInBounds q (vp_cell (cs 0) (12, .inl (zA f))))[x]? = H[x]? := fun x hx => by simp [Array.getElem?_setIfInBounds, Ne.symm hx]
  obtain ⟨t2, a1, b1⟩ := kk _ _ (hP.set hD h1 (show (H.setIfInBounds q _)[q]? = some _ by simp [Array.getElem?_setIfInBounds, hl]) oq) (hD.set h1) ⟨by simp; exact hS.1, fun x g1 g2 => by
      rw [oq x (fun e => g2 (by rw [e]; exact hD.2 q1 _ h1))]
      exact hS.2.1 x g1 g2, fun x hx => by
      rcases List.mem_append.mp hx with h | h
      · exact hS.2.2 x h
      · obtain ⟨z, -, hz⟩ := List.mem_map.mp h
        rw [← hz]
        exact hD.2 q1 _ h1⟩ _ hheap X'
  exact ⟨t2, step t2 a1, b1⟩
end ZCN
