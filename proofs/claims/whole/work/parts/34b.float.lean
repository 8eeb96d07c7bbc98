/-! floats: the methods -/
theorem zcm_lt (op : CmpOp) : Op.cmpValue (some .lt) op = zI (-1) := by cases op <;> rfl
theorem zcm_eq (op : CmpOp) : Op.cmpValue (some .eq) op = zI 0 := by cases op <;> rfl
theorem zcm_ge (P : Prop) [Decidable P] (op : CmpOp) : Op.cmpValue (some (if P then .eq else .gt)) op = zI (if P then 0 else 1) := by
  cases op <;> (split <;> rfl)
section ZFW
variable {p : Program} {l : Launch} {e : Env} {R : Room} {s : State} {m : MethodId} {args : Array Value} {below : List Frame} {meth : Method} {c : Code} {H : Heap} {locs : List Loc} {cells slots : Nat} {Q : State → Prop}
variable {cc : ByteArray} {pc : Nat} {ls : Array Slot} {rest st0 : List Value} {a : Array Value} {A0 : Nat → Prop} {H0 : Heap} {mc ms : Nat}
theorem zr_ldcwf (hexec : p.tables.exec = Jvm.exec) (hb : c.code = cc) {own : String} {index : Nat} {v : UInt32} (hown : s.vm.findClass own = some m.cls) (hconst : (Jvm.Cond.constantFloat own index v).before args s = true) (hdg : decode cc pc = .ok (.ldc_w index, 3)) (k : W p l e R s m args below meth c H locs cells slots Q (F0 m (pc + 3) ls (.float v :: rest))) : W p l e R s m args below meth c H locs cells slots Q (F0 m pc ls rest) := by
  intro T hT X
  obtain ⟨t, a1, b1⟩ := k T hT X
  obtain ⟨kk, cf, hk, hcf, hcp⟩ := Cond.constantFloat_spec hown hconst
  obtain ⟨k', hk', he⟩ := X.warmed.alike.2.2 _ _ hk
  have hdg : decode c.code (F0 m pc ls rest).pc = .ok (.ldc_w index, 3) := by rw [hb]; exact hdg
  refine ⟨t, ?_, b1⟩
  jvm_step X.here [hexec, hdg, ldc_w.wp_float (s := T) (f := F0 m pc ls rest) X.here.top hk' (by rw [he]; exact hcf) hcp]
  exact a1
def zRdd (v : UInt64) : Array Value → State → Outcome → State → Prop := fun _ st o t => o = .returned (some (.double v)) ∧ t.heap = st.heap
def zQdd (D : va_G) (w : va_W) (sz : Nat) (v : UInt64) (w2 : va_W) : Array Value → State → Outcome → State → Prop := va_Qd (fun r (_ : Unit) => r = v) (fun _ t => zB2 D w2 w sz t) (va_A w sz)
theorem zc_rdd {v : UInt64} (hr : va_Run p l e R s m args below meth c H locs cells slots 0 0 (F0 m pc ls st0) rest (zRdd v a) (fun _ => False)) (kk : W p l e R s m args below meth c H locs cells slots Q (F0 m (pc + 3) ls (.double v :: rest))) : W p l e R s m args below meth c H locs cells slots Q (F0 m pc ls st0) := by
  intro T hT X
  obtain ⟨v1, st₀, t, T', L, h0, X', hL, e1, e2, ⟨hv, hh⟩, st⟩ := hr T hT X
  cases hv
  obtain ⟨t2, a1, b1⟩ := kk T' (by rw [e1, hh, h0]) (Stand.forget X' (fun q h => (hL q h).elim))
  exact ⟨t2, st t2 a1, b1⟩
theorem zc_ddj {D : va_G} {ws w w2 wr : va_W} {v : UInt64} (hr : va_Run p l e R s m args below meth c H locs cells slots mc ms (F0 m pc ls st0) rest (zQdd D w H.size v w2 a) (va_A w H.size)) (hS : va_S A0 H0 H locs) (hP : va_P D vwCl ws H) (hD : va_D A0 ws) (hA : ∀ q, H0.size ≤ q → A0 q) (isC isR : List Nat) (hC : isC.map (fun i => ws[i]?) = w.map some) (hR : isR.map (fun i => ws[i]?) = wr.map some) (hn : va_nd isR = true) (hdis : ∀ i ∈ isR, i ∉ isC) (kk : ∀ (H1 : Heap) (locs1 : List Loc), va_P D vwCl (wr ++ w2) H1 → va_D A0 (wr ++ w2) → va_S A0 H0 H1 locs1 → W p l e R s m args below meth c H1 locs1 (cells + mc) (slots + ms) Q (F0 m (pc + 3) ls (.double v :: rest))) : W p l e R s m args below meth c H locs cells slots Q (F0 m pc ls st0) := by
  have hF := va_free (wc := w) hD hS hA isC hC
  refine va_calld hr hS (fun q _ h => hF q h) hF (fun r u t H1 locs1 ht hvm hw hB hz hk hS1 => ?_)
  subst hw
  obtain ⟨hP1, hD1⟩ := hB
  rw [ht] at hP1
  obtain ⟨h1, h2⟩ := va_join hP hD isC isR hC hR hn hdis hk hF hP1 hD1
  exact kk H1 locs1 h1 h2 hS1
end ZFW
theorem zD_vA {n : Int} {A : Int → Int} (hI : zOK n A) (hn : 0 ≤ n ∧ n ≤ 3100000) : vf_n64 (Jvm.FP.ddiv (Jvm.FP.l2d (zL (A 41))) (Jvm.FP.l2d (zL (2 * A 38)))) := by
  have q := zOK_q hI
  have q41 := q.2.2.2.2.2.2.1
  have h := zD_v (x := (A 41).toNat) (y := (2 * A 38).toNat) (by omega) (by omega)
  rw [Int.toNat_of_nonneg (by omega), Int.toNat_of_nonneg (by omega)] at h
  exact h
noncomputable def zCy (A : Int → Int) : UInt64 := Jvm.FP.ddiv (Jvm.FP.l2d (zL (A 41))) (Jvm.FP.l2d (zL (2 * A 38)))
set_option maxHeartbeats 4000000 in
set_option maxRecDepth 100000 in
theorem met_X5_bitsOf (l : Launch) (ke kt : Nat) (hke : 125 ≤ ke ∧ ke ≤ 127) (hkt : kt < 8388608) : Met l yX5_bitsOf wsX5_bitsOf ({ frames := 0, cells := 0, slots := 0, locals := 0 }) (va_Pc [.float (zFb ke kt)] (fun _ => True)) (zRi (zI ((ke * 8388608 + kt : Nat) : Int))) 0 0 (fun _ => False) := by
  refine Met.ofW (cc := cX5_bitsOf) (maxL := 4) (ret := (some .int)) (by decide) rfl ?_
  intro p e s m args below meth c s₁ B hml hv
  obtain ⟨rfl, -⟩ := hv
  have hx := B.exec
  have hb := B.bytes
  have hr := B.returns
  have hts := atoms_spec (ws := wsX5_bitsOf) B.pre
  have hown : s.vm.findClass RX5 = some m.cls := findClass_of_methodNamed B.named
  have hlocks := B.notSynchronized
  have hl := lv_entry ([.float (zFb ke kt)]) (n := 4) (Nat.le_of_ble_eq_true rfl)
  rw [lg_entry_eq]
  generalize (lg_sl ([.float (zFb ke kt)]) ++ List.replicate (4 - (lg_sl ([.float (zFb ke kt)])).length) Slot.unset).toArray = ls at hl ⊢
  have hl : lv_has ls 4 [(0, .float (zFb ke kt))] := hl
  rcases (show ke = 127 ∨ ke = 126 ∨ ke = 125 by omega) with rfl | rfl | rfl
  · refine lv_fload_n hx hb dX5_bitsOf_0 rfl (lv_at hl 0 rfl) ?_
    refine lv_fstore_n (lv' := [(1, .float (zFb 127 kt)), (0, .float (zFb 127 kt))]) hx hb dX5_bitsOf_1 rfl hl (by decide) rfl (fun ls hl => ?_)
    refine zr_bipush hx hb dX5_bitsOf_2 (by decide) ?_
    refine lv_istore_n (lv' := [(2, .int (zI 127)), (1, .float (zFb 127 kt)), (0, .float (zFb 127 kt))]) hx hb dX5_bitsOf_4 rfl hl (by decide) rfl (fun ls hl => ?_)
    refine zr_iconst hx hb dX5_bitsOf_5 ?_
    refine lv_istore_n (lv' := [(3, .int (zI 0)), (2, .int (zI 127)), (1, .float (zFb 127 kt)), (0, .float (zFb 127 kt))]) hx hb dX5_bitsOf_6 rfl hl (by decide) rfl (fun ls hl => ?_)
    refine lv_iload_n hx hb dX5_bitsOf_7 rfl (lv_at hl 0 rfl) ?_
    refine zr_bipush hx hb dX5_bitsOf_8 (by decide) ?_
    refine zr_icmp_ge (tgt := 32) hx hb dX5_bitsOf_10 (by decide) (by decide) (by decide) (fun h9 => absurd h9 (by decide)) (fun _ => ?_)
    refine lv_fload_n hx hb dX5_bitsOf_13 rfl (lv_at hl 2 rfl) ?_
    refine lv_fconst1 hx hb dX5_bitsOf_14 ?_
    refine lv_fcmp hx hb dX5_bitsOf_15 ?_
    rw [zF_ge1 hkt, zcm_ge]
    refine zr_if_ge (tgt := 32) hx hb dX5_bitsOf_16 (by decide) (by split <;> decide) (fun _ => ?_) (fun h9 => absurd h9 (by split <;> decide))
    refine lv_iload_n hx hb dX5_bitsOf_32 rfl (lv_at hl 1 rfl) ?_
    refine zr_bipush hx hb dX5_bitsOf_33 (by decide) ?_
    refine lv_ishl hx hb dX5_bitsOf_35 ?_
    refine lv_fload_n hx hb dX5_bitsOf_36 rfl (lv_at hl 2 rfl) ?_
    refine lv_fconst1 hx hb dX5_bitsOf_37 ?_
    refine lv_fsub hx hb dX5_bitsOf_38 (zF_frac hkt).1 ?_
    refine zr_ldcwf (v := 1258291200) hx hb hown (hts (.constantFloat RX5 257 (1258291200)) (List.mem_of_getElem? (i := 1) rfl)) dX5_bitsOf_39 ?_
    refine lv_fmul hx hb dX5_bitsOf_42 (zF_frac hkt).2.1 ?_
    refine lv_f2i hx hb dX5_bitsOf_43 ?_
    rw [(zF_frac hkt).2.2]
    refine lv_iadd hx hb dX5_bitsOf_44 ?_
    exact W.iret hx hb hr (fun t ht hW => ⟨_, rfl, (show zI 127 <<< (zI 23 &&& 31) + zI (kt : Int) = zI ((127 * 8388608 + kt : Nat) : Int) by rw [show zI 127 <<< (zI 23 &&& 31) = zI (127 * 8388608) by decide +kernel, zI_add]; congr 1), ht⟩) (fun q hq => absurd hq List.not_mem_nil) dX5_bitsOf_45
  · refine lv_fload_n hx hb dX5_bitsOf_0 rfl (lv_at hl 0 rfl) ?_
    refine lv_fstore_n (lv' := [(1, .float (zFb 126 kt)), (0, .float (zFb 126 kt))]) hx hb dX5_bitsOf_1 rfl hl (by decide) rfl (fun ls hl => ?_)
    refine zr_bipush hx hb dX5_bitsOf_2 (by decide) ?_
    refine lv_istore_n (lv' := [(2, .int (zI 127)), (1, .float (zFb 126 kt)), (0, .float (zFb 126 kt))]) hx hb dX5_bitsOf_4 rfl hl (by decide) rfl (fun ls hl => ?_)
    refine zr_iconst hx hb dX5_bitsOf_5 ?_
    refine lv_istore_n (lv' := [(3, .int (zI 0)), (2, .int (zI 127)), (1, .float (zFb 126 kt)), (0, .float (zFb 126 kt))]) hx hb dX5_bitsOf_6 rfl hl (by decide) rfl (fun ls hl => ?_)
    refine lv_iload_n hx hb dX5_bitsOf_7 rfl (lv_at hl 0 rfl) ?_
    refine zr_bipush hx hb dX5_bitsOf_8 (by decide) ?_
    refine zr_icmp_ge (tgt := 32) hx hb dX5_bitsOf_10 (by decide) (by decide) (by decide) (fun h9 => absurd h9 (by decide)) (fun _ => ?_)
    refine lv_fload_n hx hb dX5_bitsOf_13 rfl (lv_at hl 2 rfl) ?_
    refine lv_fconst1 hx hb dX5_bitsOf_14 ?_
    refine lv_fcmp hx hb dX5_bitsOf_15 ?_
    rw [zF_lt1 (e := 126) (by decide) hkt, zcm_lt]
    refine zr_if_ge (tgt := 32) hx hb dX5_bitsOf_16 (by decide) (by decide) (fun h9 => absurd h9 (by decide)) (fun _ => ?_)
    refine lv_fload_n hx hb dX5_bitsOf_19 rfl (lv_at hl 2 rfl) ?_
    refine lv_fconst2 hx hb dX5_bitsOf_20 ?_
    refine lv_fmul hx hb dX5_bitsOf_21 (by rw [zF_mul2 (e := 126) (by decide) hkt]; exact zFb_v (by decide) hkt) ?_
    rw [zF_mul2 (e := 126) (by decide) hkt]
    refine lv_fstore_n (lv' := [(1, .float (zFb 127 kt)), (3, .int (zI 0)), (2, .int (zI 127)), (0, .float (zFb 126 kt))]) hx hb dX5_bitsOf_22 rfl hl (by decide) rfl (fun ls hl => ?_)
    refine zr_iinc (kk := 2) (lv' := [(2, .int (zI 126)), (1, .float (zFb 127 kt)), (3, .int (zI 0)), (0, .float (zFb 126 kt))]) hx hb dX5_bitsOf_23 hl rfl (by decide) rfl (fun ls hl => ?_)
    refine zr_iinc (kk := 2) (lv' := [(3, .int (zI 1)), (2, .int (zI 126)), (1, .float (zFb 127 kt)), (0, .float (zFb 126 kt))]) hx hb dX5_bitsOf_26 hl rfl (by decide) rfl (fun ls hl => ?_)
    refine lv_goto (tgt := 7) hx hb dX5_bitsOf_29 (by decide) ?_
    refine lv_iload_n hx hb dX5_bitsOf_7 rfl (lv_at hl 0 rfl) ?_
    refine zr_bipush hx hb dX5_bitsOf_8 (by decide) ?_
    refine zr_icmp_ge (tgt := 32) hx hb dX5_bitsOf_10 (by decide) (by decide) (by decide) (fun h9 => absurd h9 (by decide)) (fun _ => ?_)
    refine lv_fload_n hx hb dX5_bitsOf_13 rfl (lv_at hl 2 rfl) ?_
    refine lv_fconst1 hx hb dX5_bitsOf_14 ?_
    refine lv_fcmp hx hb dX5_bitsOf_15 ?_
    rw [zF_ge1 hkt, zcm_ge]
    refine zr_if_ge (tgt := 32) hx hb dX5_bitsOf_16 (by decide) (by split <;> decide) (fun _ => ?_) (fun h9 => absurd h9 (by split <;> decide))
    refine lv_iload_n hx hb dX5_bitsOf_32 rfl (lv_at hl 1 rfl) ?_
    refine zr_bipush hx hb dX5_bitsOf_33 (by decide) ?_
    refine lv_ishl hx hb dX5_bitsOf_35 ?_
    refine lv_fload_n hx hb dX5_bitsOf_36 rfl (lv_at hl 2 rfl) ?_
    refine lv_fconst1 hx hb dX5_bitsOf_37 ?_
    refine lv_fsub hx hb dX5_bitsOf_38 (zF_frac hkt).1 ?_
    refine zr_ldcwf (v := 1258291200) hx hb hown (hts (.constantFloat RX5 257 (1258291200)) (List.mem_of_getElem? (i := 1) rfl)) dX5_bitsOf_39 ?_
    refine lv_fmul hx hb dX5_bitsOf_42 (zF_frac hkt).2.1 ?_
    refine lv_f2i hx hb dX5_bitsOf_43 ?_
    rw [(zF_frac hkt).2.2]
    refine lv_iadd hx hb dX5_bitsOf_44 ?_
    exact W.iret hx hb hr (fun t ht hW => ⟨_, rfl, (show zI 126 <<< (zI 23 &&& 31) + zI (kt : Int) = zI ((126 * 8388608 + kt : Nat) : Int) by rw [show zI 126 <<< (zI 23 &&& 31) = zI (126 * 8388608) by decide +kernel, zI_add]; congr 1), ht⟩) (fun q hq => absurd hq List.not_mem_nil) dX5_bitsOf_45
  · refine lv_fload_n hx hb dX5_bitsOf_0 rfl (lv_at hl 0 rfl) ?_
    refine lv_fstore_n (lv' := [(1, .float (zFb 125 kt)), (0, .float (zFb 125 kt))]) hx hb dX5_bitsOf_1 rfl hl (by decide) rfl (fun ls hl => ?_)
    refine zr_bipush hx hb dX5_bitsOf_2 (by decide) ?_
    refine lv_istore_n (lv' := [(2, .int (zI 127)), (1, .float (zFb 125 kt)), (0, .float (zFb 125 kt))]) hx hb dX5_bitsOf_4 rfl hl (by decide) rfl (fun ls hl => ?_)
    refine zr_iconst hx hb dX5_bitsOf_5 ?_
    refine lv_istore_n (lv' := [(3, .int (zI 0)), (2, .int (zI 127)), (1, .float (zFb 125 kt)), (0, .float (zFb 125 kt))]) hx hb dX5_bitsOf_6 rfl hl (by decide) rfl (fun ls hl => ?_)
    refine lv_iload_n hx hb dX5_bitsOf_7 rfl (lv_at hl 0 rfl) ?_
    refine zr_bipush hx hb dX5_bitsOf_8 (by decide) ?_
    refine zr_icmp_ge (tgt := 32) hx hb dX5_bitsOf_10 (by decide) (by decide) (by decide) (fun h9 => absurd h9 (by decide)) (fun _ => ?_)
    refine lv_fload_n hx hb dX5_bitsOf_13 rfl (lv_at hl 2 rfl) ?_
    refine lv_fconst1 hx hb dX5_bitsOf_14 ?_
    refine lv_fcmp hx hb dX5_bitsOf_15 ?_
    rw [zF_lt1 (e := 125) (by decide) hkt, zcm_lt]
    refine zr_if_ge (tgt := 32) hx hb dX5_bitsOf_16 (by decide) (by decide) (fun h9 => absurd h9 (by decide)) (fun _ => ?_)
    refine lv_fload_n hx hb dX5_bitsOf_19 rfl (lv_at hl 2 rfl) ?_
    refine lv_fconst2 hx hb dX5_bitsOf_20 ?_
    refine lv_fmul hx hb dX5_bitsOf_21 (by rw [zF_mul2 (e := 125) (by decide) hkt]; exact zFb_v (by decide) hkt) ?_
    rw [zF_mul2 (e := 125) (by decide) hkt]
    refine lv_fstore_n (lv' := [(1, .float (zFb 126 kt)), (3, .int (zI 0)), (2, .int (zI 127)), (0, .float (zFb 125 kt))]) hx hb dX5_bitsOf_22 rfl hl (by decide) rfl (fun ls hl => ?_)
    refine zr_iinc (kk := 2) (lv' := [(2, .int (zI 126)), (1, .float (zFb 126 kt)), (3, .int (zI 0)), (0, .float (zFb 125 kt))]) hx hb dX5_bitsOf_23 hl rfl (by decide) rfl (fun ls hl => ?_)
    refine zr_iinc (kk := 2) (lv' := [(3, .int (zI 1)), (2, .int (zI 126)), (1, .float (zFb 126 kt)), (0, .float (zFb 125 kt))]) hx hb dX5_bitsOf_26 hl rfl (by decide) rfl (fun ls hl => ?_)
    refine lv_goto (tgt := 7) hx hb dX5_bitsOf_29 (by decide) ?_
    refine lv_iload_n hx hb dX5_bitsOf_7 rfl (lv_at hl 0 rfl) ?_
    refine zr_bipush hx hb dX5_bitsOf_8 (by decide) ?_
    refine zr_icmp_ge (tgt := 32) hx hb dX5_bitsOf_10 (by decide) (by decide) (by decide) (fun h9 => absurd h9 (by decide)) (fun _ => ?_)
    refine lv_fload_n hx hb dX5_bitsOf_13 rfl (lv_at hl 2 rfl) ?_
    refine lv_fconst1 hx hb dX5_bitsOf_14 ?_
    refine lv_fcmp hx hb dX5_bitsOf_15 ?_
    rw [zF_lt1 (e := 126) (by decide) hkt, zcm_lt]
    refine zr_if_ge (tgt := 32) hx hb dX5_bitsOf_16 (by decide) (by decide) (fun h9 => absurd h9 (by decide)) (fun _ => ?_)
    refine lv_fload_n hx hb dX5_bitsOf_19 rfl (lv_at hl 2 rfl) ?_
    refine lv_fconst2 hx hb dX5_bitsOf_20 ?_
    refine lv_fmul hx hb dX5_bitsOf_21 (by rw [zF_mul2 (e := 126) (by decide) hkt]; exact zFb_v (by decide) hkt) ?_
    rw [zF_mul2 (e := 126) (by decide) hkt]
    refine lv_fstore_n (lv' := [(1, .float (zFb 127 kt)), (3, .int (zI 1)), (2, .int (zI 126)), (0, .float (zFb 125 kt))]) hx hb dX5_bitsOf_22 rfl hl (by decide) rfl (fun ls hl => ?_)
    refine zr_iinc (kk := 2) (lv' := [(2, .int (zI 125)), (1, .float (zFb 127 kt)), (3, .int (zI 1)), (0, .float (zFb 125 kt))]) hx hb dX5_bitsOf_23 hl rfl (by decide) rfl (fun ls hl => ?_)
    refine zr_iinc (kk := 2) (lv' := [(3, .int (zI 2)), (2, .int (zI 125)), (1, .float (zFb 127 kt)), (0, .float (zFb 125 kt))]) hx hb dX5_bitsOf_26 hl rfl (by decide) rfl (fun ls hl => ?_)
    refine lv_goto (tgt := 7) hx hb dX5_bitsOf_29 (by decide) ?_
    refine lv_iload_n hx hb dX5_bitsOf_7 rfl (lv_at hl 0 rfl) ?_
    refine zr_bipush hx hb dX5_bitsOf_8 (by decide) ?_
    refine zr_icmp_ge (tgt := 32) hx hb dX5_bitsOf_10 (by decide) (by decide) (by decide) (fun h9 => absurd h9 (by decide)) (fun _ => ?_)
    refine lv_fload_n hx hb dX5_bitsOf_13 rfl (lv_at hl 2 rfl) ?_
    refine lv_fconst1 hx hb dX5_bitsOf_14 ?_
    refine lv_fcmp hx hb dX5_bitsOf_15 ?_
    rw [zF_ge1 hkt, zcm_ge]
    refine zr_if_ge (tgt := 32) hx hb dX5_bitsOf_16 (by decide) (by split <;> decide) (fun _ => ?_) (fun h9 => absurd h9 (by split <;> decide))
    refine lv_iload_n hx hb dX5_bitsOf_32 rfl (lv_at hl 1 rfl) ?_
    refine zr_bipush hx hb dX5_bitsOf_33 (by decide) ?_
    refine lv_ishl hx hb dX5_bitsOf_35 ?_
    refine lv_fload_n hx hb dX5_bitsOf_36 rfl (lv_at hl 2 rfl) ?_
    refine lv_fconst1 hx hb dX5_bitsOf_37 ?_
    refine lv_fsub hx hb dX5_bitsOf_38 (zF_frac hkt).1 ?_
    refine zr_ldcwf (v := 1258291200) hx hb hown (hts (.constantFloat RX5 257 (1258291200)) (List.mem_of_getElem? (i := 1) rfl)) dX5_bitsOf_39 ?_
    refine lv_fmul hx hb dX5_bitsOf_42 (zF_frac hkt).2.1 ?_
    refine lv_f2i hx hb dX5_bitsOf_43 ?_
    rw [(zF_frac hkt).2.2]
    refine lv_iadd hx hb dX5_bitsOf_44 ?_
    exact W.iret hx hb hr (fun t ht hW => ⟨_, rfl, (show zI 125 <<< (zI 23 &&& 31) + zI (kt : Int) = zI ((125 * 8388608 + kt : Nat) : Int) by rw [show zI 125 <<< (zI 23 &&& 31) = zI (125 * 8388608) by decide +kernel, zI_add]; congr 1), ht⟩) (fun q hq => absurd hq List.not_mem_nil) dX5_bitsOf_45
set_option maxHeartbeats 4000000 in
set_option maxRecDepth 100000 in
theorem met_Jxf58ca_isNaN_12338 (l : Launch) (ke kt : Nat) (hke : 1 ≤ ke ∧ ke ≤ 254) (hkt : kt < 8388608) : Met l yJxf58ca_isNaN_12338 wsJxf58ca_isNaN_12338 ({ frames := 0, cells := 0, slots := 0, locals := 0 }) (va_Pc [.float (zFb ke kt)] (fun _ => True)) (zRi (zI 0)) 0 0 (fun _ => False) := by
  refine va_MetF (cc := cJxf58ca_isNaN_12338) (maxL := 1) (ret := (some .boolean)) (by decide +kernel) rfl ?_
  intro p e s m args below meth c s₁ B hml hv
  obtain ⟨rfl, -⟩ := hv
  have hx := B.exec
  have hb := B.bytes
  have hr := B.returns
  have hts := atoms_spec (ws := wsJxf58ca_isNaN_12338) B.pre
  have hown : s.vm.findClass RJxf58ca = some m.cls := findClass_of_methodNamed B.named
  have hlocks := B.notSynchronized
  have hl := lv_entry ([.float (zFb ke kt)]) (n := 1) (Nat.le_of_ble_eq_true rfl)
  rw [lg_entry_eq]
  generalize (lg_sl ([.float (zFb ke kt)]) ++ List.replicate (1 - (lg_sl ([.float (zFb ke kt)])).length) Slot.unset).toArray = ls at hl ⊢
  have hl : lv_has ls 1 [(0, .float (zFb ke kt))] := hl
  refine lv_fload_n hx hb dJxf58ca_isNaN_12338_0 rfl (lv_at hl 0 rfl) ?_
  refine lv_fload_n hx hb dJxf58ca_isNaN_12338_1 rfl (lv_at hl 0 rfl) ?_
  refine lv_fcmp hx hb dJxf58ca_isNaN_12338_2 ?_
  rw [zF_self hke hkt, zcm_eq]
  refine zr_if_eq (tgt := 10) hx hb dJxf58ca_isNaN_12338_3 (by decide) (by decide) (fun _ => ?_) (fun h9 => absurd rfl h9)
  refine zr_iconst hx hb dJxf58ca_isNaN_12338_10 ?_
  exact W.zret hx hb hr (zbool_n (by decide)) (fun t ht hW => ⟨_, rfl, rfl, ht⟩) (fun q hq => absurd hq List.not_mem_nil) dJxf58ca_isNaN_12338_11
set_option maxHeartbeats 4000000 in
set_option maxRecDepth 100000 in
theorem met_Jxf58ca_floatToIntBits_5c35a (l : Launch) (ke kt : Nat) (hke : 1 ≤ ke ∧ ke ≤ 254) (hkt : kt < 8388608) : Met l yJxf58ca_floatToIntBits_5c35a wsJxf58ca_floatToIntBits_5c35a ({ frames := 1, cells := 0, slots := 0, locals := 20 }) (va_Pc [.float (zFb ke kt)] (fun _ => True)) (zRi (zI ((ke * 8388608 + kt : Nat) : Int))) 0 0 (fun _ => False) := by
  refine va_MetF (cc := cJxf58ca_floatToIntBits_5c35a) (maxL := 1) (ret := (some .int)) (by decide +kernel) rfl ?_
  intro p e s m args below meth c s₁ B hml hv
  obtain ⟨rfl, -⟩ := hv
  have hx := B.exec
  have hb := B.bytes
  have hr := B.returns
  have hts := atoms_spec (ws := wsJxf58ca_floatToIntBits_5c35a) B.pre
  have hown : s.vm.findClass RJxf58ca = some m.cls := findClass_of_methodNamed B.named
  have hlocks := B.notSynchronized
  have hl := lv_entry ([.float (zFb ke kt)]) (n := 1) (Nat.le_of_ble_eq_true rfl)
  rw [lg_entry_eq]
  generalize (lg_sl ([.float (zFb ke kt)]) ++ List.replicate (1 - (lg_sl ([.float (zFb ke kt)])).length) Slot.unset).toArray = ls at hl ⊢
  have hl : lv_has ls 1 [(0, .float (zFb ke kt))] := hl
  refine lv_fload_n hx hb dJxf58ca_floatToIntBits_5c35a_0 rfl (lv_at hl 0 rfl) ?_
  refine zc_ri (va_runS (As := [.float (zFb ke kt)]) (rest := []) ⟨hx, hb, hml, hown, hts⟩ (met_Jxf58ca_isNaN_12338 l ke kt hke hkt) (va_cwS 1 hts gJxf58ca_floatToIntBits_5c35a_Jxf58ca_isNaN_12338 rfl rfl rfl (by decide +kernel) ⟨(Nat.le_of_ble_eq_true rfl), (Nat.le_of_ble_eq_true rfl)⟩) ⟨zTrue.blind, fun U hU hW => ⟨rfl, trivial⟩⟩ rfl rfl hl.1 rfl (lv_room (Nat.le_of_ble_eq_true rfl)) dJxf58ca_floatToIntBits_5c35a_1 ⟨(Nat.le_of_ble_eq_true rfl), (Nat.le_of_ble_eq_true rfl)⟩) ?_
  refine zr_if_ne (tgt := 12) hx hb dJxf58ca_floatToIntBits_5c35a_4 (by decide) (by decide) (fun h9 => absurd rfl h9) (fun _ => ?_)
  refine lv_fload_n hx hb dJxf58ca_floatToIntBits_5c35a_7 rfl (lv_at hl 0 rfl) ?_
  refine vn_f2i hx hb (hml.trans hl.1.symm) hown (hts (.methodLink RJxf58ca 74 ⟨"java/lang/Float", "floatToRawIntBits", "(F)I"⟩) (by decide +kernel)) (hts (.native ⟨"java/lang/Float", "floatToRawIntBits", "(F)I"⟩) (by decide +kernel)) (hts (.static ⟨"java/lang/Float", "floatToRawIntBits", "(F)I"⟩) (by decide +kernel)) (hts (.initialized "java/lang/Float") (by decide +kernel)) (Nat.le_of_ble_eq_true rfl) (Nat.le_of_ble_eq_true rfl) dJxf58ca_floatToIntBits_5c35a_8 ?_
  exact W.iret hx hb hr (fun t ht hW => ⟨_, rfl, zFb_i hke.2 hkt, ht⟩) (fun q hq => absurd hq List.not_mem_nil) dJxf58ca_floatToIntBits_5c35a_11
