/-! the class: rows for what throws, and for void reads -/
def zRn : Array Value → State → Outcome → State → Prop := fun _ st o t => o = .returned none ∧ t.heap = st.heap
def zXb (w : Cond) : Bool := match w with
  | .declares _ => true
  | .castable _ _ => true
  | _ => false
/-- the words of the three kinds of throw that are no good words -/
def zXw : List Cond := (vx_atS RX5 92 "java/lang/IllegalArgumentException" ["java/lang/RuntimeException", "java/lang/Exception"]).filter (fun w => !goodWord w) ++ ((vx_atS RX5 161 "java/lang/IndexOutOfBoundsException" ["java/lang/RuntimeException", "java/lang/Exception"]).filter (fun w => !goodWord w) ++ (vx_atS RX5 201 "java/lang/IllegalStateException" ["java/lang/RuntimeException", "java/lang/Exception"]).filter (fun w => !goodWord w))
theorem zXw_b : zXw.all zXb = true := by decide +kernel
theorem zXb_t {w : Cond} (h : zXb w = true) : w.onTables = true := by
  cases w <;> first | rfl | exact Bool.noConfusion (show false = true from h)
theorem zXb_w {w : Cond} {s U : State} (h : zXb w = true) (hW : s.WarmedH U.vm) (k : va_Nw w s) : va_Nw w U := by
  cases w <;> first | exact va_Nw.warmD hW k | exact va_Nw.warmC hW k | exact Bool.noConfusion (show false = true from h)
def zXt : List (Nat × String) := [(159, "there is no such anchor"), (175, "the current is 0"), (199, "the text is full"), (222, "there is no saved state"), (241, "an argument is out of range"), (243, "there is no such point"), (245, "a measurement is out of range"), (90, "a branch would not be strictly ascending")]
/-- what a throw needs of the machine: words, strings, two statics of Throwable, and the class's own tables -/
def zXF (U : State) (H : Heap) : Prop := ((∀ w ∈ zXw, va_Nw w U) ∧ ∀ q ∈ zXt, ∃ a : Nat, vk_R RX5 q.1 q.2 a U) ∧ (vx_Zq Bundle.tN "UNASSIGNED_STACK" Bundle.steD (fun _ => False) U H ∧ vx_Zq Bundle.tN "SUPPRESSED_SENTINEL" Bundle.listD (fun _ => False) U H) ∧ zSX (fun _ => False) U H
theorem zXF.warm {s U : State} {H : Heap} (h : zXF s H) (hW : s.WarmedH U.vm) : zXF U H :=
  ⟨⟨fun w hw => zXb_w (List.all_eq_true.mp zXw_b w hw) hW (h.1.1 w hw), fun q hq => (h.1.2 q hq).imp fun _ k => vk_R.warm hW k⟩, ⟨vx_Zq.moved hW.alike h.2.1.1, vx_Zq.moved hW.alike h.2.1.2⟩, h.2.2.step (fun _ _ _ => rfl) (fun _ k => k) hW.alike⟩
theorem zXF.same {u U : State} {H : Heap} (h : zXF u H) (e : u.vm = U.vm) : zXF U H :=
  ⟨⟨fun w hw => va_Nw.same (zXb_t (List.all_eq_true.mp zXw_b w hw)) e (h.1.1 w hw), fun q hq => (h.1.2 q hq).imp fun _ k => vk_R.same e.symm k⟩, ⟨vx_Zq.moved (by rw [e]; exact Vm.Alike.refl U.vm) h.2.1.1, vx_Zq.moved (by rw [e]; exact Vm.Alike.refl U.vm) h.2.1.2⟩, h.2.2.step (fun _ _ _ => rfl) (fun _ k => k) (by rw [e]; exact Vm.Alike.refl U.vm)⟩
def zPreY (U : State) : Prop := zXF U U.heap
theorem zPreY.blind {av : List Value} : FrameBlind (va_Pc av zPreY) := fun a U g mk ⟨h0, h1⟩ => ⟨h0, zXF.same (u := U) (U := U.calling g mk a) (H := U.heap) h1 rfl⟩
theorem zp_Y {s U : State} {H : Heap} {av : List Value} (hX : zXF s H) (hU : U.heap = H) (hW : s.WarmedH U.vm) : va_Pc av zPreY av.toArray U := ⟨rfl, by show zXF U U.heap; rw [hU]; exact hX.warm hW⟩
def zPreX (D : va_G) (tys : List (ClassId × FieldType)) (w : va_W) (U : State) : Prop := zPre D tys w U ∧ zPreY U
theorem zPreX.blind {D : va_G} {tys : List (ClassId × FieldType)} {w : va_W} {av : List Value} : FrameBlind (va_Pc av (zPreX D tys w)) := fun a U g mk ⟨h0, h1, h2⟩ => ⟨h0, (zPre.blind (av := av) a U g mk ⟨h0, h1⟩).2, (zPreY.blind (av := av) a U g mk ⟨h0, h2⟩).2⟩
theorem zp_X {D : va_G} {tys : List (ClassId × FieldType)} {w : va_W} {s U : State} {H : Heap} {av : List Value} {A : Nat → Prop} (hP : va_P D vwCl w H) (hK : va_K D vwCl tys s) (hD : va_D A w) (hN : zNW s) (hX : zXF s H) (hU : U.heap = H) (hW : s.WarmedH U.vm) : va_Pc av (zPreX D tys w) av.toArray U := ⟨rfl, (zp_R (av := av) hP hK hD hN hU hW).2, (zp_Y (av := av) hX hU hW).2⟩
/-- it throws an E0, and nothing that was there has changed -/
def zXC (E0 : String) : String → State → State → Prop := vx_X (fun _ : Unit => True) (fun E _ _ => E = E0) (fun _ => False)
def zQXi : Array Value → State → Outcome → State → Prop := va_Qi (fun _ (_ : Unit) => False) (fun _ _ => True) (fun _ => False)
def zQXl : Array Value → State → Outcome → State → Prop := va_Ql (fun _ (_ : Unit) => False) (fun _ _ => True) (fun _ => False)
def zQXv : Array Value → State → Outcome → State → Prop := va_Qv (fun (_ : Unit) => False) (fun _ _ => True) (fun _ => False)
section ZXR
variable {p : Program} {l : Launch} {e : Env} {R : Room} {s : State} {m : MethodId} {args : Array Value} {below : List Frame} {meth : Method} {c : Code} {H : Heap} {locs : List Loc} {cells slots : Nat} {Q : State → Prop}
variable {cc : ByteArray} {pc : Nat} {ls : Array Slot} {rest st0 : List Value} {D : va_G} {cs : Nat → ClassId} {A : Nat → Prop} {a : Array Value} {H0 : Heap} {ws : va_W} {mc ms : Nat}
variable {A0 : Nat → Prop} {Qc : Array Value → State → Outcome → State → Prop}
theorem zc_rv (hr : va_Run p l e R s m args below meth c H locs cells slots 0 0 (F0 m pc ls st0) rest (zRn a) (fun _ => False)) (kk : W p l e R s m args below meth c H locs cells slots Q (F0 m (pc + 3) ls rest)) : W p l e R s m args below meth c H locs cells slots Q (F0 m pc ls st0) := by
  intro T hT X
  obtain ⟨v1, st₀, t, T', L, h0, X', hL, e1, e2, ⟨hv, hh⟩, st⟩ := hr T hT X
  cases hv
  obtain ⟨t2, a1, b1⟩ := kk T' (by rw [e1, hh, h0]) (Stand.forget X' (fun q h => (hL q h).elim))
  exact ⟨t2, st t2 a1, b1⟩
/-- a call that throws, in a method without handlers: the same throw goes on -/
theorem zc_xo {E0 : String} (hnx : ∀ x ∈ c.exceptionTable.toList, False) (hlocks : meth.locks = false) (hS : va_S (fun _ => False) s.heap H locs) (hc : cells + 1 ≤ 1) (hs : slots + 6 ≤ 6) :
    ∀ (E : String) (ce : Cell) (q9 : Addr) (u : Unit) (t : State) (H1 : Heap) (locs1 : List Loc), t.heap = H1 → s.vm.Alike t.vm → True → E = E0 → H.size ≤ H1.size → (∀ q : Nat, q < H.size → ¬ False → H1[q]? = H[q]?) → va_S (fun _ => False) s.heap H1 locs1 → H1[q9]? = some ce → ce.vm = .none → s.vm.findClass E = some ce.cls →
      vx_W p l e R s m args below meth c H1 locs1 (cells + 1) (slots + 6) (vx_MQ below Qc (zXC E0) args s 1 6 (fun _ => False)) (F0 m pc ls rest) q9 := by
  intro E ce q9 u t H1 locs1 ht hvm hp9 hE hz hk hS1 hcell hv hcl
  exact vx_out (fun x hx => (hnx x hx).elim) hlocks hcell hv hcl (fun t2 ht2 _ => ⟨(), trivial, hE, hS1.F ht2⟩) hS1.2.2 hc hs
theorem zc_xv {E0 : String} (hr : vx_Run p l e R s m args below meth c H locs cells slots 1 6 (F0 m pc ls st0) rest (zQXv a) (zXC E0) (fun _ => False)) (hnx : ∀ x ∈ c.exceptionTable.toList, False) (hlocks : meth.locks = false) (hS : va_S (fun _ => False) s.heap H locs) (hc : cells + 1 ≤ 1) (hs : slots + 6 ≤ 6) :
    W p l e R s m args below meth c H locs cells slots (vx_MQ below Qc (zXC E0) args s 1 6 (fun _ => False)) (F0 m pc ls st0) :=
  vx_callv hr hS (fun _ _ h => h) (fun _ h => h) (fun _ _ h => h) (zc_xo hnx hlocks hS hc hs) (fun u t H1 locs1 ht hvm hp9 _ _ _ _ => hp9.elim)
end ZXR
