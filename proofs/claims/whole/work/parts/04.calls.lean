/-! the links between nest mates; contracts of methods that stay in one world; calls of them -/
def zNWl : List Cond := [.methodLinkNest RX5 28 yX4_init "ChargeEstimator", .methodLinkNest RX0 29 yX5_mix "ChargeEstimator", .methodLinkNest RX1 141 yX5_clamp "ChargeEstimator", .methodLinkNest RX1 145 yX5_mix "ChargeEstimator", .methodLinkNest RX1 24 yX0_init "ChargeEstimator", .methodLinkNest RX2 43 yX5_mix "ChargeEstimator", .fieldLinkNest RX5 102 "ChargeEstimator$Curves" "lower" "[I" "ChargeEstimator", .fieldLinkNest RX5 135 "ChargeEstimator$Battery" "throughput" "J" "ChargeEstimator", .fieldLinkNest RX5 144 "ChargeEstimator$Battery" "capacity" "J" "ChargeEstimator", .fieldLinkNest RX5 41 "ChargeEstimator$Battery" "log" "LChargeEstimator$AnchorLog;" "ChargeEstimator", .fieldLinkNest RX5 72 "ChargeEstimator$Battery" "settings" "[I" "ChargeEstimator", .fieldLinkNest RX5 80 "ChargeEstimator$Battery" "curves" "LChargeEstimator$Curves;" "ChargeEstimator", .fieldLinkNest RX5 99 "ChargeEstimator$Curves" "upper" "[I" "ChargeEstimator", .fieldLinkNest RX5 141 "ChargeEstimator$Battery" "nominal" "J" "ChargeEstimator", .fieldLinkNest RX5 187 "ChargeEstimator$Battery" "low" "J" "ChargeEstimator", .fieldLinkNest RX1 29 "ChargeEstimator" "INITIAL_SETTING" "[I" "ChargeEstimator"]
def zNW (U : State) : Prop := ∀ w ∈ zNWl, va_Nw w U
theorem zNW.warm {s U : State} (hW : s.WarmedH U.vm) (h : zNW s) : zNW U := by
  have h1 := List.forall_mem_cons.mp h
  have h2 := List.forall_mem_cons.mp h1.2
  have h3 := List.forall_mem_cons.mp h2.2
  have h4 := List.forall_mem_cons.mp h3.2
  have h5 := List.forall_mem_cons.mp h4.2
  have h6 := List.forall_mem_cons.mp h5.2
  have h7 := List.forall_mem_cons.mp h6.2
  have h8 := List.forall_mem_cons.mp h7.2
  have h9 := List.forall_mem_cons.mp h8.2
  have h10 := List.forall_mem_cons.mp h9.2
  have h11 := List.forall_mem_cons.mp h10.2
  have h12 := List.forall_mem_cons.mp h11.2
  have h13 := List.forall_mem_cons.mp h12.2
  have h14 := List.forall_mem_cons.mp h13.2
  have h15 := List.forall_mem_cons.mp h14.2
  have h16 := List.forall_mem_cons.mp h15.2
  exact List.forall_mem_cons.mpr ⟨va_Nw.warmM hW h1.1, List.forall_mem_cons.mpr ⟨va_Nw.warmM hW h2.1, List.forall_mem_cons.mpr ⟨va_Nw.warmM hW h3.1, List.forall_mem_cons.mpr ⟨va_Nw.warmM hW h4.1, List.forall_mem_cons.mpr ⟨va_Nw.warmM hW h5.1, List.forall_mem_cons.mpr ⟨va_Nw.warmM hW h6.1, List.forall_mem_cons.mpr ⟨va_Nw.warmF hW h7.1, List.forall_mem_cons.mpr ⟨va_Nw.warmF hW h8.1, List.forall_mem_cons.mpr ⟨va_Nw.warmF hW h9.1, List.forall_mem_cons.mpr ⟨va_Nw.warmF hW h10.1, List.forall_mem_cons.mpr ⟨va_Nw.warmF hW h11.1, List.forall_mem_cons.mpr ⟨va_Nw.warmF hW h12.1, List.forall_mem_cons.mpr ⟨va_Nw.warmF hW h13.1, List.forall_mem_cons.mpr ⟨va_Nw.warmF hW h14.1, List.forall_mem_cons.mpr ⟨va_Nw.warmF hW h15.1, List.forall_mem_cons.mpr ⟨va_Nw.warmF hW h16.1, fun _ h => absurd h List.not_mem_nil⟩⟩⟩⟩⟩⟩⟩⟩⟩⟩⟩⟩⟩⟩⟩⟩
theorem zNW.same {u U : State} (e : u.vm = U.vm) (h : zNW u) : zNW U := by
  have h1 := List.forall_mem_cons.mp h
  have h2 := List.forall_mem_cons.mp h1.2
  have h3 := List.forall_mem_cons.mp h2.2
  have h4 := List.forall_mem_cons.mp h3.2
  have h5 := List.forall_mem_cons.mp h4.2
  have h6 := List.forall_mem_cons.mp h5.2
  have h7 := List.forall_mem_cons.mp h6.2
  have h8 := List.forall_mem_cons.mp h7.2
  have h9 := List.forall_mem_cons.mp h8.2
  have h10 := List.forall_mem_cons.mp h9.2
  have h11 := List.forall_mem_cons.mp h10.2
  have h12 := List.forall_mem_cons.mp h11.2
  have h13 := List.forall_mem_cons.mp h12.2
  have h14 := List.forall_mem_cons.mp h13.2
  have h15 := List.forall_mem_cons.mp h14.2
  have h16 := List.forall_mem_cons.mp h15.2
  exact List.forall_mem_cons.mpr ⟨va_Nw.same rfl e h1.1, List.forall_mem_cons.mpr ⟨va_Nw.same rfl e h2.1, List.forall_mem_cons.mpr ⟨va_Nw.same rfl e h3.1, List.forall_mem_cons.mpr ⟨va_Nw.same rfl e h4.1, List.forall_mem_cons.mpr ⟨va_Nw.same rfl e h5.1, List.forall_mem_cons.mpr ⟨va_Nw.same rfl e h6.1, List.forall_mem_cons.mpr ⟨va_Nw.same rfl e h7.1, List.forall_mem_cons.mpr ⟨va_Nw.same rfl e h8.1, List.forall_mem_cons.mpr ⟨va_Nw.same rfl e h9.1, List.forall_mem_cons.mpr ⟨va_Nw.same rfl e h10.1, List.forall_mem_cons.mpr ⟨va_Nw.same rfl e h11.1, List.forall_mem_cons.mpr ⟨va_Nw.same rfl e h12.1, List.forall_mem_cons.mpr ⟨va_Nw.same rfl e h13.1, List.forall_mem_cons.mpr ⟨va_Nw.same rfl e h14.1, List.forall_mem_cons.mpr ⟨va_Nw.same rfl e h15.1, List.forall_mem_cons.mpr ⟨va_Nw.same rfl e h16.1, fun _ h => absurd h List.not_mem_nil⟩⟩⟩⟩⟩⟩⟩⟩⟩⟩⟩⟩⟩⟩⟩⟩
theorem zn_RX5_28 {U : State} (h : zNW U) : va_Nw (.methodLinkNest RX5 28 yX4_init "ChargeEstimator") U := h _ (List.mem_of_getElem? (i := 0) rfl)
theorem zn_RX0_29 {U : State} (h : zNW U) : va_Nw (.methodLinkNest RX0 29 yX5_mix "ChargeEstimator") U := h _ (List.mem_of_getElem? (i := 1) rfl)
theorem zn_RX1_141 {U : State} (h : zNW U) : va_Nw (.methodLinkNest RX1 141 yX5_clamp "ChargeEstimator") U := h _ (List.mem_of_getElem? (i := 2) rfl)
theorem zn_RX1_145 {U : State} (h : zNW U) : va_Nw (.methodLinkNest RX1 145 yX5_mix "ChargeEstimator") U := h _ (List.mem_of_getElem? (i := 3) rfl)
theorem zn_RX1_24 {U : State} (h : zNW U) : va_Nw (.methodLinkNest RX1 24 yX0_init "ChargeEstimator") U := h _ (List.mem_of_getElem? (i := 4) rfl)
theorem zn_RX2_43 {U : State} (h : zNW U) : va_Nw (.methodLinkNest RX2 43 yX5_mix "ChargeEstimator") U := h _ (List.mem_of_getElem? (i := 5) rfl)
theorem zn_RX5_102 {U : State} (h : zNW U) : va_Nw (.fieldLinkNest RX5 102 "ChargeEstimator$Curves" "lower" "[I" "ChargeEstimator") U := h _ (List.mem_of_getElem? (i := 6) rfl)
theorem zn_RX5_135 {U : State} (h : zNW U) : va_Nw (.fieldLinkNest RX5 135 "ChargeEstimator$Battery" "throughput" "J" "ChargeEstimator") U := h _ (List.mem_of_getElem? (i := 7) rfl)
theorem zn_RX5_144 {U : State} (h : zNW U) : va_Nw (.fieldLinkNest RX5 144 "ChargeEstimator$Battery" "capacity" "J" "ChargeEstimator") U := h _ (List.mem_of_getElem? (i := 8) rfl)
theorem zn_RX5_41 {U : State} (h : zNW U) : va_Nw (.fieldLinkNest RX5 41 "ChargeEstimator$Battery" "log" "LChargeEstimator$AnchorLog;" "ChargeEstimator") U := h _ (List.mem_of_getElem? (i := 9) rfl)
theorem zn_RX5_72 {U : State} (h : zNW U) : va_Nw (.fieldLinkNest RX5 72 "ChargeEstimator$Battery" "settings" "[I" "ChargeEstimator") U := h _ (List.mem_of_getElem? (i := 10) rfl)
theorem zn_RX5_80 {U : State} (h : zNW U) : va_Nw (.fieldLinkNest RX5 80 "ChargeEstimator$Battery" "curves" "LChargeEstimator$Curves;" "ChargeEstimator") U := h _ (List.mem_of_getElem? (i := 11) rfl)
theorem zn_RX5_99 {U : State} (h : zNW U) : va_Nw (.fieldLinkNest RX5 99 "ChargeEstimator$Curves" "upper" "[I" "ChargeEstimator") U := h _ (List.mem_of_getElem? (i := 12) rfl)
theorem zn_RX5_141 {U : State} (h : zNW U) : va_Nw (.fieldLinkNest RX5 141 "ChargeEstimator$Battery" "nominal" "J" "ChargeEstimator") U := h _ (List.mem_of_getElem? (i := 13) rfl)
theorem zn_RX5_187 {U : State} (h : zNW U) : va_Nw (.fieldLinkNest RX5 187 "ChargeEstimator$Battery" "low" "J" "ChargeEstimator") U := h _ (List.mem_of_getElem? (i := 14) rfl)
theorem zn_RX1_29 {U : State} (h : zNW U) : va_Nw (.fieldLinkNest RX1 29 "ChargeEstimator" "INITIAL_SETTING" "[I" "ChargeEstimator") U := h _ (List.mem_of_getElem? (i := 15) rfl)
/-- what a method finds: its world -/
def zPre (D : va_G) (tys : List (ClassId × FieldType)) (w : va_W) (U : State) : Prop := va_P D vwCl w U.heap ∧ va_K D vwCl tys U ∧ va_D (fun _ => True) w ∧ zNW U
theorem zPre.blind {D : va_G} {tys : List (ClassId × FieldType)} {w : va_W} {av : List Value} : FrameBlind (va_Pc av (zPre D tys w)) := by
  intro a U g mk ⟨h0, h1, h2, h3, h4⟩
  exact ⟨h0, h1, va_K.moved (u := U) (U := U.calling g mk a) (Vm.Alike.refl U.vm) h2, h3, zNW.same (u := U) (U := U.calling g mk a) rfl h4⟩
def zPreZ (D : va_G) (tys : List (ClassId × FieldType)) (w : va_W) (sz : Nat) (U : State) : Prop := U.heap.size = sz ∧ zPre D tys w U
theorem zPreZ.blind {D : va_G} {tys : List (ClassId × FieldType)} {w : va_W} {sz : Nat} {av : List Value} : FrameBlind (va_Pc av (zPreZ D tys w sz)) := by
  intro a U g mk ⟨h0, h1, h2⟩
  obtain ⟨-, h3⟩ := zPre.blind (av := av) a U g mk ⟨h0, h2⟩
  exact ⟨h0, h1, h3⟩
theorem zTrue.blind {av : List Value} : FrameBlind (va_Pc av (fun _ => True)) := fun _ _ _ _ h => ⟨h.1, trivial⟩
/-- what a method leaves: its world as w2, nothing else changed -/
def zB2 (D : va_G) (w2 : va_W) (w : va_W) (sz : Nat) (t : State) : Prop := va_P D vwCl w2 t.heap ∧ va_D (va_A w sz) w2
def zQi (D : va_G) (w : va_W) (sz : Nat) (v : Int32) (w2 : va_W) : Array Value → State → Outcome → State → Prop := va_Qi (fun r (_ : Unit) => r = v) (fun _ t => zB2 D w2 w sz t) (va_A w sz)
def zQl (D : va_G) (w : va_W) (sz : Nat) (v : Int64) (w2 : va_W) : Array Value → State → Outcome → State → Prop := va_Ql (fun r (_ : Unit) => r = v) (fun _ t => zB2 D w2 w sz t) (va_A w sz)
def zQv (D : va_G) (w : va_W) (sz : Nat) (w2 : va_W) : Array Value → State → Outcome → State → Prop := va_Qv (fun (_ : Unit) => True) (fun _ t => zB2 D w2 w sz t) (va_A w sz)
/-- a method that only reads -/
def zRi (v : Int32) : Array Value → State → Outcome → State → Prop := vp_Si (fun r => r = v)
def zRl (v : Int64) : Array Value → State → Outcome → State → Prop := vp_Sl (fun r => r = v)
section ZC
variable {p : Program} {l : Launch} {e : Env} {R : Room} {s : State} {m : MethodId} {args : Array Value} {below : List Frame} {meth : Method} {c : Code} {H : Heap} {locs : List Loc} {cells slots : Nat} {Q : State → Prop}
variable {pc : Nat} {ls : Array Slot} {rest st0 : List Value} {a : Array Value} {A0 : Nat → Prop} {H0 : Heap} {mc ms : Nat}
theorem zc_ri {v : Int32} (hr : va_Run p l e R s m args below meth c H locs cells slots 0 0 (F0 m pc ls st0) rest (zRi v a) (fun _ => False)) (kk : W p l e R s m args below meth c H locs cells slots Q (F0 m (pc + 3) ls (.int v :: rest))) : W p l e R s m args below meth c H locs cells slots Q (F0 m pc ls st0) := by
  intro T hT X
  obtain ⟨v1, st₀, t, T', L, h0, X', hL, e1, e2, ⟨r, hv, hp, hh⟩, st⟩ := hr T hT X
  cases hv
  subst hp
  obtain ⟨t2, a1, b1⟩ := kk T' (by rw [e1, hh, h0]) (Stand.forget X' (fun q h => (hL q h).elim))
  exact ⟨t2, st t2 a1, b1⟩
theorem zc_rl {v : Int64} (hr : va_Run p l e R s m args below meth c H locs cells slots 0 0 (F0 m pc ls st0) rest (zRl v a) (fun _ => False)) (kk : W p l e R s m args below meth c H locs cells slots Q (F0 m (pc + 3) ls (.long v :: rest))) : W p l e R s m args below meth c H locs cells slots Q (F0 m pc ls st0) := by
  intro T hT X
  obtain ⟨v1, st₀, t, T', L, h0, X', hL, e1, e2, ⟨r, hv, hp, hh⟩, st⟩ := hr T hT X
  cases hv
  subst hp
  obtain ⟨t2, a1, b1⟩ := kk T' (by rw [e1, hh, h0]) (Stand.forget X' (fun q h => (hL q h).elim))
  exact ⟨t2, st t2 a1, b1⟩
/-- the whole world goes to the callee and comes back -/
theorem zc_back {D : va_G} {w w2 : va_W} {H1 : Heap} {t : State} (hS : va_S A0 H0 H locs) (hD : va_D A0 w) (hA : ∀ q, H0.size ≤ q → A0 q) (ht : t.heap = H1) (hB : zB2 D w2 w H.size t) : va_P D vwCl w2 H1 ∧ va_D A0 w2 := by
  obtain ⟨h1, h2⟩ := hB
  rw [ht] at h1
  refine ⟨h1, h2.weaken (fun k q hq h => ?_)⟩
  rcases h with ⟨k2, e2, h⟩ | h
  · exact hD.2 k2 (q.1, e2) h
  · exact hA _ (Nat.le_trans hS.1 h)
theorem zc_free {w : va_W} (hS : va_S A0 H0 H locs) (hD : va_D A0 w) (hA : ∀ q, H0.size ≤ q → A0 q) : ∀ q, va_A w H.size q → A0 q := by
  intro q h
  rcases h with ⟨k2, e2, h⟩ | h
  · exact hD.2 k2 (q, e2) h
  · exact hA _ (Nat.le_trans hS.1 h)
theorem zc_i {D : va_G} {w w2 : va_W} {v : Int32} (hr : va_Run p l e R s m args below meth c H locs cells slots mc ms (F0 m pc ls st0) rest (zQi D w H.size v w2 a) (va_A w H.size)) (hS : va_S A0 H0 H locs) (hD : va_D A0 w) (hA : ∀ q, H0.size ≤ q → A0 q) (kk : ∀ (H1 : Heap) (locs1 : List Loc), va_P D vwCl w2 H1 → va_D A0 w2 → va_S A0 H0 H1 locs1 → W p l e R s m args below meth c H1 locs1 (cells + mc) (slots + ms) Q (F0 m (pc + 3) ls (.int v :: rest))) : W p l e R s m args below meth c H locs cells slots Q (F0 m pc ls st0) :=
  va_calli hr hS (fun q _ h => zc_free hS hD hA q h) (zc_free hS hD hA) (fun r u t H1 locs1 ht hvm hw hB hz hk hS1 => by
    subst hw
    obtain ⟨h1, h2⟩ := zc_back hS hD hA ht hB
    exact kk H1 locs1 h1 h2 hS1)
theorem zc_l {D : va_G} {w w2 : va_W} {v : Int64} (hr : va_Run p l e R s m args below meth c H locs cells slots mc ms (F0 m pc ls st0) rest (zQl D w H.size v w2 a) (va_A w H.size)) (hS : va_S A0 H0 H locs) (hD : va_D A0 w) (hA : ∀ q, H0.size ≤ q → A0 q) (kk : ∀ (H1 : Heap) (locs1 : List Loc), va_P D vwCl w2 H1 → va_D A0 w2 → va_S A0 H0 H1 locs1 → W p l e R s m args below meth c H1 locs1 (cells + mc) (slots + ms) Q (F0 m (pc + 3) ls (.long v :: rest))) : W p l e R s m args below meth c H locs cells slots Q (F0 m pc ls st0) :=
  va_calll hr hS (fun q _ h => zc_free hS hD hA q h) (zc_free hS hD hA) (fun r u t H1 locs1 ht hvm hw hB hz hk hS1 => by
    subst hw
    obtain ⟨h1, h2⟩ := zc_back hS hD hA ht hB
    exact kk H1 locs1 h1 h2 hS1)
theorem zc_v {D : va_G} {w w2 : va_W} (hr : va_Run p l e R s m args below meth c H locs cells slots mc ms (F0 m pc ls st0) rest (zQv D w H.size w2 a) (va_A w H.size)) (hS : va_S A0 H0 H locs) (hD : va_D A0 w) (hA : ∀ q, H0.size ≤ q → A0 q) (kk : ∀ (H1 : Heap) (locs1 : List Loc), va_P D vwCl w2 H1 → va_D A0 w2 → va_S A0 H0 H1 locs1 → W p l e R s m args below meth c H1 locs1 (cells + mc) (slots + ms) Q (F0 m (pc + 3) ls (rest))) : W p l e R s m args below meth c H locs cells slots Q (F0 m pc ls st0) :=
  va_callv hr hS (fun q _ h => zc_free hS hD hA q h) (zc_free hS hD hA) (fun u t H1 locs1 ht hvm hw hB hz hk hS1 => by
    obtain ⟨h1, h2⟩ := zc_back hS hD hA ht hB
    exact kk H1 locs1 h1 h2 hS1)
/-- a part of the world goes to the callee: its places isC, the rest's isR; they come back as rest and new part -/
theorem zc_vj {D : va_G} {ws w w2 wr : va_W} (hr : va_Run p l e R s m args below meth c H locs cells slots mc ms (F0 m pc ls st0) rest (zQv D w H.size w2 a) (va_A w H.size)) (hS : va_S A0 H0 H locs) (hP : va_P D vwCl ws H) (hD : va_D A0 ws) (hA : ∀ q, H0.size ≤ q → A0 q) (isC isR : List Nat) (hC : isC.map (fun i => ws[i]?) = w.map some) (hR : isR.map (fun i => ws[i]?) = wr.map some) (hn : va_nd isR = true) (hdis : ∀ i ∈ isR, i ∉ isC) (kk : ∀ (H1 : Heap) (locs1 : List Loc), va_P D vwCl (wr ++ w2) H1 → va_D A0 (wr ++ w2) → va_S A0 H0 H1 locs1 → W p l e R s m args below meth c H1 locs1 (cells + mc) (slots + ms) Q (F0 m (pc + 3) ls (rest))) : W p l e R s m args below meth c H locs cells slots Q (F0 m pc ls st0) := by
  have hF := va_free (wc := w) hD hS hA isC hC
  refine va_callv hr hS (fun q _ h => hF q h) hF (fun u t H1 locs1 ht hvm hw hB hz hk hS1 => ?_)
  obtain ⟨hP1, hD1⟩ := hB
  rw [ht] at hP1
  obtain ⟨h1, h2⟩ := va_join hP hD isC isR hC hR hn hdis hk hF hP1 hD1
  exact kk H1 locs1 h1 h2 hS1
theorem zc_ij {D : va_G} {ws w w2 wr : va_W} {v : Int32} (hr : va_Run p l e R s m args below meth c H locs cells slots mc ms (F0 m pc ls st0) rest (zQi D w H.size v w2 a) (va_A w H.size)) (hS : va_S A0 H0 H locs) (hP : va_P D vwCl ws H) (hD : va_D A0 ws) (hA : ∀ q, H0.size ≤ q → A0 q) (isC isR : List Nat) (hC : isC.map (fun i => ws[i]?) = w.map some) (hR : isR.map (fun i => ws[i]?) = wr.map some) (hn : va_nd isR = true) (hdis : ∀ i ∈ isR, i ∉ isC) (kk : ∀ (H1 : Heap) (locs1 : List Loc), va_P D vwCl (wr ++ w2) H1 → va_D A0 (wr ++ w2) → va_S A0 H0 H1 locs1 → W p l e R s m args below meth c H1 locs1 (cells + mc) (slots + ms) Q (F0 m (pc + 3) ls (.int v :: rest))) : W p l e R s m args below meth c H locs cells slots Q (F0 m pc ls st0) := by
  have hF := va_free (wc := w) hD hS hA isC hC
  refine va_calli hr hS (fun q _ h => hF q h) hF (fun r u t H1 locs1 ht hvm hw hB hz hk hS1 => ?_)
  subst hw
  obtain ⟨hP1, hD1⟩ := hB
  rw [ht] at hP1
  obtain ⟨h1, h2⟩ := va_join hP hD isC isR hC hR hn hdis hk hF hP1 hD1
  exact kk H1 locs1 h1 h2 hS1
end ZC
/-- the callee's start, from the caller's facts -/
theorem zp_R {D : va_G} {tys : List (ClassId × FieldType)} {w : va_W} {s U : State} {H : Heap} {av : List Value} {A : Nat → Prop} (hP : va_P D vwCl w H) (hK : va_K D vwCl tys s) (hD : va_D A w) (hN : zNW s) (hU : U.heap = H) (hW : s.WarmedH U.vm) : va_Pc av (zPre D tys w) av.toArray U :=
  ⟨rfl, by rw [hU]; exact hP, va_K.moved hW.alike hK, hD.weaken (fun _ _ _ _ => trivial), zNW.warm hW hN⟩
theorem zp_Z {D : va_G} {tys : List (ClassId × FieldType)} {w : va_W} {s U : State} {H : Heap} {av : List Value} {A : Nat → Prop} (hP : va_P D vwCl w H) (hK : va_K D vwCl tys s) (hD : va_D A w) (hN : zNW s) (hU : U.heap = H) (hW : s.WarmedH U.vm) : va_Pc av (zPreZ D tys w H.size) av.toArray U :=
  ⟨rfl, by rw [hU], by rw [hU]; exact hP, va_K.moved hW.alike hK, hD.weaken (fun _ _ _ _ => trivial), zNW.warm hW hN⟩
/-- lists of cells, cell by cell -/
theorem zP_nil {D : va_G} {cl : List vw_C} {H : Heap} : va_P D cl [] H := fun k q h => by simp at h
theorem zP_cons {D : va_G} {cl : List vw_C} {x : Nat × va_E} {ws : va_W} {H : Heap} : va_P D cl (x :: ws) H ↔ va_at D cl x H ∧ va_P D cl ws H := by
  constructor
  · exact fun h => ⟨h 0 x rfl, fun k q hq => h (k + 1) q hq⟩
  · intro h k q hq
    cases k with
    | zero => cases hq; exact h.1
    | succ k => exact h.2 k q hq
theorem zP_app {D : va_G} {cl : List vw_C} {w1 w2 : va_W} {H : Heap} : va_P D cl (w1 ++ w2) H ↔ va_P D cl w1 H ∧ va_P D cl w2 H := by
  induction w1 with
  | nil => exact ⟨fun h => ⟨zP_nil, h⟩, fun h => h.2⟩
  | cons x w ih => rw [List.cons_append, zP_cons, zP_cons, ih, and_assoc]
/-- the addresses alone matter for being apart -/
theorem zD_addr {A : Nat → Prop} {w1 w2 : va_W} (h : va_D A w1) (e : w1.map (fun q => q.1) = w2.map (fun q => q.1)) : va_D A w2 := by
  have look : ∀ (k : Nat) (q : Nat × va_E), w2[k]? = some q → ∃ q1 : Nat × va_E, w1[k]? = some q1 ∧ q1.1 = q.1 := by
    intro k q hq
    have h1 : (w1.map (fun q => q.1))[k]? = some q.1 := by rw [e, List.getElem?_map, hq]; rfl
    rw [List.getElem?_map] at h1
    cases hk : w1[k]? with
    | none => rw [hk] at h1; cases h1
    | some q1 => rw [hk] at h1; exact ⟨q1, rfl, Option.some.inj h1⟩
  refine ⟨fun i j p q hi hj hpq => ?_, fun k q hk => ?_⟩
  · obtain ⟨p1, h1, h2⟩ := look i p hi
    obtain ⟨q1, h3, h4⟩ := look j q hj
    exact h.1 i j p1 q1 h1 h3 (by rw [h2, h4, hpq])
  · obtain ⟨q1, h1, h2⟩ := look k q hk
    rw [← h2]
    exact h.2 k q1 h1
theorem zV_congr (cA : ClassId) {n : Nat} {f g : Nat → Value} (h : ∀ k, k < n → f k = g k) : arrV cA n f = arrV cA n g :=
  congrArg (fun z : Array Value => ({ cls := cA, slots := z, vm := .none } : Cell)) (congrArg Array.ofFn (funext fun j : Fin n => h j.val j.isLt))
theorem zat_i {D : va_G} {cl : List vw_C} {q n : Nat} {cA : ClassId} {f g : Int → Int} {H : Heap} (h : va_at D cl (q, .inl (cA, n, .inl (zA f))) H) (e : ∀ k : Int, 0 ≤ k → k < n → f k = g k) : va_at D cl (q, .inl (cA, n, .inl (zA g))) H := by
  have h1 : H[q]? = some (vp_cell cA (n, .inl (zA f))) := h
  show H[q]? = some (vp_cell cA (n, .inl (zA g)))
  rw [h1, vp_cell_i, vp_cell_i]
  congr 1
  exact zV_congr cA (fun k hk => by show Value.int (zI _) = Value.int (zI _); rw [e k (by omega) (by omega)])
theorem zat_l {D : va_G} {cl : List vw_C} {q n : Nat} {cA : ClassId} {f g : Int → Int} {H : Heap} (h : va_at D cl (q, .inl (cA, n, .inr (.inl (zAL f)))) H) (e : ∀ k : Int, 0 ≤ k → k < n → f k = g k) : va_at D cl (q, .inl (cA, n, .inr (.inl (zAL g)))) H := by
  have h1 : H[q]? = some (vp_cell cA (n, .inr (.inl (zAL f)))) := h
  show H[q]? = some (vp_cell cA (n, .inr (.inl (zAL g))))
  rw [h1, vp_cell_l, vp_cell_l]
  congr 1
  exact zV_congr cA (fun k hk => by show Value.long (zL _) = Value.long (zL _); rw [e k (by omega) (by omega)])
