/-! the law: rows and what always holds between two calls -/
theorem zP_perm {D : va_G} {cl : List vw_C} {ws ws' : va_W} {H : Heap} (h : va_P D cl ws H) (e : ws.Perm ws') : va_P D cl ws' H := by
  intro k x hx
  obtain ⟨i, hi⟩ := List.mem_iff_getElem?.mp (e.mem_iff.mpr (List.mem_of_getElem? hx))
  exact h i x hi
theorem zD_perm {A : Nat → Prop} {ws ws' : va_W} (h : va_D A ws) (e : ws.Perm ws') : va_D A ws' := by
  have n1 : ws.Pairwise (fun x y => x.1 ≠ y.1) := List.pairwise_iff_getElem.mpr (fun i j hi hj hij heq => by
    have := h.1 i j ws[i] ws[j] (List.getElem?_eq_getElem hi) (List.getElem?_eq_getElem hj) heq
    omega)
  have n2 : ws'.Pairwise (fun x y => x.1 ≠ y.1) := (List.Perm.pairwise_iff (fun h => Ne.symm h) e).mp n1
  have n3 := List.pairwise_iff_getElem.mp n2
  refine ⟨fun i j p q hi hj hpq => ?_, fun k q hk => ?_⟩
  · obtain ⟨li, ei⟩ := List.getElem?_eq_some_iff.mp hi
    obtain ⟨lj, ej⟩ := List.getElem?_eq_some_iff.mp hj
    rcases Nat.lt_trichotomy i j with g | g | g
    · exact absurd (show (ws'[i]).1 = (ws'[j]).1 by rw [ei, ej]; exact hpq) (n3 i j li lj g)
    · exact g
    · exact absurd (show (ws'[j]).1 = (ws'[i]).1 by rw [ei, ej]; exact hpq.symm) (n3 j i lj li g)
  · obtain ⟨i, hi⟩ := List.mem_iff_getElem?.mp (e.mem_iff.mpr (List.mem_of_getElem? hk))
    exact h.2 i q hi
section ZPE
variable {α : Type} {X A T r b0 b1 b2 b3 t m u z : List α}
theorem zPe_m : ((z ++ u) ++ m).Perm (z ++ (m ++ u)) := by
  rw [List.append_assoc]
  exact List.Perm.append_left z List.perm_append_comm
theorem zPe_B : ((T ++ (r ++ (b0 ++ (b1 ++ (b2 ++ (b3 ++ (t ++ m))))))) ++ (X ++ (A ++ u))).Perm ((X ++ (A ++ (T ++ ((r ++ (b0 ++ (b1 ++ (b2 ++ b3)))) ++ t)))) ++ (m ++ u)) := by
  classical
  exact List.perm_iff_count.mpr (fun a => by simp only [List.count_append]; omega)
theorem zPe_H : ((T ++ (t ++ m)) ++ (X ++ (A ++ (r ++ (b0 ++ (b1 ++ (b2 ++ (b3 ++ u)))))))).Perm ((X ++ (A ++ (T ++ ((r ++ (b0 ++ (b1 ++ (b2 ++ b3)))) ++ t)))) ++ (m ++ u)) := by
  classical
  exact List.perm_iff_count.mpr (fun a => by simp only [List.count_append]; omega)
theorem zPe_T : ((A ++ (T ++ (r ++ (b0 ++ (b1 ++ (b2 ++ (b3 ++ m))))))) ++ (X ++ (t ++ u))).Perm ((X ++ (A ++ (T ++ ((r ++ (b0 ++ (b1 ++ (b2 ++ b3)))) ++ t)))) ++ (m ++ u)) := by
  classical
  exact List.perm_iff_count.mpr (fun a => by simp only [List.count_append]; omega)
theorem zPe_W : ((r ++ (b0 ++ (b1 ++ (b2 ++ (b3 ++ (t ++ m)))))) ++ (X ++ (A ++ (T ++ u)))).Perm ((X ++ (A ++ (T ++ ((r ++ (b0 ++ (b1 ++ (b2 ++ b3)))) ++ t)))) ++ (m ++ u)) := by
  classical
  exact List.perm_iff_count.mpr (fun a => by simp only [List.count_append]; omega)
theorem zPe_R : ((T ++ m) ++ (X ++ (A ++ (r ++ (b0 ++ (b1 ++ (b2 ++ (b3 ++ (t ++ u))))))))).Perm ((X ++ (A ++ (T ++ ((r ++ (b0 ++ (b1 ++ (b2 ++ b3)))) ++ t)))) ++ (m ++ u)) := by
  classical
  exact List.perm_iff_count.mpr (fun a => by simp only [List.count_append]; omega)
theorem zPe_D : ((T ++ (b0 ++ (b1 ++ (b2 ++ (b3 ++ m))))) ++ (X ++ (A ++ (r ++ (t ++ u))))).Perm ((X ++ (A ++ (T ++ ((r ++ (b0 ++ (b1 ++ (b2 ++ b3)))) ++ t)))) ++ (m ++ u)) := by
  classical
  exact List.perm_iff_count.mpr (fun a => by simp only [List.count_append]; omega)
theorem zPe_Tl {x t0 t1 t2 v : α} : ((A ++ (T ++ (r ++ (b0 ++ (b1 ++ (b2 ++ (b3 ++ m))))))) ++ [x, t0, t1, t2, v]).Perm (([x] ++ (A ++ (T ++ ((r ++ (b0 ++ (b1 ++ (b2 ++ b3)))) ++ [t0, t1, t2])))) ++ (m ++ [v])) :=
  zPe_T (X := [x]) (t := [t0, t1, t2]) (u := [v])
end ZPE
def zX (xs : Nat → Int32) (i : Int) : Int := (xs i.toNat).toInt
theorem zX_r (xs : Nat → Int32) (i : Int) : -2147483648 ≤ zX xs i ∧ zX xs i ≤ 2147483647 := by
  unfold zX
  have h1 := Int32.le_toInt (xs i.toNat)
  have h2 := Int32.toInt_lt (xs i.toNat)
  omega
theorem zX_e (xs : Nat → Int32) (i : Int) : zI (zX xs i) = xs i.toNat := Int32.ofInt_toInt _
/-- what holds of the machine from the law's start on -/
def zXG (s : State) : Prop := ((∀ w ∈ zXw, va_Nw w s) ∧ ∀ q ∈ zXt, ∃ a : Nat, vk_R RX5 q.1 q.2 a s) ∧ (vx_Zq Bundle.tN "UNASSIGNED_STACK" Bundle.steD (fun q => s.heap.size ≤ q) s s.heap ∧ vx_Zq Bundle.tN "SUPPRESSED_SENTINEL" Bundle.listD (fun q => s.heap.size ≤ q) s s.heap) ∧ zSX (fun q => s.heap.size ≤ q) s s.heap
theorem zXG.at {s : State} {H : Heap} {locs : List Loc} (h : zXG s) (hS : va_S (fun q => s.heap.size ≤ q) s.heap H locs) : zXF s H :=
  ⟨h.1, ⟨(vx_Zq.kept h.2.1.1 hS.2.1).narrow (fun _ k => k.elim), (vx_Zq.kept h.2.1.2 hS.2.1).narrow (fun _ k => k.elim)⟩, h.2.2.step hS.2.1 (fun _ k => k.elim) (Vm.Alike.refl s.vm)⟩
def zSvd (n xm : Int) (S0 S1 S2 S3 S : Int → Int) : Prop := ((0 < xm → zOK n S0) ∧ (1 < xm → zOK n S1) ∧ (2 < xm → zOK n S2) ∧ (3 < xm → zOK n S3)) ∧ ∀ k : Int, 0 ≤ k → k < 213 → (0 < xm → S0 k = S k) ∧ (1 < xm → S1 k = S (213 + k)) ∧ (2 < xm → S2 k = S (426 + k)) ∧ (3 < xm → S3 k = S (639 + k))
theorem zSvd.mono {n n2 xm : Int} {S0 S1 S2 S3 S : Int → Int} (h : zSvd n xm S0 S1 S2 S3 S) (e : n ≤ n2) : zSvd n2 xm S0 S1 S2 S3 S :=
  ⟨⟨fun q => zOK_mono (h.1.1 q) e, fun q => zOK_mono (h.1.2.1 q) e, fun q => zOK_mono (h.1.2.2.1 q) e, fun q => zOK_mono (h.1.2.2.2 q) e⟩, h.2⟩
theorem zSv_in {A X : Int → Int} {d k : Int} (a : 0 ≤ k) (b : k < 213) : zC A X 0 d 213 (d + k) = A k := by
  simp only [zC]
  rw [if_pos (by omega)]
  congr 1
  omega
theorem zSv_out {A X : Int → Int} {d j : Int} (h : j < d) : zC A X 0 d 213 j = X j := by
  simp only [zC]
  rw [if_neg (by omega)]
theorem zSvd.save {n xm : Int} {A S0 S1 S2 S3 S : Int → Int} (h : zSvd n xm S0 S1 S2 S3 S) (hA : zOK n A) (hm : 0 ≤ xm ∧ xm ≤ 4) : zSvd n (zm4 xm) (zs4 xm 0 A S0 S1) (zs4 xm 1 A S1 S2) (zs4 xm 2 A S2 S3) (zs4 xm 3 A S3 A) (zSvF S A xm) := by
  obtain ⟨⟨h0, h1, h2, h3⟩, h4⟩ := h
  rcases (show xm = 0 ∨ xm = 1 ∨ xm = 2 ∨ xm = 3 ∨ xm = 4 by omega) with rfl | rfl | rfl | rfl | rfl
  · exact ⟨⟨fun _ => hA, fun q => absurd q (by decide), fun q => absurd q (by decide), fun q => absurd q (by decide)⟩, fun k a b => ⟨fun _ => by
      show A k = zC A S 0 0 213 k
      have := zSv_in (A := A) (X := S) (d := 0) a b
      rw [Int.zero_add] at this
      exact this.symm, fun q => absurd q (by decide), fun q => absurd q (by decide), fun q => absurd q (by decide)⟩⟩
  · exact ⟨⟨fun _ => h0 (by decide), fun _ => hA, fun q => absurd q (by decide), fun q => absurd q (by decide)⟩, fun k a b => ⟨fun _ => by
      show S0 k = zC A S 0 213 213 k
      rw [zSv_out (by omega)]
      exact (h4 k a b).1 (by decide), fun _ => (zSv_in (A := A) (X := S) (d := 213) a b).symm, fun q => absurd q (by decide), fun q => absurd q (by decide)⟩⟩
  · exact ⟨⟨fun _ => h0 (by decide), fun _ => h1 (by decide), fun _ => hA, fun q => absurd q (by decide)⟩, fun k a b => ⟨fun _ => by
      show S0 k = zC A S 0 426 213 k
      rw [zSv_out (by omega)]
      exact (h4 k a b).1 (by decide), fun _ => by
      show S1 k = zC A S 0 426 213 (213 + k)
      rw [zSv_out (by omega)]
      exact (h4 k a b).2.1 (by decide), fun _ => (zSv_in (A := A) (X := S) (d := 426) a b).symm, fun q => absurd q (by decide)⟩⟩
  · exact ⟨⟨fun _ => h0 (by decide), fun _ => h1 (by decide), fun _ => h2 (by decide), fun _ => hA⟩, fun k a b => ⟨fun _ => by
      show S0 k = zC A S 0 639 213 k
      rw [zSv_out (by omega)]
      exact (h4 k a b).1 (by decide), fun _ => by
      show S1 k = zC A S 0 639 213 (213 + k)
      rw [zSv_out (by omega)]
      exact (h4 k a b).2.1 (by decide), fun _ => by
      show S2 k = zC A S 0 639 213 (426 + k)
      rw [zSv_out (by omega)]
      exact (h4 k a b).2.2.1 (by decide), fun _ => (zSv_in (A := A) (X := S) (d := 639) a b).symm⟩⟩
  · have e : ∀ j : Int, 0 ≤ j → j < 639 → zC A (zC S S 213 0 639) 0 639 213 j = S (213 + j) := fun j a b => by
      rw [zSv_out (by omega)]
      simp only [zC]
      rw [if_pos (by omega)]
      congr 1
      omega
    exact ⟨⟨fun _ => h1 (by decide), fun _ => h2 (by decide), fun _ => h3 (by decide), fun _ => hA⟩, fun k a b => ⟨fun _ => by
      show S1 k = zC A (zC S S 213 0 639) 0 639 213 k
      rw [e k a (by omega)]
      exact (h4 k a b).2.1 (by decide), fun _ => by
      show S2 k = zC A (zC S S 213 0 639) 0 639 213 (213 + k)
      rw [e (213 + k) (by omega) (by omega), (h4 k a b).2.2.1 (by decide)]
      congr 1
      omega, fun _ => by
      show S3 k = zC A (zC S S 213 0 639) 0 639 213 (426 + k)
      rw [e (426 + k) (by omega) (by omega), (h4 k a b).2.2.2 (by decide)]
      congr 1
      omega, fun _ => (zSv_in (A := A) (X := zC S S 213 0 639) (d := 639) a b).symm⟩⟩
theorem zSvd.undo {n xm : Int} {A S0 S1 S2 S3 S : Int → Int} (h : zSvd n xm S0 S1 S2 S3 S) (hm : 0 < xm ∧ xm ≤ 4) : zOK n (zr4 xm S0 S1 S2 S3) ∧ (∀ k : Int, 0 ≤ k → k < 213 → zr4 xm S0 S1 S2 S3 k = zUn S A xm k) ∧ zSvd n (xm - 1) S0 S1 S2 S3 S := by
  obtain ⟨⟨h0, h1, h2, h3⟩, h4⟩ := h
  have e : ∀ k : Int, 0 ≤ k → k < 213 → zUn S A xm k = S (213 * (xm - 1) + k) := fun k a b => by
    simp only [zUn, zC]
    rw [if_pos (by omega)]
    congr 1
    omega
  have last : zSvd n (xm - 1) S0 S1 S2 S3 S := ⟨⟨fun q => h0 (by omega), fun q => h1 (by omega), fun q => h2 (by omega), fun q => h3 (by omega)⟩, fun k a b => ⟨fun q => (h4 k a b).1 (by omega), fun q => (h4 k a b).2.1 (by omega), fun q => (h4 k a b).2.2.1 (by omega), fun q => (h4 k a b).2.2.2 (by omega)⟩⟩
  rcases (show xm = 1 ∨ xm = 2 ∨ xm = 3 ∨ xm = 4 by omega) with rfl | rfl | rfl | rfl
  · refine ⟨h0 (by decide), fun k a b => ?_, last⟩
    rw [e k a b]
    show S0 k = _
    rw [(h4 k a b).1 (by decide)]
    congr 1
    omega
  · refine ⟨h1 (by decide), fun k a b => ?_, last⟩
    rw [e k a b]
    show S1 k = _
    rw [(h4 k a b).2.1 (by decide)]
    congr 1
  · refine ⟨h2 (by decide), fun k a b => ?_, last⟩
    rw [e k a b]
    show S2 k = _
    rw [(h4 k a b).2.2.1 (by decide)]
    congr 1
  · refine ⟨h3 (by decide), fun k a b => ?_, last⟩
    rw [e k a b]
    show S3 k = _
    rw [(h4 k a b).2.2.2 (by decide)]
    congr 1
def zInL (n : Int) (A S0 S1 S2 S3 S : Int → Int) (xm : Int) (f : Int → Int) (xl : Int) : Prop := zOK n A ∧ (0 ≤ xm ∧ xm ≤ 4) ∧ zSvd n xm S0 S1 S2 S3 S ∧ (0 ≤ xl ∧ xl ≤ 120) ∧ ∀ k : Int, 0 ≤ k → k < xl → 0 ≤ f k ∧ f k ≤ 127
theorem zInL.mono {n n2 : Int} {A S0 S1 S2 S3 S : Int → Int} {xm : Int} {f : Int → Int} {xl : Int} (h : zInL n A S0 S1 S2 S3 S xm f xl) (e : n ≤ n2) : zInL n2 A S0 S1 S2 S3 S xm f xl := ⟨zOK_mono h.1 e, h.2.1, h.2.2.1.mono e, h.2.2.2⟩
/-- a call that saves and then makes the table B of A -/
theorem zInL.save {n n2 : Int} {A G S0 S1 S2 S3 S : Int → Int} {xm : Int} {f : Int → Int} {xl : Int} (h : zInL n A S0 S1 S2 S3 S xm f xl) (e : n ≤ n2) (hG : zOK n2 G) : zInL n2 G (zs4 xm 0 A S0 S1) (zs4 xm 1 A S1 S2) (zs4 xm 2 A S2 S3) (zs4 xm 3 A S3 A) (zSvF S A xm) (zm4 xm) f xl :=
  ⟨hG, by have := h.2.1; unfold zm4; split <;> omega, (h.2.2.1.save h.1 h.2.1).mono e, h.2.2.2⟩
def zo5 (xm : Int) (o : Nat → Nat → Nat) : Nat → Nat → Nat := fun k => match k with
  | 4 => zq4 xm (o 5) (o 4)
  | 5 => zq4 xm (o 6) (o 5)
  | 6 => zq4 xm (o 7) (o 6)
  | 7 => zq4 xm (o 4) (o 7)
  | k => o k
section ZLR
variable {p : Program} {l : Launch} {e : Env} {R : Room} {s : State} {m : MethodId} {args : Array Value} {below : List Frame} {meth : Method} {c : Code} {H : Heap} {locs : List Loc} {cells slots : Nat} {Q : State → Prop}
variable {cc : ByteArray} {pc : Nat} {ls : Array Slot} {rest st0 : List Value} {D : va_G} {cs : Nat → ClassId} {A0 : Nat → Prop} {a : Array Value} {H0 : Heap} {ws : va_W} {mc ms : Nat}
theorem zr_sls {b L : Nat} {xs : Nat → Int32} (hx : p.tables.exec = Jvm.exec) (hb : c.code = cc) (hX : va_X b L xs s H0) (hbl : b < H0.size) (hbA : ¬ A0 b) (hS : va_S A0 H0 H locs) {i : Int} (hL : L ≤ 2560) (hi : 0 ≤ i ∧ i < L) (d : decode cc pc = .ok (.iaload, 1)) (k : W p l e R s m args below meth c H locs cells slots Q (F0 m (pc + 1) ls (.int (zI (zX xs i)) :: rest))) : W p l e R s m args below meth c H locs cells slots Q (F0 m pc ls (.int (zI i) :: .ref b :: rest)) :=
  va_sld hx hb hX hbl hbA hS (zI_in (by omega) hi) d (by rw [zI_cl (by omega), ← zX_e xs i]; exact k)
theorem zr_lceq (hx : p.tables.exec = Jvm.exec) (hb : c.code = cc) {a : Int64} {off : Int} {tgt : Nat} (d1 : decode cc pc = .ok (.lcmp, 1)) (d : decode cc (pc + 1) = .ok (.ifCond .eq off, 3)) (ht : ((pc + 1 : Nat) : Int) + off = (tgt : Int)) (k : W p l e R s m args below meth c H locs cells slots Q (F0 m tgt ls rest)) : W p l e R s m args below meth c H locs cells slots Q (F0 m pc ls (.long a :: .long a :: rest)) :=
  W.lcmp hx hb d1 (lv_if_eq hx hb d ht (fun _ => k) (fun h => absurd ((lg_cmp_eq _ _).mpr rfl) h))
theorem zr_iceq (hx : p.tables.exec = Jvm.exec) (hb : c.code = cc) {a : Int32} {off : Int} {tgt : Nat} (d : decode cc pc = .ok (.if_icmp .eq off, 3)) (ht : ((pc : Nat) : Int) + off = (tgt : Int)) (k : W p l e R s m args below meth c H locs cells slots Q (F0 m tgt ls rest)) : W p l e R s m args below meth c H locs cells slots Q (F0 m pc ls (.int a :: .int a :: rest)) :=
  lv_icmp_eq (tgt := tgt) hx hb d ht (fun _ => k) (fun h => absurd rfl h)
theorem zc_xi {w w2 wr : va_W} {v : Int32} (hr : vx_Run p l e R s m args below meth c H locs cells slots mc ms (F0 m pc ls st0) rest (zQi D w H.size v w2 a) zXN (va_A w H.size)) (hS : va_S A0 H0 H locs) (hP : va_P D vwCl ws H) (hD : va_D A0 ws) (hA : ∀ q, H0.size ≤ q → A0 q) (isC isR : List Nat) (hC : isC.map (fun i => ws[i]?) = w.map some) (hR : isR.map (fun i => ws[i]?) = wr.map some) (hn : va_nd isR = true) (hdis : ∀ i ∈ isR, i ∉ isC) (kk : ∀ (H1 : Heap) (locs1 : List Loc), va_P D vwCl (wr ++ w2) H1 → va_D A0 (wr ++ w2) → va_S A0 H0 H1 locs1 → W p l e R s m args below meth c H1 locs1 (cells + mc) (slots + ms) Q (F0 m (pc + 3) ls (.int v :: rest))) : W p l e R s m args below meth c H locs cells slots Q (F0 m pc ls st0) := by
  have hF := va_free (wc := w) hD hS hA isC hC
  refine vx_calli hr hS (fun q _ h => hF q h) hF (fun _ _ h => h.elim) (fun E ce q9 u t H1 locs1 ht hvm hp9 _ _ _ _ _ _ _ => hp9.elim) (fun r u t H1 locs1 ht hvm hw hB hz hk hS1 => ?_)
  subst hw
  obtain ⟨hP1, hD1⟩ := hB
  rw [ht] at hP1
  obtain ⟨h1, h2⟩ := va_join hP hD isC isR hC hR hn hdis hk hF hP1 hD1
  exact kk H1 locs1 h1 h2 hS1
theorem zc_xk {v : Int} (hr : vx_Run p l e R s m args below meth c H locs cells slots mc ms (F0 m pc ls st0) rest (zQk v a) zXN (fun _ => False)) (hS : va_S A0 H0 H locs) (hP : va_P D vwCl ws H) (kk : ∀ (H1 : Heap) (locs1 : List Loc), va_P D vwCl ws H1 → va_S A0 H0 H1 locs1 → W p l e R s m args below meth c H1 locs1 (cells + mc) (slots + ms) Q (F0 m (pc + 3) ls (.int (zI v) :: rest))) : W p l e R s m args below meth c H locs cells slots Q (F0 m pc ls st0) := by
  refine vx_calli hr hS (fun _ _ h => h.elim) (fun _ h => h.elim) (fun _ _ h => h.elim) (fun E ce q9 u t H1 locs1 ht hvm hp9 _ _ _ _ _ _ _ => hp9.elim) (fun r u t H1 locs1 ht hvm hw hB hz hk hS1 => ?_)
  subst hw
  exact kk H1 locs1 (hP.kept (fun k x hx => hk x.1 ((hP k x hx).lt) (fun h => h))) hS1
theorem zc_lj {w w2 wr : va_W} {v : Int64} (hr : va_Run p l e R s m args below meth c H locs cells slots mc ms (F0 m pc ls st0) rest (zQl D w H.size v w2 a) (va_A w H.size)) (hS : va_S A0 H0 H locs) (hP : va_P D vwCl ws H) (hD : va_D A0 ws) (hA : ∀ q, H0.size ≤ q → A0 q) (isC isR : List Nat) (hC : isC.map (fun i => ws[i]?) = w.map some) (hR : isR.map (fun i => ws[i]?) = wr.map some) (hn : va_nd isR = true) (hdis : ∀ i ∈ isR, i ∉ isC) (kk : ∀ (H1 : Heap) (locs1 : List Loc), va_P D vwCl (wr ++ w2) H1 → va_D A0 (wr ++ w2) → va_S A0 H0 H1 locs1 → W p l e R s m args below meth c H1 locs1 (cells + mc) (slots + ms) Q (F0 m (pc + 3) ls (.long v :: rest))) : W p l e R s m args below meth c H locs cells slots Q (F0 m pc ls st0) := by
  have hF := va_free (wc := w) hD hS hA isC hC
  refine va_calll hr hS (fun q _ h => hF q h) hF (fun r u t H1 locs1 ht hvm hw hB hz hk hS1 => ?_)
  subst hw
  obtain ⟨hP1, hD1⟩ := hB
  rw [ht] at hP1
  obtain ⟨h1, h2⟩ := va_join hP hD isC isR hC hR hn hdis hk hF hP1 hD1
  exact kk H1 locs1 h1 h2 hS1
end ZLR
