/-! the law: rows for the calls that never throw -/
section ZPG
variable {α : Type} {X A T r b0 b1 b2 b3 t m u z : List α}
theorem zPf_R : ((T ++ (m ++ u)) ++ (X ++ (A ++ (r ++ (b0 ++ (b1 ++ (b2 ++ (b3 ++ t)))))))).Perm ((X ++ (A ++ (T ++ ((r ++ (b0 ++ (b1 ++ (b2 ++ b3)))) ++ t)))) ++ (m ++ u)) := by
  classical
  exact List.perm_iff_count.mpr (fun a => by simp only [List.count_append]; omega)
theorem zPf_T : ((A ++ (T ++ (r ++ (b0 ++ (b1 ++ (b2 ++ (b3 ++ (m ++ u)))))))) ++ (X ++ t)).Perm ((X ++ (A ++ (T ++ ((r ++ (b0 ++ (b1 ++ (b2 ++ b3)))) ++ t)))) ++ (m ++ u)) := by
  classical
  exact List.perm_iff_count.mpr (fun a => by simp only [List.count_append]; omega)
theorem zPf_Tl {x t0 t1 t2 : α} : ((A ++ (T ++ (r ++ (b0 ++ (b1 ++ (b2 ++ (b3 ++ (m ++ u)))))))) ++ [x, t0, t1, t2]).Perm (([x] ++ (A ++ (T ++ ((r ++ (b0 ++ (b1 ++ (b2 ++ b3)))) ++ [t0, t1, t2])))) ++ (m ++ u)) :=
  zPf_T (X := [x]) (t := [t0, t1, t2])
end ZPG
theorem zRv_ms {f : Int → Int} {L : Int} (hL : 0 ≤ L ∧ L ≤ 120) (h : 0 ≤ zRv f L) : (∀ i : Int, 0 ≤ i → i < zCn f L / 3 → zMs (zTb f L) (3 * i)) ∧ 0 ≤ zCn f L ∧ zCn f L ≤ 60 := by
  have r := zRd_r (f := f) hL.1
  have hd : zRd f L = -1 := by
    by_cases c : zRd f L = -1
    · exact c
    · exfalso
      unfold zRv at h
      rw [if_pos c] at h
      omega
  obtain ⟨ho, -, -⟩ := zRd_m hL.1 hd
  obtain ⟨i1, i2, -, i4⟩ := zAs_v f L.toNat (fun j a b => ho j a (by omega))
  have i5 := zDn_r i4
  have i1 : 0 ≤ zCn f L := i1
  have i2 : 2 * zCn f L + (zAs f L.toNat).2.2.1 ≤ (L.toNat : Int) := i2
  have hb : ¬ zBad f L < zCn f L / 3 := by
    intro c
    have rb := zFst_r (fun i => decide (¬ zMs (zTb f L) (3 * i))) (zCn f L / 3).toNat 0
    have rb : 0 ≤ zBad f L := rb.1
    unfold zRv at h
    rw [if_neg (by omega), if_pos c] at h
    omega
  refine ⟨fun i a b => ?_, i1, by omega⟩
  have q := zFst_b (fun i => decide (¬ zMs (zTb f L) (3 * i))) (zCn f L / 3).toNat 0 i a (show i < zBad f L by omega)
  exact Decidable.not_not.mp (of_decide_eq_false q)
section ZLE
variable {p : Program} {l : Launch} {e : Env} {R : Room} {s : State} {m : MethodId} {args : Array Value} {below : List Frame} {meth : Method} {c : Code} {H : Heap} {locs : List Loc} {cells slots : Nat} {Q : State → Prop}
variable {cc : ByteArray} {pc : Nat} {ls : Array Slot} {rest st0 : List Value} {D : va_G} {cs : Nat → ClassId} {A0 : Nat → Prop} {a : Array Value} {H0 : Heap} {ws : va_W} {mc ms : Nat}
theorem zc_ej {w wr : va_W} {v : Int} {w2 : Int → (Int → Int) → Int → va_W} (hr : va_Run p l e R s m args below meth c H locs cells slots mc ms (F0 m pc ls st0) rest (zQe D w H.size (zI v) w2 a) (va_A w H.size)) (hS : va_S A0 H0 H locs) (hP : va_P D vwCl ws H) (hD : va_D A0 ws) (hA : ∀ q, H0.size ≤ q → A0 q) (isC isR : List Nat) (hC : isC.map (fun i => ws[i]?) = w.map some) (hR : isR.map (fun i => ws[i]?) = wr.map some) (hn : va_nd isR = true) (hdis : ∀ i ∈ isR, i ∉ isC) (kk : ∀ (pl : Int) (g : Int → Int) (am : Int) (H1 : Heap) (locs1 : List Loc), va_P D vwCl (wr ++ w2 pl g am) H1 → va_D A0 (wr ++ w2 pl g am) → va_S A0 H0 H1 locs1 → W p l e R s m args below meth c H1 locs1 (cells + mc) (slots + ms) Q (F0 m (pc + 3) ls (.int (zI v) :: rest))) : W p l e R s m args below meth c H locs cells slots Q (F0 m pc ls st0) := by
  have hF := va_free (wc := w) hD hS hA isC hC
  refine va_calli hr hS (fun q _ h => hF q h) hF (fun r u t H1 locs1 ht hvm hw hB hz hk hS1 => ?_)
  subst hw
  obtain ⟨pl, g, am, hP1, hD1⟩ := hB
  rw [ht] at hP1
  obtain ⟨h1, h2⟩ := va_join hP hD isC isR hC hR hn hdis hk hF hP1 hD1
  exact kk pl g am H1 locs1 h1 h2 hS1
end ZLE
