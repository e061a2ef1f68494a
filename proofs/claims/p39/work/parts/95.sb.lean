set_option maxRecDepth 100000 in
theorem lw_n1 {p : Program} {l : Launch} {e : Env} {s : State} {m : MethodId} {below : List Frame} {meth : Method} {c : Code} {D : va_G} {aC : Nat → ClassId} {b L : Nat} {xs : Nat → Int32} (C : lw_K p s m c D aC b L xs) {lc : Array Slot} (hl : lv_has lc 4 [(0, .ref b)])
    (kk : ∀ H1 : Heap, va_P D vwCl (am_ws SH K1 s.heap.size aC 1 (am_new (fun _ _ => 0, fun _ _ => 0) 0)) H1 → va_S (fun q => s.heap.size ≤ q) s.heap H1 [] → W p l e room_1 s m #[Value.ref b] below meth c H1 [] (1 - 0) (0 + 14) (lw_Z below #[Value.ref b] s) (F0 m 3 lc [.ref (s.heap.size + 0)])) : W p l e room_1 s m #[Value.ref b] below meth c s.heap [] 0 0 (lw_Z below #[Value.ref b] s) (F0 m 0 lc []) := by
  obtain ⟨hx, hb, hml, hown, hts, hX, hbl, hK, hN⟩ := id C
  obtain ⟨tyc, hG1⟩ := G1
  have hA : ∀ q : Nat, s.heap.size ≤ q → (fun q : Nat => s.heap.size ≤ q) q := fun _ h => h
  have hS : va_S (fun q : Nat => s.heap.size ≤ q) s.heap s.heap [] := va_S.rf
  generalize hσ0 : ((fun _ _ => 0, fun _ _ => 0) : am_S) = σ0 at kk
  have hP : va_P D vwCl (am_ws SH K1 s.heap.size aC 0 σ0) s.heap := fun k q h => by simp [am_ws] at h
  have hD : va_D (fun q : Nat => s.heap.size ≤ q) (am_ws SH K1 s.heap.size aC 0 σ0) := ⟨fun i j p q h => by simp [am_ws] at h, fun k q h => by simp [am_ws] at h⟩
  refine va_new (D := D) (cl := vwCl) (ci := 11) (fs := (am_fs (K1 0) (fun _ => 0) (fun _ => 0)).map (am_c s.heap.size)) (C := RX11) (T := TX11) (N := 14) hx hb hts (hG1.1 11 _ rfl).1 (tyc 11) (hG1.1 11 _ rfl).2.1 hown (hts _ (tk_124)) (hts _ (tk_125)) (hts _ (tk_103)) hK hP hD hS hA rfl (fun j hj => am_new_fs (K1 0) (by decide +kernel) s.heap.size (tyc 11) j hj (by
      obtain ⟨w', hc', hlK, hkk⟩ := hG1.2.1 0 11 rfl
      exact hkk)) (by decide) (by decide) dL_law_0 (fun q H1 p1 dd1 s1 => ?_)
  refine am_addr (n0 := 0) (n := 0) p1 dd1 rfl (Nat.le_refl _) fun ha => ?_
  subst ha
  have w1 : (.inr (11, (am_fs (K1 0) (fun _ => 0) (fun _ => 0)).map (am_c s.heap.size)) : va_E) = am_cell SH K1 s.heap.size aC (am_new σ0 0) 0 := by
    simp only [am_cell, SH_0, am_new]
    simp
  rw [am_ws_push (SH := SH) (KF := K1) (b := s.heap.size) (aC := aC) (n := 0) (σ := σ0) (τ := am_new σ0 0) w1 (fun i hi => am_new_ne (by omega))] at p1
  exact kk H1 p1 s1
