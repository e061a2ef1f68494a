set_option maxRecDepth 100000 in
theorem lw_n2 {p : Program} {l : Launch} {e : Env} {s : State} {m : MethodId} {below : List Frame} {meth : Method} {c : Code} {D : va_G} {aC : Nat → ClassId} {b L : Nat} {xs : Nat → Int32} (C : lw_K p s m c D aC b L xs) {lc : Array Slot} {τ1 : am_S} {H2 : Heap} {locs2 : List Loc} (p2 : va_P D vwCl (am_ws SH K2 s.heap.size aC 51 τ1) H2) (s2 : va_S (fun q => s.heap.size ≤ q) s.heap H2 locs2)
    (kk : ∀ H3 : Heap, va_P D vwCl (am_ws SH K2 s.heap.size aC 52 (am_new τ1 51)) H3 → va_S (fun q => s.heap.size ≤ q) s.heap H3 locs2 → W p l e room_1 s m #[Value.ref b] below meth c H3 locs2 (52 - 0) (0 + 14 + 6942 + 63) (lw_Z below #[Value.ref b] s) (F0 m 11 lc [.ref (s.heap.size + 51)])) : W p l e room_1 s m #[Value.ref b] below meth c H2 locs2 (51 - 0) (0 + 14 + 6942) (lw_Z below #[Value.ref b] s) (F0 m 8 lc []) := by
  obtain ⟨hx, hb, hml, hown, hts, hX, hbl, hK, hN⟩ := id C
  obtain ⟨tyc2, hG2⟩ := G2
  have hA : ∀ q : Nat, s.heap.size ≤ q → (fun q : Nat => s.heap.size ≤ q) q := fun _ h => h
  refine am_size (n0 := 0) (n := 51) p2 s2 rfl (Nat.zero_le _) rfl fun hz2 => ?_
  have hD2 : va_D (fun q : Nat => s.heap.size ≤ q) (am_ws SH K2 s.heap.size aC 51 τ1) := am_ws_D
  refine va_new (D := D) (cl := vwCl) (ci := 12) (fs := (am_fs (K2 51) (fun _ => 0) (fun _ => 0)).map (am_c s.heap.size)) (C := RX12) (T := TX12) (N := 63) hx hb hts (hG2.1 12 _ rfl).1 (tyc2 12) (hG2.1 12 _ rfl).2.1 hown (hts _ (tk_1291)) (hts _ (tk_1292)) (hts _ (tk_120)) hK p2 hD2 s2 hA rfl (fun j hj => am_new_fs (K2 51) (by decide +kernel) s.heap.size (tyc2 12) j hj (by
      obtain ⟨w', hc', hlK, hkk⟩ := hG2.2.1 51 12 rfl
      exact hkk)) (by decide) (by decide +kernel) dL_law_8 (fun q H3 p3 dd3 s3 => ?_)
  refine am_addr (n0 := 0) (n := 51) p3 dd3 rfl (Nat.zero_le _) fun ha => ?_
  subst ha
  have w3 : (.inr (12, (am_fs (K2 51) (fun _ => 0) (fun _ => 0)).map (am_c s.heap.size)) : va_E) = am_cell SH K2 s.heap.size aC (am_new τ1 51) 51 := by
    simp only [am_cell, SH_51, am_new]
    simp
  rw [am_ws_push (SH := SH) (KF := K2) (b := s.heap.size) (aC := aC) (n := 51) (σ := τ1) (τ := am_new τ1 51) w3 (fun i hi => am_new_ne (by omega))] at p3
  exact kk H3 p3 s3
