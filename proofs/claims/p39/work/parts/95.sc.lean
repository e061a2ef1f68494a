set_option maxRecDepth 100000 in
theorem lw_n1b {p : Program} {l : Launch} {e : Env} {s : State} {m : MethodId} {below : List Frame} {meth : Method} {c : Code} {D : va_G} {aC : Nat → ClassId} {b L : Nat} {xs : Nat → Int32} (C : lw_K p s m c D aC b L xs) {lc : Array Slot} (hl : lv_has lc 4 [(0, .ref b)]) {H1 : Heap} (p1 : va_P D vwCl (am_ws SH K1 s.heap.size aC 1 (am_new (fun _ _ => 0, fun _ _ => 0) 0)) H1) (s1 : va_S (fun q => s.heap.size ≤ q) s.heap H1 [])
    (kk : ∀ (τ1 : am_S) (H2 : Heap) (locs2 : List Loc) (lc : Array Slot), T51 τ1 → va_P D vwCl (am_ws SH K2 s.heap.size aC 51 τ1) H2 → va_S (fun q => s.heap.size ≤ q) s.heap H2 locs2 → lv_has lc 4 [(1, .ref (s.heap.size + 0)), (0, .ref b)] → W p l e room_1 s m #[Value.ref b] below meth c H2 locs2 (51 - 0) (0 + 14 + 6942) (lw_Z below #[Value.ref b] s) (F0 m 8 lc [])) : W p l e room_1 s m #[Value.ref b] below meth c H1 [] (1 - 0) (0 + 14) (lw_Z below #[Value.ref b] s) (F0 m 3 lc [.ref (s.heap.size + 0)]) := by
  obtain ⟨hx, hb, hml, hown, hts, hX, hbl, hK, hN⟩ := id C
  have fx : CallFix p m c code 4 s #[Value.ref b] TB R_law := ⟨hx, hb, hml, hown, hts⟩
  generalize hσ0 : ((fun _ _ => 0, fun _ _ => 0) : am_S) = σ0 at p1
  refine lv_dup hx hb dL_law_3 rfl ?_
  refine am_size (n0 := 0) (n := 1) p1 s1 rfl (Nat.zero_le _) rfl fun hz1 => ?_
  have hsp1 : sX11_init [.ref 0] 1 (am_new σ0 0) (fun v τ => v = none ∧ T51 τ) := ⟨rfl, rfl, fun k => by simp [am_new], fun τ a1 => ⟨rfl, a1⟩⟩
  refine am_call (n1 := 51) (post := (fun v τ => v = none ∧ T51 τ)) (va_runI (As := []) (rest := [.ref (s.heap.size + 0)]) (n := 0) fx (mX11_init l D aC s.heap.size 1 _ _ _ hsp1 (by decide +kernel)) ⟨⟨rfl, rfl, by show 10 + 1 ≤ 2048; decide, by show 8 + (1 + 11) + 64 * 10 ≤ 84000; decide, am_words hts (tk_128), am_code_in, hts _ (tk_128), hts _ (tk_103), ⟨by decide +kernel, by decide +kernel⟩, am_sig (na := 0) (by decide +kernel), hts _ (tk_126)⟩, rfl, hts _ (tk_127)⟩ ⟨am_blind (as := [.ref 0]), am_pre (as := [.ref 0]) hz1 p1 hK hN s1⟩ rfl rfl hl.1 rfl (lv_room (Nat.le_of_ble_eq_true rfl)) dL_law_4 (by decide +kernel)) s1 (fun v τ1 H2 locs2 hv p2 s2 => ?_)
  obtain ⟨rfl, hF⟩ := hv
  refine lv_astore_n (lv' := [(1, .ref (s.heap.size + 0)), (0, .ref b)]) hx hb dL_law_7 rfl hl (by decide) rfl (fun lc hl => ?_)
  exact kk τ1 H2 locs2 lc hF p2 s2 hl
