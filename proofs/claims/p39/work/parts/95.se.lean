set_option maxRecDepth 100000 in
theorem lw_n2b {p : Program} {l : Launch} {e : Env} {s : State} {m : MethodId} {below : List Frame} {meth : Method} {c : Code} {D : va_G} {aC : Nat → ClassId} {b L : Nat} {xs : Nat → Int32} (C : lw_K p s m c D aC b L xs) {lc : Array Slot} (hl : lv_has lc 4 [(1, .ref (s.heap.size + 0)), (0, .ref b)]) {τ1 : am_S} {H3 : Heap} {locs2 : List Loc} (hlo : sb_lo B0 51 (am_new τ1 51)) (hT : T51 τ1) (p3 : va_P D vwCl (am_ws SH K2 s.heap.size aC 52 (am_new τ1 51)) H3) (s3 : va_S (fun q => s.heap.size ≤ q) s.heap H3 locs2)
    (kk : ∀ (τ2 : am_S) (H4 : Heap) (locs4 : List Loc) (lc : Array Slot), iniRel τ2 → va_P D vwCl (am_ws SH KF s.heap.size aC 92 τ2) H4 → va_S (fun q => s.heap.size ≤ q) s.heap H4 locs4 → lv_has lc 4 [(2, .ref (s.heap.size + 51)), (1, .ref (s.heap.size + 0)), (0, .ref b)] → W p l e room_1 s m #[Value.ref b] below meth c H4 locs4 (92 - 0) (0 + 14 + 6942 + 63 + 11824) (lw_Z below #[Value.ref b] s) (F0 m 16 lc [])) : W p l e room_1 s m #[Value.ref b] below meth c H3 locs2 (52 - 0) (0 + 14 + 6942 + 63) (lw_Z below #[Value.ref b] s) (F0 m 11 lc [.ref (s.heap.size + 51)]) := by
  obtain ⟨hx, hb, hml, hown, hts, hX, hbl, hK, hN⟩ := id C
  have fx : CallFix p m c code 4 s #[Value.ref b] TB R_law := ⟨hx, hb, hml, hown, hts⟩
  refine lv_dup hx hb dL_law_11 rfl ?_
  refine am_size (n0 := 0) (n := 52) p3 s3 rfl (Nat.zero_le _) rfl fun hz3 => ?_
  have hsp2 : sX12_initk [.ref 51] 52 (am_new τ1 51) (fun v τ => v = none ∧ iniRel τ) := ⟨rfl, rfl, fun k => by simp [am_new], hlo, fun τ a1 a2 a3 a4 a5 => ⟨rfl, a1, a2, ⟨τ1, hT, fun o k ho => ⟨(a3 o k ho).1.trans (if_neg (by omega)), (a3 o k ho).2.trans (if_neg (by omega))⟩⟩, a4, a5⟩⟩
  refine lw_ini C (mX12_initk l) (by decide) (by decide) (lw_cd2) (tk_120) ⟨by decide +kernel, by decide +kernel, by decide +kernel⟩ (tk_1293) (tk_1294) rfl (rest := [.ref (s.heap.size + 51)]) (o := 51) (n0 := 52) (Nat.le_of_ble_eq_true rfl) hl.1 dL_law_12 p3 s3 hz3 hsp2 lw_sz2 ⟨by decide, by decide⟩ (fun v τ2 H4 locs4 hv p4 s4 => ?_)
  obtain ⟨rfl, hM⟩ := hv
  refine lv_astore_n (lv' := [(2, .ref (s.heap.size + 51)), (1, .ref (s.heap.size + 0)), (0, .ref b)]) hx hb dL_law_15 rfl hl (by decide) rfl (fun lc hl => ?_)
  exact kk τ2 H4 locs4 lc hM p4 s4 hl
