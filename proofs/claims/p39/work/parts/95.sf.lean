set_option maxRecDepth 100000 in
set_option maxHeartbeats 4000000 in
/-- from the entry: the two objects are made, then the loop -/
theorem whole_start {p : Program} {e : Env} {s : State} {m : MethodId} {below : List Frame} {meth : Method} {c : Code} (l : Launch) (hflags : l.flags = flags0) {b L : Nat} {xs : Nat → Int32} (hL : L ≤ 3072) (C0 : lw_At p s m meth c b L xs) : W p l e room_1 s m #[Value.ref b] below meth c s.heap [] 0 0 (lw_Z below #[Value.ref b] s) (entryFrame m ([Value.ref b] : List Value).toArray 4) := by
  obtain ⟨hx, hb, hr, hml, hown, hts0, hX, hbl, hlocks, hgv⟩ := id C0
  obtain ⟨D, aC, C⟩ := lw_ctx C0
  have hl := lv_entry ([.ref b]) (n := 4) (Nat.le_of_ble_eq_true rfl)
  rw [lg_entry_eq]
  generalize (lg_sl ([.ref b]) ++ List.replicate (4 - (lg_sl ([.ref b])).length) Slot.unset).toArray = lc at hl ⊢
  have hl : lv_has lc 4 [(0, .ref b)] := hl
  refine lw_n1 C hl (fun H1 p1 s1 => ?_)
  refine lw_n1b C hl p1 s1 (fun τ1 H2 locs2 lc hF p2 s2 hl => ?_)
  refine lw_n2 C p2 s2 (fun H3 p3 s3 => ?_)
  refine lw_n2b C hl (T51_new hF) hF p3 s3 (fun τ2 H4 locs4 lc hM p4 s4 hl => ?_)
  refine lv_iconst (v := 0) hx hb dL_law_16 (by decide) ?_
  refine lv_istore_n (lv' := [(3, .int (Int32.ofInt 0)), (2, .ref (s.heap.size + 51)), (1, .ref (s.heap.size + 0)), (0, .ref b)]) hx hb dL_law_17 rfl hl (by decide) rfl (fun lc hl => ?_)
  have hsl : am_sz SH KF 92 - am_sz SH KF 0 = 0 + 14 + 6942 + 63 + 11824 := by decide +kernel
  have go := lw_loop (l := l) (e := e) (below := below) C hr hlocks hL _ 0 τ2 H4 locs4 lc rfl (by decide) (by decide) (⟨ini_B hM.1, ini_RLt hM⟩) p4 s4 hl
  rw [hsl] at go
  exact go
