set_option maxRecDepth 100000 in
theorem lw_c2 {p : Program} {l : Launch} {e : Env} {s : State} {m : MethodId} {below : List Frame} {meth : Method} {c : Code} {D : va_G} {aC : Nat → ClassId} {b L : Nat} {xs : Nat → Int32} (C : lw_K p s m c D aC b L xs) {i : Int} (hi : 0 ≤ i ∧ i + 6 ≤ (L : Int) ∧ L ≤ 3072) {σ : am_S} {H : Heap} {locs : List Loc} {lc : Array Slot} (hokR : okR σ) (hP : va_P D vwCl (am_ws SH KF s.heap.size aC 92 σ) H) (hS : va_S (fun q => s.heap.size ≤ q) s.heap H locs) (hl : lv_has lc 4 [(3, .int (Int32.ofInt i)), (2, .ref (s.heap.size + 51)), (1, .ref (s.heap.size + 0)), (0, .ref b)])
    (back : ∀ (τ : am_S) (H : Heap) (locs : List Loc), okR τ → va_P D vwCl (am_ws SH KF s.heap.size aC 92 τ) H → va_S (fun q => s.heap.size ≤ q) s.heap H locs → W p l e room_1 s m #[Value.ref b] below meth c H locs (92 - 0) (am_sz SH KF 92 - am_sz SH KF 0) (lw_Z below #[Value.ref b] s) (F0 m 1371 lc [])) : W p l e room_1 s m #[Value.ref b] below meth c H locs (92 - 0) (am_sz SH KF 92 - am_sz SH KF 0) (lw_Z below #[Value.ref b] s) (F0 m 298 lc []) := by
  have hok : okS σ := hokR.1
  refine lv_aload_n C.1 C.2.1 dL_law_298 rfl (lv_at hl 2 rfl) ?_
  refine lw_call C (ix := 23) (o := 0) (As := []) (rest := []) (ci := 11) (na := 0) (pc := 299) (mX11_readK l) (by decide) (by decide) (tk_532) (tk_103) ⟨by decide +kernel, by decide +kernel, by decide +kernel⟩ (tk_529) (tk_530) rfl (tk_531) (by decide) rfl rfl rfl (Nat.le_of_ble_eq_true rfl) dL_law_299 hP hS hl (useC_read hokR) (fun v τ1 H1 locs1 hv hP1 hS1 => ?_)
  obtain ⟨x0, rfl, hm0⟩ := hv
  refine lv_pop C.1 C.2.1 dL_law_302 rfl ?_
  refine lv_aload_n C.1 C.2.1 dL_law_303 rfl (lv_at hl 1 rfl) ?_
  refine lw_call C (ix := 27) (o := 51) (As := []) (rest := []) (ci := 12) (na := 0) (pc := 304) (mX12_readK l) (by decide) (by decide) (tk_1520) (tk_120) ⟨by decide +kernel, by decide +kernel, by decide +kernel⟩ (tk_1517) (tk_1518) rfl (tk_1519) (by decide) rfl rfl rfl (Nat.le_of_ble_eq_true rfl) dL_law_304 hP1 hS1 hl (useR_read hokR hm0) (fun v τ11 H11 locs11 hv hP11 hS11 => ?_)
  obtain ⟨x1, rfl, hm1⟩ := hv
  refine lv_pop C.1 C.2.1 dL_law_307 rfl ?_
  refine lv_goto (tgt := 1371) C.1 C.2.1 dL_law_308 rfl ?_
  exact back _ _ _ (pair_read hokR hm0 hm1).1 hP11 hS11
set_option maxRecDepth 100000 in
theorem lw_c3 {p : Program} {l : Launch} {e : Env} {s : State} {m : MethodId} {below : List Frame} {meth : Method} {c : Code} {D : va_G} {aC : Nat → ClassId} {b L : Nat} {xs : Nat → Int32} (C : lw_K p s m c D aC b L xs) {i : Int} (hi : 0 ≤ i ∧ i + 6 ≤ (L : Int) ∧ L ≤ 3072) {σ : am_S} {H : Heap} {locs : List Loc} {lc : Array Slot} (hokR : okR σ) (hP : va_P D vwCl (am_ws SH KF s.heap.size aC 92 σ) H) (hS : va_S (fun q => s.heap.size ≤ q) s.heap H locs) (hl : lv_has lc 4 [(3, .int (Int32.ofInt i)), (2, .ref (s.heap.size + 51)), (1, .ref (s.heap.size + 0)), (0, .ref b)])
    (back : ∀ (τ : am_S) (H : Heap) (locs : List Loc), okR τ → va_P D vwCl (am_ws SH KF s.heap.size aC 92 τ) H → va_S (fun q => s.heap.size ≤ q) s.heap H locs → W p l e room_1 s m #[Value.ref b] below meth c H locs (92 - 0) (am_sz SH KF 92 - am_sz SH KF 0) (lw_Z below #[Value.ref b] s) (F0 m 1371 lc [])) : W p l e room_1 s m #[Value.ref b] below meth c H locs (92 - 0) (am_sz SH KF 92 - am_sz SH KF 0) (lw_Z below #[Value.ref b] s) (F0 m 311 lc []) := by
  have hok : okS σ := hokR.1
  refine lv_aload_n C.1 C.2.1 dL_law_311 rfl (lv_at hl 2 rfl) ?_
  refine lw_call C (ix := 28) (o := 0) (As := []) (rest := []) (ci := 11) (na := 0) (pc := 312) (mX11_placeE l) (by decide) (by decide) (tk_690) (tk_103) ⟨by decide +kernel, by decide +kernel, by decide +kernel⟩ (tk_687) (tk_688) rfl (tk_689) (by decide) rfl rfl rfl (Nat.le_of_ble_eq_true rfl) dL_law_312 hP hS hl (useC_place hokR) (fun v τ1 H1 locs1 hv hP1 hS1 => ?_)
  obtain ⟨x0, rfl, hm0⟩ := hv
  refine lv_pop C.1 C.2.1 dL_law_315 rfl ?_
  refine lv_aload_n C.1 C.2.1 dL_law_316 rfl (lv_at hl 1 rfl) ?_
  refine lw_call C (ix := 31) (o := 51) (As := []) (rest := []) (ci := 12) (na := 0) (pc := 317) (mX12_placeE l) (by decide) (by decide) (tk_1610) (tk_120) ⟨by decide +kernel, by decide +kernel, by decide +kernel⟩ (tk_1607) (tk_1608) rfl (tk_1609) (by decide) rfl rfl rfl (Nat.le_of_ble_eq_true rfl) dL_law_317 hP1 hS1 hl (useR_place hokR hm0) (fun v τ11 H11 locs11 hv hP11 hS11 => ?_)
  obtain ⟨x1, rfl, hm1⟩ := hv
  refine lv_pop C.1 C.2.1 dL_law_320 rfl ?_
  refine lv_goto (tgt := 1371) C.1 C.2.1 dL_law_321 rfl ?_
  exact back _ _ _ (pair_place hokR hm0 hm1).1 hP11 hS11
set_option maxRecDepth 100000 in
theorem lw_c4 {p : Program} {l : Launch} {e : Env} {s : State} {m : MethodId} {below : List Frame} {meth : Method} {c : Code} {D : va_G} {aC : Nat → ClassId} {b L : Nat} {xs : Nat → Int32} (C : lw_K p s m c D aC b L xs) {i : Int} (hi : 0 ≤ i ∧ i + 6 ≤ (L : Int) ∧ L ≤ 3072) {σ : am_S} {H : Heap} {locs : List Loc} {lc : Array Slot} (hokR : okR σ) (hP : va_P D vwCl (am_ws SH KF s.heap.size aC 92 σ) H) (hS : va_S (fun q => s.heap.size ≤ q) s.heap H locs) (hl : lv_has lc 4 [(3, .int (Int32.ofInt i)), (2, .ref (s.heap.size + 51)), (1, .ref (s.heap.size + 0)), (0, .ref b)])
    (back : ∀ (τ : am_S) (H : Heap) (locs : List Loc), okR τ → va_P D vwCl (am_ws SH KF s.heap.size aC 92 τ) H → va_S (fun q => s.heap.size ≤ q) s.heap H locs → W p l e room_1 s m #[Value.ref b] below meth c H locs (92 - 0) (am_sz SH KF 92 - am_sz SH KF 0) (lw_Z below #[Value.ref b] s) (F0 m 1371 lc [])) : W p l e room_1 s m #[Value.ref b] below meth c H locs (92 - 0) (am_sz SH KF 92 - am_sz SH KF 0) (lw_Z below #[Value.ref b] s) (F0 m 324 lc []) := by
  have hok : okS σ := hokR.1
  refine lv_aload_n C.1 C.2.1 dL_law_324 rfl (lv_at hl 2 rfl) ?_
  refine lw_arg C hS hl (k := 1) dL_law_325 dL_law_326 dL_law_327 dL_law_328 dL_law_329 rfl hi (by decide) ?_
  refine lw_arg C hS hl (k := 2) dL_law_330 dL_law_331 dL_law_332 dL_law_333 dL_law_334 rfl hi (by decide) ?_
  refine lw_call C (ix := 32) (o := 0) (As := [.int (xs (i.toNat + 1)), .int (xs (i.toNat + 2))]) (rest := []) (ci := 11) (na := 2) (pc := 335) (nX11_person l) (by decide) (by decide) (tk_694) (tk_103) ⟨by decide +kernel, by decide +kernel, by decide +kernel⟩ (tk_691) (tk_692) rfl (tk_693) (by decide) rfl (am_ni _ _ (by intro v hv; simp at hv; first | exact ⟨_, hv⟩ | (rcases hv with hv | hv <;> exact ⟨_, hv⟩) | (rcases hv with hv | hv | hv <;> exact ⟨_, hv⟩) | (rcases hv with hv | hv | hv | hv <;> exact ⟨_, hv⟩) | (rcases hv with hv | hv | hv | hv | hv <;> exact ⟨_, hv⟩))) rfl (Nat.le_of_ble_eq_true rfl) dL_law_335 hP hS hl (lw_use rfl (by decide) ⟨rfl, sp_f _, sp_f _, trivial⟩ hok) (fun v τ1 H1 locs1 hv hP1 hS1 => ?_)
  obtain ⟨⟨x0, rfl, hr0⟩, hok1, hfr0⟩ := hv
  refine lv_pop C.1 C.2.1 dL_law_338 rfl ?_
  refine lv_aload_n C.1 C.2.1 dL_law_339 rfl (lv_at hl 1 rfl) ?_
  refine lw_arg C hS1 hl (k := 1) dL_law_340 dL_law_341 dL_law_342 dL_law_343 dL_law_344 rfl hi (by decide) ?_
  refine lw_arg C hS1 hl (k := 2) dL_law_345 dL_law_346 dL_law_347 dL_law_348 dL_law_349 rfl hi (by decide) ?_
  refine lw_call C (ix := 36) (o := 51) (As := [.int (xs (i.toNat + 1)), .int (xs (i.toNat + 2))]) (rest := []) (ci := 12) (na := 2) (pc := 350) (nX12_person l) (by decide) (by decide) (tk_1614) (tk_120) ⟨by decide +kernel, by decide +kernel, by decide +kernel⟩ (tk_1611) (tk_1612) rfl (tk_1613) (by decide) rfl (am_ni _ _ (by intro v hv; simp at hv; first | exact ⟨_, hv⟩ | (rcases hv with hv | hv <;> exact ⟨_, hv⟩) | (rcases hv with hv | hv | hv <;> exact ⟨_, hv⟩) | (rcases hv with hv | hv | hv | hv <;> exact ⟨_, hv⟩) | (rcases hv with hv | hv | hv | hv | hv <;> exact ⟨_, hv⟩))) rfl (Nat.le_of_ble_eq_true rfl) dL_law_350 hP1 hS1 hl (lw_use rfl (by decide) ⟨rfl, sp_f _, sp_f _, trivial⟩ hok1) (fun v τ11 H11 locs11 hv hP11 hS11 => ?_)
  obtain ⟨⟨x1, rfl, hr1⟩, hok11, hfr1⟩ := hv
  refine lv_pop C.1 C.2.1 dL_law_353 rfl ?_
  refine lv_goto (tgt := 1371) C.1 C.2.1 dL_law_354 rfl ?_
  exact back _ _ _ ⟨hok11, RLt_fr hokR.2 hfr0 hfr1 (by decide +kernel) (by decide +kernel)⟩ hP11 hS11
set_option maxRecDepth 100000 in
theorem lw_c5 {p : Program} {l : Launch} {e : Env} {s : State} {m : MethodId} {below : List Frame} {meth : Method} {c : Code} {D : va_G} {aC : Nat → ClassId} {b L : Nat} {xs : Nat → Int32} (C : lw_K p s m c D aC b L xs) {i : Int} (hi : 0 ≤ i ∧ i + 6 ≤ (L : Int) ∧ L ≤ 3072) {σ : am_S} {H : Heap} {locs : List Loc} {lc : Array Slot} (hokR : okR σ) (hP : va_P D vwCl (am_ws SH KF s.heap.size aC 92 σ) H) (hS : va_S (fun q => s.heap.size ≤ q) s.heap H locs) (hl : lv_has lc 4 [(3, .int (Int32.ofInt i)), (2, .ref (s.heap.size + 51)), (1, .ref (s.heap.size + 0)), (0, .ref b)])
    (back : ∀ (τ : am_S) (H : Heap) (locs : List Loc), okR τ → va_P D vwCl (am_ws SH KF s.heap.size aC 92 τ) H → va_S (fun q => s.heap.size ≤ q) s.heap H locs → W p l e room_1 s m #[Value.ref b] below meth c H locs (92 - 0) (am_sz SH KF 92 - am_sz SH KF 0) (lw_Z below #[Value.ref b] s) (F0 m 1371 lc [])) : W p l e room_1 s m #[Value.ref b] below meth c H locs (92 - 0) (am_sz SH KF 92 - am_sz SH KF 0) (lw_Z below #[Value.ref b] s) (F0 m 357 lc []) := by
  have hok : okS σ := hokR.1
  refine lv_aload_n C.1 C.2.1 dL_law_357 rfl (lv_at hl 2 rfl) ?_
  refine lw_arg C hS hl (k := 1) dL_law_358 dL_law_359 dL_law_360 dL_law_361 dL_law_362 rfl hi (by decide) ?_
  refine lw_arg C hS hl (k := 2) dL_law_363 dL_law_364 dL_law_365 dL_law_366 dL_law_367 rfl hi (by decide) ?_
  refine lw_call C (ix := 37) (o := 0) (As := [.int (xs (i.toNat + 1)), .int (xs (i.toNat + 2))]) (rest := []) (ci := 11) (na := 2) (pc := 368) (nX11_rung l) (by decide) (by decide) (tk_719) (tk_103) ⟨by decide +kernel, by decide +kernel, by decide +kernel⟩ (tk_716) (tk_717) rfl (tk_718) (by decide) rfl (am_ni _ _ (by intro v hv; simp at hv; first | exact ⟨_, hv⟩ | (rcases hv with hv | hv <;> exact ⟨_, hv⟩) | (rcases hv with hv | hv | hv <;> exact ⟨_, hv⟩) | (rcases hv with hv | hv | hv | hv <;> exact ⟨_, hv⟩) | (rcases hv with hv | hv | hv | hv | hv <;> exact ⟨_, hv⟩))) rfl (Nat.le_of_ble_eq_true rfl) dL_law_368 hP hS hl (lw_use rfl (by decide) ⟨rfl, sp_f _, sp_f _, trivial⟩ hok) (fun v τ1 H1 locs1 hv hP1 hS1 => ?_)
  obtain ⟨⟨x0, rfl, hr0⟩, hok1, hfr0⟩ := hv
  refine lv_pop C.1 C.2.1 dL_law_371 rfl ?_
  refine lv_aload_n C.1 C.2.1 dL_law_372 rfl (lv_at hl 1 rfl) ?_
  refine lw_arg C hS1 hl (k := 1) dL_law_373 dL_law_374 dL_law_375 dL_law_376 dL_law_377 rfl hi (by decide) ?_
  refine lw_arg C hS1 hl (k := 2) dL_law_378 dL_law_379 dL_law_380 dL_law_381 dL_law_382 rfl hi (by decide) ?_
  refine lw_call C (ix := 40) (o := 51) (As := [.int (xs (i.toNat + 1)), .int (xs (i.toNat + 2))]) (rest := []) (ci := 12) (na := 2) (pc := 383) (nX12_rung l) (by decide) (by decide) (tk_1629) (tk_120) ⟨by decide +kernel, by decide +kernel, by decide +kernel⟩ (tk_1626) (tk_1627) rfl (tk_1628) (by decide) rfl (am_ni _ _ (by intro v hv; simp at hv; first | exact ⟨_, hv⟩ | (rcases hv with hv | hv <;> exact ⟨_, hv⟩) | (rcases hv with hv | hv | hv <;> exact ⟨_, hv⟩) | (rcases hv with hv | hv | hv | hv <;> exact ⟨_, hv⟩) | (rcases hv with hv | hv | hv | hv | hv <;> exact ⟨_, hv⟩))) rfl (Nat.le_of_ble_eq_true rfl) dL_law_383 hP1 hS1 hl (lw_use rfl (by decide) ⟨rfl, sp_f _, sp_f _, trivial⟩ hok1) (fun v τ11 H11 locs11 hv hP11 hS11 => ?_)
  obtain ⟨⟨x1, rfl, hr1⟩, hok11, hfr1⟩ := hv
  refine lv_pop C.1 C.2.1 dL_law_386 rfl ?_
  refine lv_goto (tgt := 1371) C.1 C.2.1 dL_law_387 rfl ?_
  exact back _ _ _ ⟨hok11, RLt_fr hokR.2 hfr0 hfr1 (by decide +kernel) (by decide +kernel)⟩ hP11 hS11
set_option maxRecDepth 100000 in
theorem lw_c6 {p : Program} {l : Launch} {e : Env} {s : State} {m : MethodId} {below : List Frame} {meth : Method} {c : Code} {D : va_G} {aC : Nat → ClassId} {b L : Nat} {xs : Nat → Int32} (C : lw_K p s m c D aC b L xs) {i : Int} (hi : 0 ≤ i ∧ i + 6 ≤ (L : Int) ∧ L ≤ 3072) {σ : am_S} {H : Heap} {locs : List Loc} {lc : Array Slot} (hokR : okR σ) (hP : va_P D vwCl (am_ws SH KF s.heap.size aC 92 σ) H) (hS : va_S (fun q => s.heap.size ≤ q) s.heap H locs) (hl : lv_has lc 4 [(3, .int (Int32.ofInt i)), (2, .ref (s.heap.size + 51)), (1, .ref (s.heap.size + 0)), (0, .ref b)])
    (back : ∀ (τ : am_S) (H : Heap) (locs : List Loc), okR τ → va_P D vwCl (am_ws SH KF s.heap.size aC 92 τ) H → va_S (fun q => s.heap.size ≤ q) s.heap H locs → W p l e room_1 s m #[Value.ref b] below meth c H locs (92 - 0) (am_sz SH KF 92 - am_sz SH KF 0) (lw_Z below #[Value.ref b] s) (F0 m 1371 lc [])) : W p l e room_1 s m #[Value.ref b] below meth c H locs (92 - 0) (am_sz SH KF 92 - am_sz SH KF 0) (lw_Z below #[Value.ref b] s) (F0 m 390 lc []) := by
  have hok : okS σ := hokR.1
  refine lv_aload_n C.1 C.2.1 dL_law_390 rfl (lv_at hl 2 rfl) ?_
  refine lw_arg C hS hl (k := 1) dL_law_391 dL_law_392 dL_law_393 dL_law_394 dL_law_395 rfl hi (by decide) ?_
  refine lw_arg C hS hl (k := 2) dL_law_396 dL_law_397 dL_law_398 dL_law_399 dL_law_400 rfl hi (by decide) ?_
  refine lw_call C (ix := 41) (o := 0) (As := [.int (xs (i.toNat + 1)), .int (xs (i.toNat + 2))]) (rest := []) (ci := 11) (na := 2) (pc := 401) (nX11_can l) (by decide) (by decide) (tk_777) (tk_103) ⟨by decide +kernel, by decide +kernel, by decide +kernel⟩ (tk_774) (tk_775) rfl (tk_776) (by decide) rfl (am_ni _ _ (by intro v hv; simp at hv; first | exact ⟨_, hv⟩ | (rcases hv with hv | hv <;> exact ⟨_, hv⟩) | (rcases hv with hv | hv | hv <;> exact ⟨_, hv⟩) | (rcases hv with hv | hv | hv | hv <;> exact ⟨_, hv⟩) | (rcases hv with hv | hv | hv | hv | hv <;> exact ⟨_, hv⟩))) rfl (Nat.le_of_ble_eq_true rfl) dL_law_401 hP hS hl (lw_use rfl (by decide) ⟨rfl, sp_f _, sp_f _, trivial⟩ hok) (fun v τ1 H1 locs1 hv hP1 hS1 => ?_)
  obtain ⟨⟨x0, rfl, hr0⟩, hok1, hfr0⟩ := hv
  refine lv_pop C.1 C.2.1 dL_law_404 rfl ?_
  refine lv_aload_n C.1 C.2.1 dL_law_405 rfl (lv_at hl 1 rfl) ?_
  refine lw_arg C hS1 hl (k := 1) dL_law_406 dL_law_407 dL_law_408 dL_law_409 dL_law_410 rfl hi (by decide) ?_
  refine lw_arg C hS1 hl (k := 2) dL_law_411 dL_law_412 dL_law_413 dL_law_414 dL_law_415 rfl hi (by decide) ?_
  refine lw_call C (ix := 44) (o := 51) (As := [.int (xs (i.toNat + 1)), .int (xs (i.toNat + 2))]) (rest := []) (ci := 12) (na := 2) (pc := 416) (nX12_can l) (by decide) (by decide) (tk_1680) (tk_120) ⟨by decide +kernel, by decide +kernel, by decide +kernel⟩ (tk_1677) (tk_1678) rfl (tk_1679) (by decide) rfl (am_ni _ _ (by intro v hv; simp at hv; first | exact ⟨_, hv⟩ | (rcases hv with hv | hv <;> exact ⟨_, hv⟩) | (rcases hv with hv | hv | hv <;> exact ⟨_, hv⟩) | (rcases hv with hv | hv | hv | hv <;> exact ⟨_, hv⟩) | (rcases hv with hv | hv | hv | hv | hv <;> exact ⟨_, hv⟩))) rfl (Nat.le_of_ble_eq_true rfl) dL_law_416 hP1 hS1 hl (lw_use rfl (by decide) ⟨rfl, sp_f _, sp_f _, trivial⟩ hok1) (fun v τ11 H11 locs11 hv hP11 hS11 => ?_)
  obtain ⟨⟨x1, rfl, hr1⟩, hok11, hfr1⟩ := hv
  refine lv_pop C.1 C.2.1 dL_law_419 rfl ?_
  refine lv_goto (tgt := 1371) C.1 C.2.1 dL_law_420 rfl ?_
  exact back _ _ _ ⟨hok11, RLt_fr hokR.2 hfr0 hfr1 (by decide +kernel) (by decide +kernel)⟩ hP11 hS11
set_option maxRecDepth 100000 in
theorem lw_c7 {p : Program} {l : Launch} {e : Env} {s : State} {m : MethodId} {below : List Frame} {meth : Method} {c : Code} {D : va_G} {aC : Nat → ClassId} {b L : Nat} {xs : Nat → Int32} (C : lw_K p s m c D aC b L xs) {i : Int} (hi : 0 ≤ i ∧ i + 6 ≤ (L : Int) ∧ L ≤ 3072) {σ : am_S} {H : Heap} {locs : List Loc} {lc : Array Slot} (hokR : okR σ) (hP : va_P D vwCl (am_ws SH KF s.heap.size aC 92 σ) H) (hS : va_S (fun q => s.heap.size ≤ q) s.heap H locs) (hl : lv_has lc 4 [(3, .int (Int32.ofInt i)), (2, .ref (s.heap.size + 51)), (1, .ref (s.heap.size + 0)), (0, .ref b)])
    (back : ∀ (τ : am_S) (H : Heap) (locs : List Loc), okR τ → va_P D vwCl (am_ws SH KF s.heap.size aC 92 τ) H → va_S (fun q => s.heap.size ≤ q) s.heap H locs → W p l e room_1 s m #[Value.ref b] below meth c H locs (92 - 0) (am_sz SH KF 92 - am_sz SH KF 0) (lw_Z below #[Value.ref b] s) (F0 m 1371 lc [])) : W p l e room_1 s m #[Value.ref b] below meth c H locs (92 - 0) (am_sz SH KF 92 - am_sz SH KF 0) (lw_Z below #[Value.ref b] s) (F0 m 423 lc []) := by
  have hok : okS σ := hokR.1
  refine lv_aload_n C.1 C.2.1 dL_law_423 rfl (lv_at hl 2 rfl) ?_
  refine lw_arg C hS hl (k := 1) dL_law_424 dL_law_425 dL_law_426 dL_law_427 dL_law_428 rfl hi (by decide) ?_
  refine lw_arg C hS hl (k := 2) dL_law_429 dL_law_430 dL_law_431 dL_law_432 dL_law_433 rfl hi (by decide) ?_
  refine lw_call C (ix := 45) (o := 0) (As := [.int (xs (i.toNat + 1)), .int (xs (i.toNat + 2))]) (rest := []) (ci := 11) (na := 2) (pc := 434) (mX11_sendM l) (by decide) (by decide) (tk_856) (tk_103) ⟨by decide +kernel, by decide +kernel, by decide +kernel⟩ (tk_853) (tk_854) rfl (tk_855) (by decide) rfl (am_ni _ _ (by intro v hv; simp at hv; first | exact ⟨_, hv⟩ | (rcases hv with hv | hv <;> exact ⟨_, hv⟩) | (rcases hv with hv | hv | hv <;> exact ⟨_, hv⟩) | (rcases hv with hv | hv | hv | hv <;> exact ⟨_, hv⟩) | (rcases hv with hv | hv | hv | hv | hv <;> exact ⟨_, hv⟩))) rfl (Nat.le_of_ble_eq_true rfl) dL_law_434 hP hS hl (useC_send hokR) (fun v τ1 H1 locs1 hv hP1 hS1 => ?_)
  obtain ⟨x0, rfl, hm0⟩ := hv
  refine lv_pop C.1 C.2.1 dL_law_437 rfl ?_
  refine lv_aload_n C.1 C.2.1 dL_law_438 rfl (lv_at hl 1 rfl) ?_
  refine lw_arg C hS1 hl (k := 1) dL_law_439 dL_law_440 dL_law_441 dL_law_442 dL_law_443 rfl hi (by decide) ?_
  refine lw_arg C hS1 hl (k := 2) dL_law_444 dL_law_445 dL_law_446 dL_law_447 dL_law_448 rfl hi (by decide) ?_
  refine lw_call C (ix := 49) (o := 51) (As := [.int (xs (i.toNat + 1)), .int (xs (i.toNat + 2))]) (rest := []) (ci := 12) (na := 2) (pc := 449) (mX12_sendM l) (by decide) (by decide) (tk_1695) (tk_120) ⟨by decide +kernel, by decide +kernel, by decide +kernel⟩ (tk_1692) (tk_1693) rfl (tk_1694) (by decide) rfl (am_ni _ _ (by intro v hv; simp at hv; first | exact ⟨_, hv⟩ | (rcases hv with hv | hv <;> exact ⟨_, hv⟩) | (rcases hv with hv | hv | hv <;> exact ⟨_, hv⟩) | (rcases hv with hv | hv | hv | hv <;> exact ⟨_, hv⟩) | (rcases hv with hv | hv | hv | hv | hv <;> exact ⟨_, hv⟩))) rfl (Nat.le_of_ble_eq_true rfl) dL_law_449 hP1 hS1 hl (useR_send hokR hm0) (fun v τ11 H11 locs11 hv hP11 hS11 => ?_)
  obtain ⟨x1, rfl, hm1⟩ := hv
  refine lv_pop C.1 C.2.1 dL_law_452 rfl ?_
  refine lv_goto (tgt := 1371) C.1 C.2.1 dL_law_453 rfl ?_
  exact back _ _ _ (pair_send hokR hm0 hm1).1 hP11 hS11
set_option maxRecDepth 100000 in
theorem lw_c8 {p : Program} {l : Launch} {e : Env} {s : State} {m : MethodId} {below : List Frame} {meth : Method} {c : Code} {D : va_G} {aC : Nat → ClassId} {b L : Nat} {xs : Nat → Int32} (C : lw_K p s m c D aC b L xs) {i : Int} (hi : 0 ≤ i ∧ i + 6 ≤ (L : Int) ∧ L ≤ 3072) {σ : am_S} {H : Heap} {locs : List Loc} {lc : Array Slot} (hokR : okR σ) (hP : va_P D vwCl (am_ws SH KF s.heap.size aC 92 σ) H) (hS : va_S (fun q => s.heap.size ≤ q) s.heap H locs) (hl : lv_has lc 4 [(3, .int (Int32.ofInt i)), (2, .ref (s.heap.size + 51)), (1, .ref (s.heap.size + 0)), (0, .ref b)])
    (back : ∀ (τ : am_S) (H : Heap) (locs : List Loc), okR τ → va_P D vwCl (am_ws SH KF s.heap.size aC 92 τ) H → va_S (fun q => s.heap.size ≤ q) s.heap H locs → W p l e room_1 s m #[Value.ref b] below meth c H locs (92 - 0) (am_sz SH KF 92 - am_sz SH KF 0) (lw_Z below #[Value.ref b] s) (F0 m 1371 lc [])) : W p l e room_1 s m #[Value.ref b] below meth c H locs (92 - 0) (am_sz SH KF 92 - am_sz SH KF 0) (lw_Z below #[Value.ref b] s) (F0 m 456 lc []) := by
  have hok : okS σ := hokR.1
  refine lv_aload_n C.1 C.2.1 dL_law_456 rfl (lv_at hl 2 rfl) ?_
  refine lw_arg C hS hl (k := 1) dL_law_457 dL_law_458 dL_law_459 dL_law_460 dL_law_461 rfl hi (by decide) ?_
  refine lw_call C (ix := 50) (o := 0) (As := [.int (xs (i.toNat + 1))]) (rest := []) (ci := 11) (na := 1) (pc := 462) (mX11_mendM l) (by decide) (by decide) (tk_871) (tk_103) ⟨by decide +kernel, by decide +kernel, by decide +kernel⟩ (tk_868) (tk_869) rfl (tk_870) (by decide) rfl (am_ni _ _ (by intro v hv; simp at hv; first | exact ⟨_, hv⟩ | (rcases hv with hv | hv <;> exact ⟨_, hv⟩) | (rcases hv with hv | hv | hv <;> exact ⟨_, hv⟩) | (rcases hv with hv | hv | hv | hv <;> exact ⟨_, hv⟩) | (rcases hv with hv | hv | hv | hv | hv <;> exact ⟨_, hv⟩))) rfl (Nat.le_of_ble_eq_true rfl) dL_law_462 hP hS hl (useC_mend hokR) (fun v τ1 H1 locs1 hv hP1 hS1 => ?_)
  obtain ⟨x0, rfl, hm0⟩ := hv
  refine lv_pop C.1 C.2.1 dL_law_465 rfl ?_
  refine lv_aload_n C.1 C.2.1 dL_law_466 rfl (lv_at hl 1 rfl) ?_
  refine lw_arg C hS1 hl (k := 1) dL_law_467 dL_law_468 dL_law_469 dL_law_470 dL_law_471 rfl hi (by decide) ?_
  refine lw_call C (ix := 54) (o := 51) (As := [.int (xs (i.toNat + 1))]) (rest := []) (ci := 12) (na := 1) (pc := 472) (mX12_mendM l) (by decide) (by decide) (tk_1703) (tk_120) ⟨by decide +kernel, by decide +kernel, by decide +kernel⟩ (tk_1700) (tk_1701) rfl (tk_1702) (by decide) rfl (am_ni _ _ (by intro v hv; simp at hv; first | exact ⟨_, hv⟩ | (rcases hv with hv | hv <;> exact ⟨_, hv⟩) | (rcases hv with hv | hv | hv <;> exact ⟨_, hv⟩) | (rcases hv with hv | hv | hv | hv <;> exact ⟨_, hv⟩) | (rcases hv with hv | hv | hv | hv | hv <;> exact ⟨_, hv⟩))) rfl (Nat.le_of_ble_eq_true rfl) dL_law_472 hP1 hS1 hl (useR_mend hokR hm0) (fun v τ11 H11 locs11 hv hP11 hS11 => ?_)
  obtain ⟨x1, rfl, hm1⟩ := hv
  refine lv_pop C.1 C.2.1 dL_law_475 rfl ?_
  refine lv_goto (tgt := 1371) C.1 C.2.1 dL_law_476 rfl ?_
  exact back _ _ _ (pair_mend hokR hm0 hm1).1 hP11 hS11
set_option maxRecDepth 100000 in
theorem lw_c9 {p : Program} {l : Launch} {e : Env} {s : State} {m : MethodId} {below : List Frame} {meth : Method} {c : Code} {D : va_G} {aC : Nat → ClassId} {b L : Nat} {xs : Nat → Int32} (C : lw_K p s m c D aC b L xs) {i : Int} (hi : 0 ≤ i ∧ i + 6 ≤ (L : Int) ∧ L ≤ 3072) {σ : am_S} {H : Heap} {locs : List Loc} {lc : Array Slot} (hokR : okR σ) (hP : va_P D vwCl (am_ws SH KF s.heap.size aC 92 σ) H) (hS : va_S (fun q => s.heap.size ≤ q) s.heap H locs) (hl : lv_has lc 4 [(3, .int (Int32.ofInt i)), (2, .ref (s.heap.size + 51)), (1, .ref (s.heap.size + 0)), (0, .ref b)])
    (back : ∀ (τ : am_S) (H : Heap) (locs : List Loc), okR τ → va_P D vwCl (am_ws SH KF s.heap.size aC 92 τ) H → va_S (fun q => s.heap.size ≤ q) s.heap H locs → W p l e room_1 s m #[Value.ref b] below meth c H locs (92 - 0) (am_sz SH KF 92 - am_sz SH KF 0) (lw_Z below #[Value.ref b] s) (F0 m 1371 lc [])) : W p l e room_1 s m #[Value.ref b] below meth c H locs (92 - 0) (am_sz SH KF 92 - am_sz SH KF 0) (lw_Z below #[Value.ref b] s) (F0 m 479 lc []) := by
  have hok : okS σ := hokR.1
  refine lv_aload_n C.1 C.2.1 dL_law_479 rfl (lv_at hl 2 rfl) ?_
  refine lw_arg C hS hl (k := 1) dL_law_480 dL_law_481 dL_law_482 dL_law_483 dL_law_484 rfl hi (by decide) ?_
  refine lw_call C (ix := 55) (o := 0) (As := [.int (xs (i.toNat + 1))]) (rest := []) (ci := 11) (na := 1) (pc := 485) (mX11_bucketM l) (by decide) (by decide) (tk_879) (tk_103) ⟨by decide +kernel, by decide +kernel, by decide +kernel⟩ (tk_876) (tk_877) rfl (tk_878) (by decide) rfl (am_ni _ _ (by intro v hv; simp at hv; first | exact ⟨_, hv⟩ | (rcases hv with hv | hv <;> exact ⟨_, hv⟩) | (rcases hv with hv | hv | hv <;> exact ⟨_, hv⟩) | (rcases hv with hv | hv | hv | hv <;> exact ⟨_, hv⟩) | (rcases hv with hv | hv | hv | hv | hv <;> exact ⟨_, hv⟩))) rfl (Nat.le_of_ble_eq_true rfl) dL_law_485 hP hS hl (useC_bucket hokR) (fun v τ1 H1 locs1 hv hP1 hS1 => ?_)
  obtain ⟨x0, rfl, hm0⟩ := hv
  refine lv_pop C.1 C.2.1 dL_law_488 rfl ?_
  refine lv_aload_n C.1 C.2.1 dL_law_489 rfl (lv_at hl 1 rfl) ?_
  refine lw_arg C hS1 hl (k := 1) dL_law_490 dL_law_491 dL_law_492 dL_law_493 dL_law_494 rfl hi (by decide) ?_
  refine lw_call C (ix := 58) (o := 51) (As := [.int (xs (i.toNat + 1))]) (rest := []) (ci := 12) (na := 1) (pc := 495) (mX12_bucketM l) (by decide) (by decide) (tk_1707) (tk_120) ⟨by decide +kernel, by decide +kernel, by decide +kernel⟩ (tk_1704) (tk_1705) rfl (tk_1706) (by decide) rfl (am_ni _ _ (by intro v hv; simp at hv; first | exact ⟨_, hv⟩ | (rcases hv with hv | hv <;> exact ⟨_, hv⟩) | (rcases hv with hv | hv | hv <;> exact ⟨_, hv⟩) | (rcases hv with hv | hv | hv | hv <;> exact ⟨_, hv⟩) | (rcases hv with hv | hv | hv | hv | hv <;> exact ⟨_, hv⟩))) rfl (Nat.le_of_ble_eq_true rfl) dL_law_495 hP1 hS1 hl (useR_bucket hokR hm0) (fun v τ11 H11 locs11 hv hP11 hS11 => ?_)
  obtain ⟨x1, rfl, hm1⟩ := hv
  refine lv_pop C.1 C.2.1 dL_law_498 rfl ?_
  refine lv_goto (tgt := 1371) C.1 C.2.1 dL_law_499 rfl ?_
  exact back _ _ _ (pair_bucket hokR hm0 hm1).1 hP11 hS11
set_option maxRecDepth 100000 in
theorem lw_c10 {p : Program} {l : Launch} {e : Env} {s : State} {m : MethodId} {below : List Frame} {meth : Method} {c : Code} {D : va_G} {aC : Nat → ClassId} {b L : Nat} {xs : Nat → Int32} (C : lw_K p s m c D aC b L xs) {i : Int} (hi : 0 ≤ i ∧ i + 6 ≤ (L : Int) ∧ L ≤ 3072) {σ : am_S} {H : Heap} {locs : List Loc} {lc : Array Slot} (hokR : okR σ) (hP : va_P D vwCl (am_ws SH KF s.heap.size aC 92 σ) H) (hS : va_S (fun q => s.heap.size ≤ q) s.heap H locs) (hl : lv_has lc 4 [(3, .int (Int32.ofInt i)), (2, .ref (s.heap.size + 51)), (1, .ref (s.heap.size + 0)), (0, .ref b)])
    (back : ∀ (τ : am_S) (H : Heap) (locs : List Loc), okR τ → va_P D vwCl (am_ws SH KF s.heap.size aC 92 τ) H → va_S (fun q => s.heap.size ≤ q) s.heap H locs → W p l e room_1 s m #[Value.ref b] below meth c H locs (92 - 0) (am_sz SH KF 92 - am_sz SH KF 0) (lw_Z below #[Value.ref b] s) (F0 m 1371 lc [])) : W p l e room_1 s m #[Value.ref b] below meth c H locs (92 - 0) (am_sz SH KF 92 - am_sz SH KF 0) (lw_Z below #[Value.ref b] s) (F0 m 502 lc []) := by
  have hok : okS σ := hokR.1
  refine lv_aload_n C.1 C.2.1 dL_law_502 rfl (lv_at hl 2 rfl) ?_
  refine lw_arg C hS hl (k := 1) dL_law_503 dL_law_504 dL_law_505 dL_law_506 dL_law_507 rfl hi (by decide) ?_
  refine lw_call C (ix := 59) (o := 0) (As := [.int (xs (i.toNat + 1))]) (rest := []) (ci := 11) (na := 1) (pc := 508) (mX11_minutesM l) (by decide) (by decide) (tk_901) (tk_103) ⟨by decide +kernel, by decide +kernel, by decide +kernel⟩ (tk_898) (tk_899) rfl (tk_900) (by decide) rfl (am_ni _ _ (by intro v hv; simp at hv; first | exact ⟨_, hv⟩ | (rcases hv with hv | hv <;> exact ⟨_, hv⟩) | (rcases hv with hv | hv | hv <;> exact ⟨_, hv⟩) | (rcases hv with hv | hv | hv | hv <;> exact ⟨_, hv⟩) | (rcases hv with hv | hv | hv | hv | hv <;> exact ⟨_, hv⟩))) rfl (Nat.le_of_ble_eq_true rfl) dL_law_508 hP hS hl (useC_minutes hokR) (fun v τ1 H1 locs1 hv hP1 hS1 => ?_)
  obtain ⟨x0, rfl, hm0⟩ := hv
  refine lv_pop C.1 C.2.1 dL_law_511 rfl ?_
  refine lv_aload_n C.1 C.2.1 dL_law_512 rfl (lv_at hl 1 rfl) ?_
  refine lw_arg C hS1 hl (k := 1) dL_law_513 dL_law_514 dL_law_515 dL_law_516 dL_law_517 rfl hi (by decide) ?_
  refine lw_call C (ix := 62) (o := 51) (As := [.int (xs (i.toNat + 1))]) (rest := []) (ci := 12) (na := 1) (pc := 518) (mX12_minutesM l) (by decide) (by decide) (tk_1726) (tk_120) ⟨by decide +kernel, by decide +kernel, by decide +kernel⟩ (tk_1723) (tk_1724) rfl (tk_1725) (by decide) rfl (am_ni _ _ (by intro v hv; simp at hv; first | exact ⟨_, hv⟩ | (rcases hv with hv | hv <;> exact ⟨_, hv⟩) | (rcases hv with hv | hv | hv <;> exact ⟨_, hv⟩) | (rcases hv with hv | hv | hv | hv <;> exact ⟨_, hv⟩) | (rcases hv with hv | hv | hv | hv | hv <;> exact ⟨_, hv⟩))) rfl (Nat.le_of_ble_eq_true rfl) dL_law_518 hP1 hS1 hl (useR_minutes hokR hm0) (fun v τ11 H11 locs11 hv hP11 hS11 => ?_)
  obtain ⟨x1, rfl, hm1⟩ := hv
  refine lv_pop C.1 C.2.1 dL_law_521 rfl ?_
  refine lv_goto (tgt := 1371) C.1 C.2.1 dL_law_522 rfl ?_
  exact back _ _ _ (pair_minutes hokR hm0 hm1).1 hP11 hS11
set_option maxRecDepth 100000 in
theorem lw_c11 {p : Program} {l : Launch} {e : Env} {s : State} {m : MethodId} {below : List Frame} {meth : Method} {c : Code} {D : va_G} {aC : Nat → ClassId} {b L : Nat} {xs : Nat → Int32} (C : lw_K p s m c D aC b L xs) {i : Int} (hi : 0 ≤ i ∧ i + 6 ≤ (L : Int) ∧ L ≤ 3072) {σ : am_S} {H : Heap} {locs : List Loc} {lc : Array Slot} (hokR : okR σ) (hP : va_P D vwCl (am_ws SH KF s.heap.size aC 92 σ) H) (hS : va_S (fun q => s.heap.size ≤ q) s.heap H locs) (hl : lv_has lc 4 [(3, .int (Int32.ofInt i)), (2, .ref (s.heap.size + 51)), (1, .ref (s.heap.size + 0)), (0, .ref b)])
    (back : ∀ (τ : am_S) (H : Heap) (locs : List Loc), okR τ → va_P D vwCl (am_ws SH KF s.heap.size aC 92 τ) H → va_S (fun q => s.heap.size ≤ q) s.heap H locs → W p l e room_1 s m #[Value.ref b] below meth c H locs (92 - 0) (am_sz SH KF 92 - am_sz SH KF 0) (lw_Z below #[Value.ref b] s) (F0 m 1371 lc [])) : W p l e room_1 s m #[Value.ref b] below meth c H locs (92 - 0) (am_sz SH KF 92 - am_sz SH KF 0) (lw_Z below #[Value.ref b] s) (F0 m 525 lc []) := by
  have hok : okS σ := hokR.1
  refine lv_aload_n C.1 C.2.1 dL_law_525 rfl (lv_at hl 2 rfl) ?_
  refine lw_call C (ix := 63) (o := 0) (As := []) (rest := []) (ci := 11) (na := 0) (pc := 526) (mX11_undoM l) (by decide) (by decide) (tk_957) (tk_103) ⟨by decide +kernel, by decide +kernel, by decide +kernel⟩ (tk_954) (tk_955) rfl (tk_956) (by decide) rfl rfl rfl (Nat.le_of_ble_eq_true rfl) dL_law_526 hP hS hl (useC_undo hokR) (fun v τ1 H1 locs1 hv hP1 hS1 => ?_)
  obtain ⟨x0, rfl, hm0⟩ := hv
  refine lv_pop C.1 C.2.1 dL_law_529 rfl ?_
  refine lv_aload_n C.1 C.2.1 dL_law_530 rfl (lv_at hl 1 rfl) ?_
  refine lw_call C (ix := 67) (o := 51) (As := []) (rest := []) (ci := 12) (na := 0) (pc := 531) (mX12_undoM l) (by decide) (by decide) (tk_1773) (tk_120) ⟨by decide +kernel, by decide +kernel, by decide +kernel⟩ (tk_1770) (tk_1771) rfl (tk_1772) (by decide) rfl rfl rfl (Nat.le_of_ble_eq_true rfl) dL_law_531 hP1 hS1 hl (useR_undo hokR hm0) (fun v τ11 H11 locs11 hv hP11 hS11 => ?_)
  obtain ⟨x1, rfl, hm1⟩ := hv
  refine lv_pop C.1 C.2.1 dL_law_534 rfl ?_
  refine lv_goto (tgt := 1371) C.1 C.2.1 dL_law_535 rfl ?_
  exact back _ _ _ (pair_undo hokR hm0 hm1).1 hP11 hS11
set_option maxRecDepth 100000 in
theorem lw_c12 {p : Program} {l : Launch} {e : Env} {s : State} {m : MethodId} {below : List Frame} {meth : Method} {c : Code} {D : va_G} {aC : Nat → ClassId} {b L : Nat} {xs : Nat → Int32} (C : lw_K p s m c D aC b L xs) {i : Int} (hi : 0 ≤ i ∧ i + 6 ≤ (L : Int) ∧ L ≤ 3072) {σ : am_S} {H : Heap} {locs : List Loc} {lc : Array Slot} (hokR : okR σ) (hP : va_P D vwCl (am_ws SH KF s.heap.size aC 92 σ) H) (hS : va_S (fun q => s.heap.size ≤ q) s.heap H locs) (hl : lv_has lc 4 [(3, .int (Int32.ofInt i)), (2, .ref (s.heap.size + 51)), (1, .ref (s.heap.size + 0)), (0, .ref b)])
    (back : ∀ (τ : am_S) (H : Heap) (locs : List Loc), okR τ → va_P D vwCl (am_ws SH KF s.heap.size aC 92 τ) H → va_S (fun q => s.heap.size ≤ q) s.heap H locs → W p l e room_1 s m #[Value.ref b] below meth c H locs (92 - 0) (am_sz SH KF 92 - am_sz SH KF 0) (lw_Z below #[Value.ref b] s) (F0 m 1371 lc [])) : W p l e room_1 s m #[Value.ref b] below meth c H locs (92 - 0) (am_sz SH KF 92 - am_sz SH KF 0) (lw_Z below #[Value.ref b] s) (F0 m 538 lc []) := by
  have hok : okS σ := hokR.1
  refine lv_aload_n C.1 C.2.1 dL_law_538 rfl (lv_at hl 2 rfl) ?_
  refine lw_arg C hS hl (k := 1) dL_law_539 dL_law_540 dL_law_541 dL_law_542 dL_law_543 rfl hi (by decide) ?_
  refine lw_arg C hS hl (k := 2) dL_law_544 dL_law_545 dL_law_546 dL_law_547 dL_law_548 rfl hi (by decide) ?_
  refine lw_call C (ix := 68) (o := 0) (As := [.int (xs (i.toNat + 1)), .int (xs (i.toNat + 2))]) (rest := []) (ci := 11) (na := 2) (pc := 549) (nX11_inTheWay l) (by decide) (by decide) (tk_986) (tk_103) ⟨by decide +kernel, by decide +kernel, by decide +kernel⟩ (tk_983) (tk_984) rfl (tk_985) (by decide) rfl (am_ni _ _ (by intro v hv; simp at hv; first | exact ⟨_, hv⟩ | (rcases hv with hv | hv <;> exact ⟨_, hv⟩) | (rcases hv with hv | hv | hv <;> exact ⟨_, hv⟩) | (rcases hv with hv | hv | hv | hv <;> exact ⟨_, hv⟩) | (rcases hv with hv | hv | hv | hv | hv <;> exact ⟨_, hv⟩))) rfl (Nat.le_of_ble_eq_true rfl) dL_law_549 hP hS hl (lw_use rfl (by decide) ⟨rfl, sp_f _, sp_f _, trivial⟩ hok) (fun v τ1 H1 locs1 hv hP1 hS1 => ?_)
  obtain ⟨⟨x0, rfl, hr0⟩, hok1, hfr0⟩ := hv
  refine lv_pop C.1 C.2.1 dL_law_552 rfl ?_
  refine lv_aload_n C.1 C.2.1 dL_law_553 rfl (lv_at hl 1 rfl) ?_
  refine lw_arg C hS1 hl (k := 1) dL_law_554 dL_law_555 dL_law_556 dL_law_557 dL_law_558 rfl hi (by decide) ?_
  refine lw_arg C hS1 hl (k := 2) dL_law_559 dL_law_560 dL_law_561 dL_law_562 dL_law_563 rfl hi (by decide) ?_
  refine lw_call C (ix := 71) (o := 51) (As := [.int (xs (i.toNat + 1)), .int (xs (i.toNat + 2))]) (rest := []) (ci := 12) (na := 2) (pc := 564) (nX12_inTheWay l) (by decide) (by decide) (tk_1777) (tk_120) ⟨by decide +kernel, by decide +kernel, by decide +kernel⟩ (tk_1774) (tk_1775) rfl (tk_1776) (by decide) rfl (am_ni _ _ (by intro v hv; simp at hv; first | exact ⟨_, hv⟩ | (rcases hv with hv | hv <;> exact ⟨_, hv⟩) | (rcases hv with hv | hv | hv <;> exact ⟨_, hv⟩) | (rcases hv with hv | hv | hv | hv <;> exact ⟨_, hv⟩) | (rcases hv with hv | hv | hv | hv | hv <;> exact ⟨_, hv⟩))) rfl (Nat.le_of_ble_eq_true rfl) dL_law_564 hP1 hS1 hl (lw_use rfl (by decide) ⟨rfl, sp_f _, sp_f _, trivial⟩ hok1) (fun v τ11 H11 locs11 hv hP11 hS11 => ?_)
  obtain ⟨⟨x1, rfl, hr1⟩, hok11, hfr1⟩ := hv
  refine lv_pop C.1 C.2.1 dL_law_567 rfl ?_
  refine lv_goto (tgt := 1371) C.1 C.2.1 dL_law_568 rfl ?_
  exact back _ _ _ ⟨hok11, RLt_fr hokR.2 hfr0 hfr1 (by decide +kernel) (by decide +kernel)⟩ hP11 hS11
set_option maxRecDepth 100000 in
theorem lw_c13 {p : Program} {l : Launch} {e : Env} {s : State} {m : MethodId} {below : List Frame} {meth : Method} {c : Code} {D : va_G} {aC : Nat → ClassId} {b L : Nat} {xs : Nat → Int32} (C : lw_K p s m c D aC b L xs) {i : Int} (hi : 0 ≤ i ∧ i + 6 ≤ (L : Int) ∧ L ≤ 3072) {σ : am_S} {H : Heap} {locs : List Loc} {lc : Array Slot} (hokR : okR σ) (hP : va_P D vwCl (am_ws SH KF s.heap.size aC 92 σ) H) (hS : va_S (fun q => s.heap.size ≤ q) s.heap H locs) (hl : lv_has lc 4 [(3, .int (Int32.ofInt i)), (2, .ref (s.heap.size + 51)), (1, .ref (s.heap.size + 0)), (0, .ref b)])
    (back : ∀ (τ : am_S) (H : Heap) (locs : List Loc), okR τ → va_P D vwCl (am_ws SH KF s.heap.size aC 92 τ) H → va_S (fun q => s.heap.size ≤ q) s.heap H locs → W p l e room_1 s m #[Value.ref b] below meth c H locs (92 - 0) (am_sz SH KF 92 - am_sz SH KF 0) (lw_Z below #[Value.ref b] s) (F0 m 1371 lc [])) : W p l e room_1 s m #[Value.ref b] below meth c H locs (92 - 0) (am_sz SH KF 92 - am_sz SH KF 0) (lw_Z below #[Value.ref b] s) (F0 m 571 lc []) := by
  have hok : okS σ := hokR.1
  refine lv_aload_n C.1 C.2.1 dL_law_571 rfl (lv_at hl 2 rfl) ?_
  refine lw_call C (ix := 72) (o := 0) (As := []) (rest := []) (ci := 11) (na := 0) (pc := 572) (nX11_errands l) (by decide) (by decide) (tk_1204) (tk_103) ⟨by decide +kernel, by decide +kernel, by decide +kernel⟩ (tk_1201) (tk_1202) rfl (tk_1203) (by decide) rfl rfl rfl (Nat.le_of_ble_eq_true rfl) dL_law_572 hP hS hl (lw_use rfl (by decide) ⟨rfl, trivial⟩ hok) (fun v τ1 H1 locs1 hv hP1 hS1 => ?_)
  obtain ⟨⟨x0, rfl, hr0⟩, hok1, hfr0⟩ := hv
  refine lv_pop C.1 C.2.1 dL_law_575 rfl ?_
  refine lv_aload_n C.1 C.2.1 dL_law_576 rfl (lv_at hl 1 rfl) ?_
  refine lw_call C (ix := 75) (o := 51) (As := []) (rest := []) (ci := 12) (na := 0) (pc := 577) (nX12_errands l) (by decide) (by decide) (tk_1785) (tk_120) ⟨by decide +kernel, by decide +kernel, by decide +kernel⟩ (tk_1782) (tk_1783) rfl (tk_1784) (by decide) rfl rfl rfl (Nat.le_of_ble_eq_true rfl) dL_law_577 hP1 hS1 hl (lw_use rfl (by decide) ⟨rfl, trivial⟩ hok1) (fun v τ11 H11 locs11 hv hP11 hS11 => ?_)
  obtain ⟨⟨x1, rfl, hr1⟩, hok11, hfr1⟩ := hv
  refine lv_pop C.1 C.2.1 dL_law_580 rfl ?_
  refine lv_goto (tgt := 1371) C.1 C.2.1 dL_law_581 rfl ?_
  exact back _ _ _ ⟨hok11, RLt_fr hokR.2 hfr0 hfr1 (by decide +kernel) (by decide +kernel)⟩ hP11 hS11
set_option maxRecDepth 100000 in
theorem lw_c14 {p : Program} {l : Launch} {e : Env} {s : State} {m : MethodId} {below : List Frame} {meth : Method} {c : Code} {D : va_G} {aC : Nat → ClassId} {b L : Nat} {xs : Nat → Int32} (C : lw_K p s m c D aC b L xs) {i : Int} (hi : 0 ≤ i ∧ i + 6 ≤ (L : Int) ∧ L ≤ 3072) {σ : am_S} {H : Heap} {locs : List Loc} {lc : Array Slot} (hokR : okR σ) (hP : va_P D vwCl (am_ws SH KF s.heap.size aC 92 σ) H) (hS : va_S (fun q => s.heap.size ≤ q) s.heap H locs) (hl : lv_has lc 4 [(3, .int (Int32.ofInt i)), (2, .ref (s.heap.size + 51)), (1, .ref (s.heap.size + 0)), (0, .ref b)])
    (back : ∀ (τ : am_S) (H : Heap) (locs : List Loc), okR τ → va_P D vwCl (am_ws SH KF s.heap.size aC 92 τ) H → va_S (fun q => s.heap.size ≤ q) s.heap H locs → W p l e room_1 s m #[Value.ref b] below meth c H locs (92 - 0) (am_sz SH KF 92 - am_sz SH KF 0) (lw_Z below #[Value.ref b] s) (F0 m 1371 lc [])) : W p l e room_1 s m #[Value.ref b] below meth c H locs (92 - 0) (am_sz SH KF 92 - am_sz SH KF 0) (lw_Z below #[Value.ref b] s) (F0 m 584 lc []) := by
  have hok : okS σ := hokR.1
  refine lv_aload_n C.1 C.2.1 dL_law_584 rfl (lv_at hl 2 rfl) ?_
  refine lw_arg C hS hl (k := 1) dL_law_585 dL_law_586 dL_law_587 dL_law_588 dL_law_589 rfl hi (by decide) ?_
  refine lw_arg C hS hl (k := 2) dL_law_590 dL_law_591 dL_law_592 dL_law_593 dL_law_594 rfl hi (by decide) ?_
  refine lw_arg C hS hl (k := 3) dL_law_595 dL_law_596 dL_law_597 dL_law_598 dL_law_599 rfl hi (by decide) ?_
  refine lw_arg C hS hl (k := 4) dL_law_600 dL_law_601 dL_law_602 dL_law_603 dL_law_604 rfl hi (by decide) ?_
  refine lw_call C (ix := 76) (o := 0) (As := [.int (xs (i.toNat + 1)), .int (xs (i.toNat + 2)), .int (xs (i.toNat + 3)), .int (xs (i.toNat + 4))]) (rest := []) (ci := 11) (na := 4) (pc := 605) (nX11_past l) (by decide) (by decide) (tk_998) (tk_103) ⟨by decide +kernel, by decide +kernel, by decide +kernel⟩ (tk_995) (tk_996) rfl (tk_997) (by decide) rfl (am_ni _ _ (by intro v hv; simp at hv; first | exact ⟨_, hv⟩ | (rcases hv with hv | hv <;> exact ⟨_, hv⟩) | (rcases hv with hv | hv | hv <;> exact ⟨_, hv⟩) | (rcases hv with hv | hv | hv | hv <;> exact ⟨_, hv⟩) | (rcases hv with hv | hv | hv | hv | hv <;> exact ⟨_, hv⟩))) rfl (Nat.le_of_ble_eq_true rfl) dL_law_605 hP hS hl (lw_use rfl (by decide) ⟨rfl, sp_f _, sp_f _, sp_f _, sp_f _, trivial⟩ hok) (fun v τ1 H1 locs1 hv hP1 hS1 => ?_)
  obtain ⟨⟨x0, rfl, hr0⟩, hok1, hfr0⟩ := hv
  refine lv_pop C.1 C.2.1 dL_law_608 rfl ?_
  refine lv_aload_n C.1 C.2.1 dL_law_609 rfl (lv_at hl 1 rfl) ?_
  refine lw_arg C hS1 hl (k := 1) dL_law_610 dL_law_611 dL_law_612 dL_law_613 dL_law_614 rfl hi (by decide) ?_
  refine lw_arg C hS1 hl (k := 2) dL_law_615 dL_law_616 dL_law_617 dL_law_618 dL_law_619 rfl hi (by decide) ?_
  refine lw_arg C hS1 hl (k := 3) dL_law_620 dL_law_621 dL_law_622 dL_law_623 dL_law_624 rfl hi (by decide) ?_
  refine lw_arg C hS1 hl (k := 4) dL_law_625 dL_law_626 dL_law_627 dL_law_628 dL_law_629 rfl hi (by decide) ?_
  refine lw_call C (ix := 80) (o := 51) (As := [.int (xs (i.toNat + 1)), .int (xs (i.toNat + 2)), .int (xs (i.toNat + 3)), .int (xs (i.toNat + 4))]) (rest := []) (ci := 12) (na := 4) (pc := 630) (nX12_past l) (by decide) (by decide) (tk_1797) (tk_120) ⟨by decide +kernel, by decide +kernel, by decide +kernel⟩ (tk_1794) (tk_1795) rfl (tk_1796) (by decide) rfl (am_ni _ _ (by intro v hv; simp at hv; first | exact ⟨_, hv⟩ | (rcases hv with hv | hv <;> exact ⟨_, hv⟩) | (rcases hv with hv | hv | hv <;> exact ⟨_, hv⟩) | (rcases hv with hv | hv | hv | hv <;> exact ⟨_, hv⟩) | (rcases hv with hv | hv | hv | hv | hv <;> exact ⟨_, hv⟩))) rfl (Nat.le_of_ble_eq_true rfl) dL_law_630 hP1 hS1 hl (lw_use rfl (by decide) ⟨rfl, sp_f _, sp_f _, sp_f _, sp_f _, trivial⟩ hok1) (fun v τ11 H11 locs11 hv hP11 hS11 => ?_)
  obtain ⟨⟨x1, rfl, hr1⟩, hok11, hfr1⟩ := hv
  refine lv_pop C.1 C.2.1 dL_law_633 rfl ?_
  refine lv_goto (tgt := 1371) C.1 C.2.1 dL_law_634 rfl ?_
  exact back _ _ _ ⟨hok11, RLt_fr hokR.2 hfr0 hfr1 (by decide +kernel) (by decide +kernel)⟩ hP11 hS11
set_option maxRecDepth 100000 in
theorem lw_c15 {p : Program} {l : Launch} {e : Env} {s : State} {m : MethodId} {below : List Frame} {meth : Method} {c : Code} {D : va_G} {aC : Nat → ClassId} {b L : Nat} {xs : Nat → Int32} (C : lw_K p s m c D aC b L xs) {i : Int} (hi : 0 ≤ i ∧ i + 6 ≤ (L : Int) ∧ L ≤ 3072) {σ : am_S} {H : Heap} {locs : List Loc} {lc : Array Slot} (hokR : okR σ) (hP : va_P D vwCl (am_ws SH KF s.heap.size aC 92 σ) H) (hS : va_S (fun q => s.heap.size ≤ q) s.heap H locs) (hl : lv_has lc 4 [(3, .int (Int32.ofInt i)), (2, .ref (s.heap.size + 51)), (1, .ref (s.heap.size + 0)), (0, .ref b)])
    (back : ∀ (τ : am_S) (H : Heap) (locs : List Loc), okR τ → va_P D vwCl (am_ws SH KF s.heap.size aC 92 τ) H → va_S (fun q => s.heap.size ≤ q) s.heap H locs → W p l e room_1 s m #[Value.ref b] below meth c H locs (92 - 0) (am_sz SH KF 92 - am_sz SH KF 0) (lw_Z below #[Value.ref b] s) (F0 m 1371 lc [])) : W p l e room_1 s m #[Value.ref b] below meth c H locs (92 - 0) (am_sz SH KF 92 - am_sz SH KF 0) (lw_Z below #[Value.ref b] s) (F0 m 637 lc []) := by
  have hok : okS σ := hokR.1
  refine lv_aload_n C.1 C.2.1 dL_law_637 rfl (lv_at hl 2 rfl) ?_
  refine lw_arg C hS hl (k := 1) dL_law_638 dL_law_639 dL_law_640 dL_law_641 dL_law_642 rfl hi (by decide) ?_
  refine lw_arg C hS hl (k := 2) dL_law_643 dL_law_644 dL_law_645 dL_law_646 dL_law_647 rfl hi (by decide) ?_
  refine lw_call C (ix := 81) (o := 0) (As := [.int (xs (i.toNat + 1)), .int (xs (i.toNat + 2))]) (rest := []) (ci := 11) (na := 2) (pc := 648) (nX11_alone l) (by decide) (by decide) (tk_1044) (tk_103) ⟨by decide +kernel, by decide +kernel, by decide +kernel⟩ (tk_1041) (tk_1042) rfl (tk_1043) (by decide) rfl (am_ni _ _ (by intro v hv; simp at hv; first | exact ⟨_, hv⟩ | (rcases hv with hv | hv <;> exact ⟨_, hv⟩) | (rcases hv with hv | hv | hv <;> exact ⟨_, hv⟩) | (rcases hv with hv | hv | hv | hv <;> exact ⟨_, hv⟩) | (rcases hv with hv | hv | hv | hv | hv <;> exact ⟨_, hv⟩))) rfl (Nat.le_of_ble_eq_true rfl) dL_law_648 hP hS hl (lw_use rfl (by decide) ⟨rfl, sp_f _, sp_f _, trivial⟩ hok) (fun v τ1 H1 locs1 hv hP1 hS1 => ?_)
  obtain ⟨⟨x0, rfl, hr0⟩, hok1, hfr0⟩ := hv
  refine lv_pop C.1 C.2.1 dL_law_651 rfl ?_
  refine lv_aload_n C.1 C.2.1 dL_law_652 rfl (lv_at hl 1 rfl) ?_
  refine lw_arg C hS1 hl (k := 1) dL_law_653 dL_law_654 dL_law_655 dL_law_656 dL_law_657 rfl hi (by decide) ?_
  refine lw_arg C hS1 hl (k := 2) dL_law_658 dL_law_659 dL_law_660 dL_law_661 dL_law_662 rfl hi (by decide) ?_
  refine lw_call C (ix := 84) (o := 51) (As := [.int (xs (i.toNat + 1)), .int (xs (i.toNat + 2))]) (rest := []) (ci := 12) (na := 2) (pc := 663) (nX12_alone l) (by decide) (by decide) (tk_1813) (tk_120) ⟨by decide +kernel, by decide +kernel, by decide +kernel⟩ (tk_1810) (tk_1811) rfl (tk_1812) (by decide) rfl (am_ni _ _ (by intro v hv; simp at hv; first | exact ⟨_, hv⟩ | (rcases hv with hv | hv <;> exact ⟨_, hv⟩) | (rcases hv with hv | hv | hv <;> exact ⟨_, hv⟩) | (rcases hv with hv | hv | hv | hv <;> exact ⟨_, hv⟩) | (rcases hv with hv | hv | hv | hv | hv <;> exact ⟨_, hv⟩))) rfl (Nat.le_of_ble_eq_true rfl) dL_law_663 hP1 hS1 hl (lw_use rfl (by decide) ⟨rfl, sp_f _, sp_f _, trivial⟩ hok1) (fun v τ11 H11 locs11 hv hP11 hS11 => ?_)
  obtain ⟨⟨x1, rfl, hr1⟩, hok11, hfr1⟩ := hv
  refine lv_pop C.1 C.2.1 dL_law_666 rfl ?_
  refine lv_goto (tgt := 1371) C.1 C.2.1 dL_law_667 rfl ?_
  exact back _ _ _ ⟨hok11, RLt_fr hokR.2 hfr0 hfr1 (by decide +kernel) (by decide +kernel)⟩ hP11 hS11
