set_option maxRecDepth 100000 in
/-- a round: what is asked decides the row -/
theorem lw_round {p : Program} {l : Launch} {e : Env} {s : State} {m : MethodId} {below : List Frame} {meth : Method} {c : Code} {D : va_G} {aC : Nat → ClassId} {b L : Nat} {xs : Nat → Int32} (C : lw_K p s m c D aC b L xs) {i : Int} (hi : 0 ≤ i ∧ i + 6 ≤ (L : Int) ∧ L ≤ 3072) {σ : am_S} {H : Heap} {locs : List Loc} {lc : Array Slot} (hok : okR σ) (hP : va_P D vwCl (am_ws SH KF s.heap.size aC 92 σ) H) (hS : va_S (fun q => s.heap.size ≤ q) s.heap H locs) (hl : lv_has lc 4 [(3, .int (Int32.ofInt i)), (2, .ref (s.heap.size + 51)), (1, .ref (s.heap.size + 0)), (0, .ref b)])
    (back : ∀ (τ : am_S) (H : Heap) (locs : List Loc), okR τ → va_P D vwCl (am_ws SH KF s.heap.size aC 92 τ) H → va_S (fun q => s.heap.size ≤ q) s.heap H locs → W p l e room_1 s m #[Value.ref b] below meth c H locs (92 - 0) (am_sz SH KF 92 - am_sz SH KF 0) (lw_Z below #[Value.ref b] s) (F0 m 1371 lc [])) : W p l e room_1 s m #[Value.ref b] below meth c H locs (92 - 0) (am_sz SH KF 92 - am_sz SH KF 0) (lw_Z below #[Value.ref b] s) (F0 m 27 lc []) := by
  obtain ⟨hx, hb, hml, hown, hts, hX, hbl, hK, hN⟩ := id C
  have hbA : ¬ (fun q : Nat => s.heap.size ≤ q) b := Nat.not_le.mpr hbl
  have q1 : (Int32.ofInt i).toNatClampNeg = i.toNat := ii_c (by omega) (by omega)
  have q2 : ¬ (Int32.ofInt i < 0) := by
    rw [ii_0, ii_lt (by omega) (by omega) (by omega) (by omega)]
    omega
  refine lv_aload_n hx hb dL_law_27 rfl (lv_at hl 3 rfl) ?_
  refine lv_iload_n hx hb dL_law_28 rfl (lv_at hl 0 rfl) ?_
  refine va_sld hx hb hX hbl hbA hS (fun z => z.elim q2 (fun z2 => by rw [q1] at z2; omega)) dL_law_29 ?_
  refine lv_bipush hx hb dL_law_30 (v := 63) (by decide) ?_
  refine lv_iand hx hb dL_law_32 ?_
  generalize xs (Int32.ofInt i).toNatClampNeg &&& 63 = x
  by_cases hq : x.toInt < 0 ∨ 40 < x.toInt
  · exact lv_tableOut (tgt := 1371) hx hb dL_law_33 hq rfl (back _ _ _ hok hP hS)
  · obtain ⟨j, hj, ej⟩ : ∃ j : Nat, j ≤ 40 ∧ x.toInt = (j : Int) := ⟨x.toInt.toNat, by omega, by omega⟩
    have go : ∀ (off : Int) (tgt : Nat), (#[179, 242, 265, 278, 291, 324, 357, 390, 423, 446, 469, 492, 505, 538, 551, 604, 637, 660, 683, 706, 739, 772, 805, 838, 851, 884, 907, 930, 963, 996, 1019, 1062, 1075, 1118, 1151, 1200, 1213, 1246, 1269, 1292, 1315] : Array Int)[j]? = some off → ((33 : Nat) : Int) + off = (tgt : Int) → W p l e room_1 s m #[Value.ref b] below meth c H locs (92 - 0) (am_sz SH KF 92 - am_sz SH KF 0) (lw_Z below #[Value.ref b] s) (F0 m tgt lc []) → W p l e room_1 s m #[Value.ref b] below meth c H locs (92 - 0) (am_sz SH KF 92 - am_sz SH KF 0) (lw_Z below #[Value.ref b] s) (F0 m 33 lc [.int x]) := fun off tgt h1 h2 h3 => lv_tableIn hx hb dL_law_33 (by omega) (by omega) (by rw [ej, Int.sub_zero, Int.toNat_natCast]; exact h1) h2 h3
    have hjs : j = 0 ∨ j = 1 ∨ j = 2 ∨ j = 3 ∨ j = 4 ∨ j = 5 ∨ j = 6 ∨ j = 7 ∨ j = 8 ∨ j = 9 ∨ j = 10 ∨ j = 11 ∨ j = 12 ∨ j = 13 ∨ j = 14 ∨ j = 15 ∨ j = 16 ∨ j = 17 ∨ j = 18 ∨ j = 19 ∨ j = 20 ∨ j = 21 ∨ j = 22 ∨ j = 23 ∨ j = 24 ∨ j = 25 ∨ j = 26 ∨ j = 27 ∨ j = 28 ∨ j = 29 ∨ j = 30 ∨ j = 31 ∨ j = 32 ∨ j = 33 ∨ j = 34 ∨ j = 35 ∨ j = 36 ∨ j = 37 ∨ j = 38 ∨ j = 39 ∨ j = 40 := by omega
    rcases hjs with rfl | rfl | rfl | rfl | rfl | rfl | rfl | rfl | rfl | rfl | rfl | rfl | rfl | rfl | rfl | rfl | rfl | rfl | rfl | rfl | rfl | rfl | rfl | rfl | rfl | rfl | rfl | rfl | rfl | rfl | rfl | rfl | rfl | rfl | rfl | rfl | rfl | rfl | rfl | rfl | rfl
    · exact go 179 212 rfl (by decide) (lw_c0 C hi hok hP hS hl back)
    · exact go 242 275 rfl (by decide) (lw_c1 C hi hok hP hS hl back)
    · exact go 265 298 rfl (by decide) (lw_c2 C hi hok hP hS hl back)
    · exact go 278 311 rfl (by decide) (lw_c3 C hi hok hP hS hl back)
    · exact go 291 324 rfl (by decide) (lw_c4 C hi hok hP hS hl back)
    · exact go 324 357 rfl (by decide) (lw_c5 C hi hok hP hS hl back)
    · exact go 357 390 rfl (by decide) (lw_c6 C hi hok hP hS hl back)
    · exact go 390 423 rfl (by decide) (lw_c7 C hi hok hP hS hl back)
    · exact go 423 456 rfl (by decide) (lw_c8 C hi hok hP hS hl back)
    · exact go 446 479 rfl (by decide) (lw_c9 C hi hok hP hS hl back)
    · exact go 469 502 rfl (by decide) (lw_c10 C hi hok hP hS hl back)
    · exact go 492 525 rfl (by decide) (lw_c11 C hi hok hP hS hl back)
    · exact go 505 538 rfl (by decide) (lw_c12 C hi hok hP hS hl back)
    · exact go 538 571 rfl (by decide) (lw_c13 C hi hok hP hS hl back)
    · exact go 551 584 rfl (by decide) (lw_c14 C hi hok hP hS hl back)
    · exact go 604 637 rfl (by decide) (lw_c15 C hi hok hP hS hl back)
    · exact go 637 670 rfl (by decide) (lw_c16 C hi hok hP hS hl back)
    · exact go 660 693 rfl (by decide) (lw_c17 C hi hok hP hS hl back)
    · exact go 683 716 rfl (by decide) (lw_c18 C hi hok hP hS hl back)
    · exact go 706 739 rfl (by decide) (lw_c19 C hi hok hP hS hl back)
    · exact go 739 772 rfl (by decide) (lw_c20 C hi hok hP hS hl back)
    · exact go 772 805 rfl (by decide) (lw_c21 C hi hok hP hS hl back)
    · exact go 805 838 rfl (by decide) (lw_c22 C hi hok hP hS hl back)
    · exact go 838 871 rfl (by decide) (lw_c23 C hi hok hP hS hl back)
    · exact go 851 884 rfl (by decide) (lw_c24 C hi hok hP hS hl back)
    · exact go 884 917 rfl (by decide) (lw_c25 C hi hok hP hS hl back)
    · exact go 907 940 rfl (by decide) (lw_c26 C hi hok hP hS hl back)
    · exact go 930 963 rfl (by decide) (lw_c27 C hi hok hP hS hl back)
    · exact go 963 996 rfl (by decide) (lw_c28 C hi hok hP hS hl back)
    · exact go 996 1029 rfl (by decide) (lw_c29 C hi hok hP hS hl back)
    · exact go 1019 1052 rfl (by decide) (lw_c30 C hi hok hP hS hl back)
    · exact go 1062 1095 rfl (by decide) (lw_c31 C hi hok hP hS hl back)
    · exact go 1075 1108 rfl (by decide) (lw_c32 C hi hok hP hS hl back)
    · exact go 1118 1151 rfl (by decide) (lw_c33 C hi hok hP hS hl back)
    · exact go 1151 1184 rfl (by decide) (lw_c34 C hi hok hP hS hl back)
    · exact go 1200 1233 rfl (by decide) (lw_c35 C hi hok hP hS hl back)
    · exact go 1213 1246 rfl (by decide) (lw_c36 C hi hok hP hS hl back)
    · exact go 1246 1279 rfl (by decide) (lw_c37 C hi hok hP hS hl back)
    · exact go 1269 1302 rfl (by decide) (lw_c38 C hi hok hP hS hl back)
    · exact go 1292 1325 rfl (by decide) (lw_c39 C hi hok hP hS hl back)
    · exact go 1315 1348 rfl (by decide) (lw_c40 C hi hok hP hS hl back)
set_option maxRecDepth 100000 in
/-- the loop, from its head -/
theorem lw_loop {p : Program} {l : Launch} {e : Env} {s : State} {m : MethodId} {below : List Frame} {meth : Method} {c : Code} {D : va_G} {aC : Nat → ClassId} {b L : Nat} {xs : Nat → Int32} (C : lw_K p s m c D aC b L xs) (hr : meth.sig.returnType = ret) (hlocks : meth.locks = false) (hL : L ≤ 3072) : ∀ (nn : Nat) (i : Int) (σ : am_S) (H : Heap) (locs : List Loc) (lc : Array Slot), ((L : Int) + 6 - i).toNat = nn → 0 ≤ i → i ≤ 3078 → okR σ → va_P D vwCl (am_ws SH KF s.heap.size aC 92 σ) H → va_S (fun q => s.heap.size ≤ q) s.heap H locs → lv_has lc 4 [(3, .int (Int32.ofInt i)), (2, .ref (s.heap.size + 51)), (1, .ref (s.heap.size + 0)), (0, .ref b)] → W p l e room_1 s m #[Value.ref b] below meth c H locs (92 - 0) (am_sz SH KF 92 - am_sz SH KF 0) (lw_Z below #[Value.ref b] s) (F0 m 18 lc []) := by
  obtain ⟨hx, hb, hml, hown, hts, hX, hbl, hK, hN⟩ := id C
  have hbA : ¬ (fun q : Nat => s.heap.size ≤ q) b := Nat.not_le.mpr hbl
  have room : 92 - 0 ≤ 600000 ∧ am_sz SH KF 92 - am_sz SH KF 0 ≤ 7302250 := by decide +kernel
  have fin : ∀ (H : Heap) (locs : List Loc) (lc : Array Slot), va_S (fun q => s.heap.size ≤ q) s.heap H locs → W p l e room_1 s m #[Value.ref b] below meth c H locs (92 - 0) (am_sz SH KF 92 - am_sz SH KF 0) (lw_Z below #[Value.ref b] s) (F0 m 1377 lc []) := fun H locs lc hS => by
    refine lv_iconst (v := 1) hx hb dL_law_1377 (by decide) ?_
    refine va_forget (fun q hq => hS.2.2 q hq) ?_
    refine W.widen (k := 600000) (n := 7302250) room.1 room.2 ?_
    exact lw_ret hx hb hr hlocks dL_law_1378
  intro nn
  induction nn using Nat.strongRecOn with
  | ind nn ih =>
  intro i σ H locs lc hn h0 h1 hok hP hS hl
  refine lv_iload_n hx hb dL_law_18 rfl (lv_at hl 0 rfl) ?_
  refine lv_aload_n hx hb dL_law_19 rfl (lv_at hl 3 rfl) ?_
  refine va_slen hx hb hX hbl hbA hS dL_law_20 ?_
  refine lv_bipush hx hb dL_law_21 (v := 6) (by decide) ?_
  refine lv_isub hx hb dL_law_23 ?_
  have el : Int32.ofNat L - 6 = Int32.ofInt ((L : Int) - 6) := ii_sub (L : Int) 6
  refine lv_icmp_gt (tgt := 1377) hx hb dL_law_24 rfl (fun _ => fin _ _ _ hS) (fun h => ?_)
  rw [el, ii_lt (by omega) (by omega) (by omega) (by omega)] at h
  refine lw_round C ⟨h0, by omega, hL⟩ hok hP hS hl (fun τ H locs hok hP hS => ?_)
  refine lv_iinc (v := Int32.ofInt i + 6) (lv' := [(3, .int (Int32.ofInt i + 6)), (2, .ref (s.heap.size + 51)), (1, .ref (s.heap.size + 0)), (0, .ref b)]) hx hb dL_law_1371 hl (k := 0) rfl (by first | rfl | decide) (by first | rfl | decide) rfl (fun lc hl => ?_)
  refine lv_goto (tgt := 18) hx hb dL_law_1374 rfl ?_
  have ei : Int32.ofInt i + 6 = Int32.ofInt (i + 6) := ii_add i 6
  rw [ei] at hl
  exact ih _ (by omega) (i + 6) τ H locs lc rfl (by omega) (by omega) hok hP hS hl
