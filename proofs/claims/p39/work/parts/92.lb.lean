set_option maxRecDepth 100000 in
theorem lw_c16 {p : Program} {l : Launch} {e : Env} {s : State} {m : MethodId} {below : List Frame} {meth : Method} {c : Code} {D : va_G} {aC : Nat → ClassId} {b L : Nat} {xs : Nat → Int32} (C : lw_K p s m c D aC b L xs) {i : Int} (hi : 0 ≤ i ∧ i + 6 ≤ (L : Int) ∧ L ≤ 3072) {σ : am_S} {H : Heap} {locs : List Loc} {lc : Array Slot} (hokR : okR σ) (hP : va_P D vwCl (am_ws SH KF s.heap.size aC 92 σ) H) (hS : va_S (fun q => s.heap.size ≤ q) s.heap H locs) (hl : lv_has lc 4 [(3, .int (Int32.ofInt i)), (2, .ref (s.heap.size + 51)), (1, .ref (s.heap.size + 0)), (0, .ref b)])
    (back : ∀ (τ : am_S) (H : Heap) (locs : List Loc), okR τ → va_P D vwCl (am_ws SH KF s.heap.size aC 92 τ) H → va_S (fun q => s.heap.size ≤ q) s.heap H locs → W p l e room_1 s m #[Value.ref b] below meth c H locs (92 - 0) (am_sz SH KF 92 - am_sz SH KF 0) (lw_Z below #[Value.ref b] s) (F0 m 1371 lc [])) : W p l e room_1 s m #[Value.ref b] below meth c H locs (92 - 0) (am_sz SH KF 92 - am_sz SH KF 0) (lw_Z below #[Value.ref b] s) (F0 m 670 lc []) := by
  have hok : okS σ := hokR.1
  refine lv_aload_n C.1 C.2.1 dL_law_670 rfl (lv_at hl 2 rfl) ?_
  refine lw_arg C hS hl (k := 1) dL_law_671 dL_law_672 dL_law_673 dL_law_674 dL_law_675 rfl hi (by decide) ?_
  refine lw_call C (ix := 85) (o := 0) (As := [.int (xs (i.toNat + 1))]) (rest := []) (ci := 11) (na := 1) (pc := 676) (nX11_reach l) (by decide) (by decide) (tk_1058) (tk_103) ⟨by decide +kernel, by decide +kernel, by decide +kernel⟩ (tk_1055) (tk_1056) rfl (tk_1057) (by decide) rfl (am_ni _ _ (by intro v hv; simp at hv; first | exact ⟨_, hv⟩ | (rcases hv with hv | hv <;> exact ⟨_, hv⟩) | (rcases hv with hv | hv | hv <;> exact ⟨_, hv⟩) | (rcases hv with hv | hv | hv | hv <;> exact ⟨_, hv⟩) | (rcases hv with hv | hv | hv | hv | hv <;> exact ⟨_, hv⟩))) rfl (Nat.le_of_ble_eq_true rfl) dL_law_676 hP hS hl (lw_use rfl (by decide) ⟨rfl, sp_f _, trivial⟩ hok) (fun v τ1 H1 locs1 hv hP1 hS1 => ?_)
  obtain ⟨⟨x0, rfl, hr0⟩, hok1, hfr0⟩ := hv
  refine lv_pop C.1 C.2.1 dL_law_679 rfl ?_
  refine lv_aload_n C.1 C.2.1 dL_law_680 rfl (lv_at hl 1 rfl) ?_
  refine lw_arg C hS1 hl (k := 1) dL_law_681 dL_law_682 dL_law_683 dL_law_684 dL_law_685 rfl hi (by decide) ?_
  refine lw_call C (ix := 88) (o := 51) (As := [.int (xs (i.toNat + 1))]) (rest := []) (ci := 12) (na := 1) (pc := 686) (nX12_reach l) (by decide) (by decide) (tk_1821) (tk_120) ⟨by decide +kernel, by decide +kernel, by decide +kernel⟩ (tk_1818) (tk_1819) rfl (tk_1820) (by decide) rfl (am_ni _ _ (by intro v hv; simp at hv; first | exact ⟨_, hv⟩ | (rcases hv with hv | hv <;> exact ⟨_, hv⟩) | (rcases hv with hv | hv | hv <;> exact ⟨_, hv⟩) | (rcases hv with hv | hv | hv | hv <;> exact ⟨_, hv⟩) | (rcases hv with hv | hv | hv | hv | hv <;> exact ⟨_, hv⟩))) rfl (Nat.le_of_ble_eq_true rfl) dL_law_686 hP1 hS1 hl (lw_use rfl (by decide) ⟨rfl, sp_f _, trivial⟩ hok1) (fun v τ11 H11 locs11 hv hP11 hS11 => ?_)
  obtain ⟨⟨x1, rfl, hr1⟩, hok11, hfr1⟩ := hv
  refine lv_pop C.1 C.2.1 dL_law_689 rfl ?_
  refine lv_goto (tgt := 1371) C.1 C.2.1 dL_law_690 rfl ?_
  exact back _ _ _ ⟨hok11, RLt_fr hokR.2 hfr0 hfr1 (by decide +kernel) (by decide +kernel)⟩ hP11 hS11
set_option maxRecDepth 100000 in
theorem lw_c17 {p : Program} {l : Launch} {e : Env} {s : State} {m : MethodId} {below : List Frame} {meth : Method} {c : Code} {D : va_G} {aC : Nat → ClassId} {b L : Nat} {xs : Nat → Int32} (C : lw_K p s m c D aC b L xs) {i : Int} (hi : 0 ≤ i ∧ i + 6 ≤ (L : Int) ∧ L ≤ 3072) {σ : am_S} {H : Heap} {locs : List Loc} {lc : Array Slot} (hokR : okR σ) (hP : va_P D vwCl (am_ws SH KF s.heap.size aC 92 σ) H) (hS : va_S (fun q => s.heap.size ≤ q) s.heap H locs) (hl : lv_has lc 4 [(3, .int (Int32.ofInt i)), (2, .ref (s.heap.size + 51)), (1, .ref (s.heap.size + 0)), (0, .ref b)])
    (back : ∀ (τ : am_S) (H : Heap) (locs : List Loc), okR τ → va_P D vwCl (am_ws SH KF s.heap.size aC 92 τ) H → va_S (fun q => s.heap.size ≤ q) s.heap H locs → W p l e room_1 s m #[Value.ref b] below meth c H locs (92 - 0) (am_sz SH KF 92 - am_sz SH KF 0) (lw_Z below #[Value.ref b] s) (F0 m 1371 lc [])) : W p l e room_1 s m #[Value.ref b] below meth c H locs (92 - 0) (am_sz SH KF 92 - am_sz SH KF 0) (lw_Z below #[Value.ref b] s) (F0 m 693 lc []) := by
  have hok : okS σ := hokR.1
  refine lv_aload_n C.1 C.2.1 dL_law_693 rfl (lv_at hl 2 rfl) ?_
  refine lw_arg C hS hl (k := 1) dL_law_694 dL_law_695 dL_law_696 dL_law_697 dL_law_698 rfl hi (by decide) ?_
  refine lw_call C (ix := 89) (o := 0) (As := [.int (xs (i.toNat + 1))]) (rest := []) (ci := 11) (na := 1) (pc := 699) (nX11_above l) (by decide) (by decide) (tk_1081) (tk_103) ⟨by decide +kernel, by decide +kernel, by decide +kernel⟩ (tk_1078) (tk_1079) rfl (tk_1080) (by decide) rfl (am_ni _ _ (by intro v hv; simp at hv; first | exact ⟨_, hv⟩ | (rcases hv with hv | hv <;> exact ⟨_, hv⟩) | (rcases hv with hv | hv | hv <;> exact ⟨_, hv⟩) | (rcases hv with hv | hv | hv | hv <;> exact ⟨_, hv⟩) | (rcases hv with hv | hv | hv | hv | hv <;> exact ⟨_, hv⟩))) rfl (Nat.le_of_ble_eq_true rfl) dL_law_699 hP hS hl (lw_use rfl (by decide) ⟨rfl, sp_f _, trivial⟩ hok) (fun v τ1 H1 locs1 hv hP1 hS1 => ?_)
  obtain ⟨⟨x0, rfl, hr0⟩, hok1, hfr0⟩ := hv
  refine lv_pop C.1 C.2.1 dL_law_702 rfl ?_
  refine lv_aload_n C.1 C.2.1 dL_law_703 rfl (lv_at hl 1 rfl) ?_
  refine lw_arg C hS1 hl (k := 1) dL_law_704 dL_law_705 dL_law_706 dL_law_707 dL_law_708 rfl hi (by decide) ?_
  refine lw_call C (ix := 92) (o := 51) (As := [.int (xs (i.toNat + 1))]) (rest := []) (ci := 12) (na := 1) (pc := 709) (nX12_above l) (by decide) (by decide) (tk_1825) (tk_120) ⟨by decide +kernel, by decide +kernel, by decide +kernel⟩ (tk_1822) (tk_1823) rfl (tk_1824) (by decide) rfl (am_ni _ _ (by intro v hv; simp at hv; first | exact ⟨_, hv⟩ | (rcases hv with hv | hv <;> exact ⟨_, hv⟩) | (rcases hv with hv | hv | hv <;> exact ⟨_, hv⟩) | (rcases hv with hv | hv | hv | hv <;> exact ⟨_, hv⟩) | (rcases hv with hv | hv | hv | hv | hv <;> exact ⟨_, hv⟩))) rfl (Nat.le_of_ble_eq_true rfl) dL_law_709 hP1 hS1 hl (lw_use rfl (by decide) ⟨rfl, sp_f _, trivial⟩ hok1) (fun v τ11 H11 locs11 hv hP11 hS11 => ?_)
  obtain ⟨⟨x1, rfl, hr1⟩, hok11, hfr1⟩ := hv
  refine lv_pop C.1 C.2.1 dL_law_712 rfl ?_
  refine lv_goto (tgt := 1371) C.1 C.2.1 dL_law_713 rfl ?_
  exact back _ _ _ ⟨hok11, RLt_fr hokR.2 hfr0 hfr1 (by decide +kernel) (by decide +kernel)⟩ hP11 hS11
set_option maxRecDepth 100000 in
theorem lw_c18 {p : Program} {l : Launch} {e : Env} {s : State} {m : MethodId} {below : List Frame} {meth : Method} {c : Code} {D : va_G} {aC : Nat → ClassId} {b L : Nat} {xs : Nat → Int32} (C : lw_K p s m c D aC b L xs) {i : Int} (hi : 0 ≤ i ∧ i + 6 ≤ (L : Int) ∧ L ≤ 3072) {σ : am_S} {H : Heap} {locs : List Loc} {lc : Array Slot} (hokR : okR σ) (hP : va_P D vwCl (am_ws SH KF s.heap.size aC 92 σ) H) (hS : va_S (fun q => s.heap.size ≤ q) s.heap H locs) (hl : lv_has lc 4 [(3, .int (Int32.ofInt i)), (2, .ref (s.heap.size + 51)), (1, .ref (s.heap.size + 0)), (0, .ref b)])
    (back : ∀ (τ : am_S) (H : Heap) (locs : List Loc), okR τ → va_P D vwCl (am_ws SH KF s.heap.size aC 92 τ) H → va_S (fun q => s.heap.size ≤ q) s.heap H locs → W p l e room_1 s m #[Value.ref b] below meth c H locs (92 - 0) (am_sz SH KF 92 - am_sz SH KF 0) (lw_Z below #[Value.ref b] s) (F0 m 1371 lc [])) : W p l e room_1 s m #[Value.ref b] below meth c H locs (92 - 0) (am_sz SH KF 92 - am_sz SH KF 0) (lw_Z below #[Value.ref b] s) (F0 m 716 lc []) := by
  have hok : okS σ := hokR.1
  refine lv_aload_n C.1 C.2.1 dL_law_716 rfl (lv_at hl 2 rfl) ?_
  refine lw_arg C hS hl (k := 1) dL_law_717 dL_law_718 dL_law_719 dL_law_720 dL_law_721 rfl hi (by decide) ?_
  refine lw_call C (ix := 93) (o := 0) (As := [.int (xs (i.toNat + 1))]) (rest := []) (ci := 11) (na := 1) (pc := 722) (nX11_driest l) (by decide) (by decide) (tk_1089) (tk_103) ⟨by decide +kernel, by decide +kernel, by decide +kernel⟩ (tk_1086) (tk_1087) rfl (tk_1088) (by decide) rfl (am_ni _ _ (by intro v hv; simp at hv; first | exact ⟨_, hv⟩ | (rcases hv with hv | hv <;> exact ⟨_, hv⟩) | (rcases hv with hv | hv | hv <;> exact ⟨_, hv⟩) | (rcases hv with hv | hv | hv | hv <;> exact ⟨_, hv⟩) | (rcases hv with hv | hv | hv | hv | hv <;> exact ⟨_, hv⟩))) rfl (Nat.le_of_ble_eq_true rfl) dL_law_722 hP hS hl (lw_use rfl (by decide) ⟨rfl, sp_f _, trivial⟩ hok) (fun v τ1 H1 locs1 hv hP1 hS1 => ?_)
  obtain ⟨⟨x0, rfl, hr0⟩, hok1, hfr0⟩ := hv
  refine lv_pop C.1 C.2.1 dL_law_725 rfl ?_
  refine lv_aload_n C.1 C.2.1 dL_law_726 rfl (lv_at hl 1 rfl) ?_
  refine lw_arg C hS1 hl (k := 1) dL_law_727 dL_law_728 dL_law_729 dL_law_730 dL_law_731 rfl hi (by decide) ?_
  refine lw_call C (ix := 96) (o := 51) (As := [.int (xs (i.toNat + 1))]) (rest := []) (ci := 12) (na := 1) (pc := 732) (nX12_driest l) (by decide) (by decide) (tk_1829) (tk_120) ⟨by decide +kernel, by decide +kernel, by decide +kernel⟩ (tk_1826) (tk_1827) rfl (tk_1828) (by decide) rfl (am_ni _ _ (by intro v hv; simp at hv; first | exact ⟨_, hv⟩ | (rcases hv with hv | hv <;> exact ⟨_, hv⟩) | (rcases hv with hv | hv | hv <;> exact ⟨_, hv⟩) | (rcases hv with hv | hv | hv | hv <;> exact ⟨_, hv⟩) | (rcases hv with hv | hv | hv | hv | hv <;> exact ⟨_, hv⟩))) rfl (Nat.le_of_ble_eq_true rfl) dL_law_732 hP1 hS1 hl (lw_use rfl (by decide) ⟨rfl, sp_f _, trivial⟩ hok1) (fun v τ11 H11 locs11 hv hP11 hS11 => ?_)
  obtain ⟨⟨x1, rfl, hr1⟩, hok11, hfr1⟩ := hv
  refine lv_pop C.1 C.2.1 dL_law_735 rfl ?_
  refine lv_goto (tgt := 1371) C.1 C.2.1 dL_law_736 rfl ?_
  exact back _ _ _ ⟨hok11, RLt_fr hokR.2 hfr0 hfr1 (by decide +kernel) (by decide +kernel)⟩ hP11 hS11
set_option maxRecDepth 100000 in
theorem lw_c19 {p : Program} {l : Launch} {e : Env} {s : State} {m : MethodId} {below : List Frame} {meth : Method} {c : Code} {D : va_G} {aC : Nat → ClassId} {b L : Nat} {xs : Nat → Int32} (C : lw_K p s m c D aC b L xs) {i : Int} (hi : 0 ≤ i ∧ i + 6 ≤ (L : Int) ∧ L ≤ 3072) {σ : am_S} {H : Heap} {locs : List Loc} {lc : Array Slot} (hokR : okR σ) (hP : va_P D vwCl (am_ws SH KF s.heap.size aC 92 σ) H) (hS : va_S (fun q => s.heap.size ≤ q) s.heap H locs) (hl : lv_has lc 4 [(3, .int (Int32.ofInt i)), (2, .ref (s.heap.size + 51)), (1, .ref (s.heap.size + 0)), (0, .ref b)])
    (back : ∀ (τ : am_S) (H : Heap) (locs : List Loc), okR τ → va_P D vwCl (am_ws SH KF s.heap.size aC 92 τ) H → va_S (fun q => s.heap.size ≤ q) s.heap H locs → W p l e room_1 s m #[Value.ref b] below meth c H locs (92 - 0) (am_sz SH KF 92 - am_sz SH KF 0) (lw_Z below #[Value.ref b] s) (F0 m 1371 lc [])) : W p l e room_1 s m #[Value.ref b] below meth c H locs (92 - 0) (am_sz SH KF 92 - am_sz SH KF 0) (lw_Z below #[Value.ref b] s) (F0 m 739 lc []) := by
  have hok : okS σ := hokR.1
  refine lv_aload_n C.1 C.2.1 dL_law_739 rfl (lv_at hl 2 rfl) ?_
  refine lw_arg C hS hl (k := 1) dL_law_740 dL_law_741 dL_law_742 dL_law_743 dL_law_744 rfl hi (by decide) ?_
  refine lw_arg C hS hl (k := 2) dL_law_745 dL_law_746 dL_law_747 dL_law_748 dL_law_749 rfl hi (by decide) ?_
  refine lw_call C (ix := 97) (o := 0) (As := [.int (xs (i.toNat + 1)), .int (xs (i.toNat + 2))]) (rest := []) (ci := 11) (na := 2) (pc := 750) (nX11_parts l) (by decide) (by decide) (tk_1097) (tk_103) ⟨by decide +kernel, by decide +kernel, by decide +kernel⟩ (tk_1094) (tk_1095) rfl (tk_1096) (by decide) rfl (am_ni _ _ (by intro v hv; simp at hv; first | exact ⟨_, hv⟩ | (rcases hv with hv | hv <;> exact ⟨_, hv⟩) | (rcases hv with hv | hv | hv <;> exact ⟨_, hv⟩) | (rcases hv with hv | hv | hv | hv <;> exact ⟨_, hv⟩) | (rcases hv with hv | hv | hv | hv | hv <;> exact ⟨_, hv⟩))) rfl (Nat.le_of_ble_eq_true rfl) dL_law_750 hP hS hl (lw_use rfl (by decide) ⟨rfl, sp_f _, sp_f _, trivial⟩ hok) (fun v τ1 H1 locs1 hv hP1 hS1 => ?_)
  obtain ⟨⟨x0, rfl, hr0⟩, hok1, hfr0⟩ := hv
  refine lv_pop C.1 C.2.1 dL_law_753 rfl ?_
  refine lv_aload_n C.1 C.2.1 dL_law_754 rfl (lv_at hl 1 rfl) ?_
  refine lw_arg C hS1 hl (k := 1) dL_law_755 dL_law_756 dL_law_757 dL_law_758 dL_law_759 rfl hi (by decide) ?_
  refine lw_arg C hS1 hl (k := 2) dL_law_760 dL_law_761 dL_law_762 dL_law_763 dL_law_764 rfl hi (by decide) ?_
  refine lw_call C (ix := 100) (o := 51) (As := [.int (xs (i.toNat + 1)), .int (xs (i.toNat + 2))]) (rest := []) (ci := 12) (na := 2) (pc := 765) (nX12_parts l) (by decide) (by decide) (tk_1833) (tk_120) ⟨by decide +kernel, by decide +kernel, by decide +kernel⟩ (tk_1830) (tk_1831) rfl (tk_1832) (by decide) rfl (am_ni _ _ (by intro v hv; simp at hv; first | exact ⟨_, hv⟩ | (rcases hv with hv | hv <;> exact ⟨_, hv⟩) | (rcases hv with hv | hv | hv <;> exact ⟨_, hv⟩) | (rcases hv with hv | hv | hv | hv <;> exact ⟨_, hv⟩) | (rcases hv with hv | hv | hv | hv | hv <;> exact ⟨_, hv⟩))) rfl (Nat.le_of_ble_eq_true rfl) dL_law_765 hP1 hS1 hl (lw_use rfl (by decide) ⟨rfl, sp_f _, sp_f _, trivial⟩ hok1) (fun v τ11 H11 locs11 hv hP11 hS11 => ?_)
  obtain ⟨⟨x1, rfl, hr1⟩, hok11, hfr1⟩ := hv
  refine lv_pop C.1 C.2.1 dL_law_768 rfl ?_
  refine lv_goto (tgt := 1371) C.1 C.2.1 dL_law_769 rfl ?_
  exact back _ _ _ ⟨hok11, RLt_fr hokR.2 hfr0 hfr1 (by decide +kernel) (by decide +kernel)⟩ hP11 hS11
set_option maxRecDepth 100000 in
theorem lw_c20 {p : Program} {l : Launch} {e : Env} {s : State} {m : MethodId} {below : List Frame} {meth : Method} {c : Code} {D : va_G} {aC : Nat → ClassId} {b L : Nat} {xs : Nat → Int32} (C : lw_K p s m c D aC b L xs) {i : Int} (hi : 0 ≤ i ∧ i + 6 ≤ (L : Int) ∧ L ≤ 3072) {σ : am_S} {H : Heap} {locs : List Loc} {lc : Array Slot} (hokR : okR σ) (hP : va_P D vwCl (am_ws SH KF s.heap.size aC 92 σ) H) (hS : va_S (fun q => s.heap.size ≤ q) s.heap H locs) (hl : lv_has lc 4 [(3, .int (Int32.ofInt i)), (2, .ref (s.heap.size + 51)), (1, .ref (s.heap.size + 0)), (0, .ref b)])
    (back : ∀ (τ : am_S) (H : Heap) (locs : List Loc), okR τ → va_P D vwCl (am_ws SH KF s.heap.size aC 92 τ) H → va_S (fun q => s.heap.size ≤ q) s.heap H locs → W p l e room_1 s m #[Value.ref b] below meth c H locs (92 - 0) (am_sz SH KF 92 - am_sz SH KF 0) (lw_Z below #[Value.ref b] s) (F0 m 1371 lc [])) : W p l e room_1 s m #[Value.ref b] below meth c H locs (92 - 0) (am_sz SH KF 92 - am_sz SH KF 0) (lw_Z below #[Value.ref b] s) (F0 m 772 lc []) := by
  have hok : okS σ := hokR.1
  refine lv_aload_n C.1 C.2.1 dL_law_772 rfl (lv_at hl 2 rfl) ?_
  refine lw_arg C hS hl (k := 1) dL_law_773 dL_law_774 dL_law_775 dL_law_776 dL_law_777 rfl hi (by decide) ?_
  refine lw_arg C hS hl (k := 2) dL_law_778 dL_law_779 dL_law_780 dL_law_781 dL_law_782 rfl hi (by decide) ?_
  refine lw_call C (ix := 101) (o := 0) (As := [.int (xs (i.toNat + 1)), .int (xs (i.toNat + 2))]) (rest := []) (ci := 11) (na := 2) (pc := 783) (nX11_least l) (by decide) (by decide) (tk_1105) (tk_103) ⟨by decide +kernel, by decide +kernel, by decide +kernel⟩ (tk_1102) (tk_1103) rfl (tk_1104) (by decide) rfl (am_ni _ _ (by intro v hv; simp at hv; first | exact ⟨_, hv⟩ | (rcases hv with hv | hv <;> exact ⟨_, hv⟩) | (rcases hv with hv | hv | hv <;> exact ⟨_, hv⟩) | (rcases hv with hv | hv | hv | hv <;> exact ⟨_, hv⟩) | (rcases hv with hv | hv | hv | hv | hv <;> exact ⟨_, hv⟩))) rfl (Nat.le_of_ble_eq_true rfl) dL_law_783 hP hS hl (lw_use rfl (by decide) ⟨rfl, sp_f _, sp_f _, trivial⟩ hok) (fun v τ1 H1 locs1 hv hP1 hS1 => ?_)
  obtain ⟨⟨x0, rfl, hr0⟩, hok1, hfr0⟩ := hv
  refine lv_pop C.1 C.2.1 dL_law_786 rfl ?_
  refine lv_aload_n C.1 C.2.1 dL_law_787 rfl (lv_at hl 1 rfl) ?_
  refine lw_arg C hS1 hl (k := 1) dL_law_788 dL_law_789 dL_law_790 dL_law_791 dL_law_792 rfl hi (by decide) ?_
  refine lw_arg C hS1 hl (k := 2) dL_law_793 dL_law_794 dL_law_795 dL_law_796 dL_law_797 rfl hi (by decide) ?_
  refine lw_call C (ix := 104) (o := 51) (As := [.int (xs (i.toNat + 1)), .int (xs (i.toNat + 2))]) (rest := []) (ci := 12) (na := 2) (pc := 798) (nX12_least l) (by decide) (by decide) (tk_1844) (tk_120) ⟨by decide +kernel, by decide +kernel, by decide +kernel⟩ (tk_1841) (tk_1842) rfl (tk_1843) (by decide) rfl (am_ni _ _ (by intro v hv; simp at hv; first | exact ⟨_, hv⟩ | (rcases hv with hv | hv <;> exact ⟨_, hv⟩) | (rcases hv with hv | hv | hv <;> exact ⟨_, hv⟩) | (rcases hv with hv | hv | hv | hv <;> exact ⟨_, hv⟩) | (rcases hv with hv | hv | hv | hv | hv <;> exact ⟨_, hv⟩))) rfl (Nat.le_of_ble_eq_true rfl) dL_law_798 hP1 hS1 hl (lw_use rfl (by decide) ⟨rfl, sp_f _, sp_f _, trivial⟩ hok1) (fun v τ11 H11 locs11 hv hP11 hS11 => ?_)
  obtain ⟨⟨x1, rfl, hr1⟩, hok11, hfr1⟩ := hv
  refine lv_pop C.1 C.2.1 dL_law_801 rfl ?_
  refine lv_goto (tgt := 1371) C.1 C.2.1 dL_law_802 rfl ?_
  exact back _ _ _ ⟨hok11, RLt_fr hokR.2 hfr0 hfr1 (by decide +kernel) (by decide +kernel)⟩ hP11 hS11
set_option maxRecDepth 100000 in
theorem lw_c21 {p : Program} {l : Launch} {e : Env} {s : State} {m : MethodId} {below : List Frame} {meth : Method} {c : Code} {D : va_G} {aC : Nat → ClassId} {b L : Nat} {xs : Nat → Int32} (C : lw_K p s m c D aC b L xs) {i : Int} (hi : 0 ≤ i ∧ i + 6 ≤ (L : Int) ∧ L ≤ 3072) {σ : am_S} {H : Heap} {locs : List Loc} {lc : Array Slot} (hokR : okR σ) (hP : va_P D vwCl (am_ws SH KF s.heap.size aC 92 σ) H) (hS : va_S (fun q => s.heap.size ≤ q) s.heap H locs) (hl : lv_has lc 4 [(3, .int (Int32.ofInt i)), (2, .ref (s.heap.size + 51)), (1, .ref (s.heap.size + 0)), (0, .ref b)])
    (back : ∀ (τ : am_S) (H : Heap) (locs : List Loc), okR τ → va_P D vwCl (am_ws SH KF s.heap.size aC 92 τ) H → va_S (fun q => s.heap.size ≤ q) s.heap H locs → W p l e room_1 s m #[Value.ref b] below meth c H locs (92 - 0) (am_sz SH KF 92 - am_sz SH KF 0) (lw_Z below #[Value.ref b] s) (F0 m 1371 lc [])) : W p l e room_1 s m #[Value.ref b] below meth c H locs (92 - 0) (am_sz SH KF 92 - am_sz SH KF 0) (lw_Z below #[Value.ref b] s) (F0 m 805 lc []) := by
  have hok : okS σ := hokR.1
  refine lv_aload_n C.1 C.2.1 dL_law_805 rfl (lv_at hl 2 rfl) ?_
  refine lw_arg C hS hl (k := 1) dL_law_806 dL_law_807 dL_law_808 dL_law_809 dL_law_810 rfl hi (by decide) ?_
  refine lw_arg C hS hl (k := 2) dL_law_811 dL_law_812 dL_law_813 dL_law_814 dL_law_815 rfl hi (by decide) ?_
  refine lw_call C (ix := 105) (o := 0) (As := [.int (xs (i.toNat + 1)), .int (xs (i.toNat + 2))]) (rest := []) (ci := 11) (na := 2) (pc := 816) (nX11_homes l) (by decide) (by decide) (tk_1114) (tk_103) ⟨by decide +kernel, by decide +kernel, by decide +kernel⟩ (tk_1111) (tk_1112) rfl (tk_1113) (by decide) rfl (am_ni _ _ (by intro v hv; simp at hv; first | exact ⟨_, hv⟩ | (rcases hv with hv | hv <;> exact ⟨_, hv⟩) | (rcases hv with hv | hv | hv <;> exact ⟨_, hv⟩) | (rcases hv with hv | hv | hv | hv <;> exact ⟨_, hv⟩) | (rcases hv with hv | hv | hv | hv | hv <;> exact ⟨_, hv⟩))) rfl (Nat.le_of_ble_eq_true rfl) dL_law_816 hP hS hl (lw_use rfl (by decide) ⟨rfl, sp_f _, sp_f _, trivial⟩ hok) (fun v τ1 H1 locs1 hv hP1 hS1 => ?_)
  obtain ⟨⟨x0, rfl, hr0⟩, hok1, hfr0⟩ := hv
  refine lv_pop C.1 C.2.1 dL_law_819 rfl ?_
  refine lv_aload_n C.1 C.2.1 dL_law_820 rfl (lv_at hl 1 rfl) ?_
  refine lw_arg C hS1 hl (k := 1) dL_law_821 dL_law_822 dL_law_823 dL_law_824 dL_law_825 rfl hi (by decide) ?_
  refine lw_arg C hS1 hl (k := 2) dL_law_826 dL_law_827 dL_law_828 dL_law_829 dL_law_830 rfl hi (by decide) ?_
  refine lw_call C (ix := 108) (o := 51) (As := [.int (xs (i.toNat + 1)), .int (xs (i.toNat + 2))]) (rest := []) (ci := 12) (na := 2) (pc := 831) (nX12_homes l) (by decide) (by decide) (tk_1848) (tk_120) ⟨by decide +kernel, by decide +kernel, by decide +kernel⟩ (tk_1845) (tk_1846) rfl (tk_1847) (by decide) rfl (am_ni _ _ (by intro v hv; simp at hv; first | exact ⟨_, hv⟩ | (rcases hv with hv | hv <;> exact ⟨_, hv⟩) | (rcases hv with hv | hv | hv <;> exact ⟨_, hv⟩) | (rcases hv with hv | hv | hv | hv <;> exact ⟨_, hv⟩) | (rcases hv with hv | hv | hv | hv | hv <;> exact ⟨_, hv⟩))) rfl (Nat.le_of_ble_eq_true rfl) dL_law_831 hP1 hS1 hl (lw_use rfl (by decide) ⟨rfl, sp_f _, sp_f _, trivial⟩ hok1) (fun v τ11 H11 locs11 hv hP11 hS11 => ?_)
  obtain ⟨⟨x1, rfl, hr1⟩, hok11, hfr1⟩ := hv
  refine lv_pop C.1 C.2.1 dL_law_834 rfl ?_
  refine lv_goto (tgt := 1371) C.1 C.2.1 dL_law_835 rfl ?_
  exact back _ _ _ ⟨hok11, RLt_fr hokR.2 hfr0 hfr1 (by decide +kernel) (by decide +kernel)⟩ hP11 hS11
set_option maxRecDepth 100000 in
theorem lw_c22 {p : Program} {l : Launch} {e : Env} {s : State} {m : MethodId} {below : List Frame} {meth : Method} {c : Code} {D : va_G} {aC : Nat → ClassId} {b L : Nat} {xs : Nat → Int32} (C : lw_K p s m c D aC b L xs) {i : Int} (hi : 0 ≤ i ∧ i + 6 ≤ (L : Int) ∧ L ≤ 3072) {σ : am_S} {H : Heap} {locs : List Loc} {lc : Array Slot} (hokR : okR σ) (hP : va_P D vwCl (am_ws SH KF s.heap.size aC 92 σ) H) (hS : va_S (fun q => s.heap.size ≤ q) s.heap H locs) (hl : lv_has lc 4 [(3, .int (Int32.ofInt i)), (2, .ref (s.heap.size + 51)), (1, .ref (s.heap.size + 0)), (0, .ref b)])
    (back : ∀ (τ : am_S) (H : Heap) (locs : List Loc), okR τ → va_P D vwCl (am_ws SH KF s.heap.size aC 92 τ) H → va_S (fun q => s.heap.size ≤ q) s.heap H locs → W p l e room_1 s m #[Value.ref b] below meth c H locs (92 - 0) (am_sz SH KF 92 - am_sz SH KF 0) (lw_Z below #[Value.ref b] s) (F0 m 1371 lc [])) : W p l e room_1 s m #[Value.ref b] below meth c H locs (92 - 0) (am_sz SH KF 92 - am_sz SH KF 0) (lw_Z below #[Value.ref b] s) (F0 m 838 lc []) := by
  have hok : okS σ := hokR.1
  refine lv_aload_n C.1 C.2.1 dL_law_838 rfl (lv_at hl 2 rfl) ?_
  refine lw_arg C hS hl (k := 1) dL_law_839 dL_law_840 dL_law_841 dL_law_842 dL_law_843 rfl hi (by decide) ?_
  refine lw_arg C hS hl (k := 2) dL_law_844 dL_law_845 dL_law_846 dL_law_847 dL_law_848 rfl hi (by decide) ?_
  refine lw_call C (ix := 109) (o := 0) (As := [.int (xs (i.toNat + 1)), .int (xs (i.toNat + 2))]) (rest := []) (ci := 11) (na := 2) (pc := 849) (nX11_share l) (by decide) (by decide) (tk_1180) (tk_103) ⟨by decide +kernel, by decide +kernel, by decide +kernel⟩ (tk_1177) (tk_1178) rfl (tk_1179) (by decide) rfl (am_ni _ _ (by intro v hv; simp at hv; first | exact ⟨_, hv⟩ | (rcases hv with hv | hv <;> exact ⟨_, hv⟩) | (rcases hv with hv | hv | hv <;> exact ⟨_, hv⟩) | (rcases hv with hv | hv | hv | hv <;> exact ⟨_, hv⟩) | (rcases hv with hv | hv | hv | hv | hv <;> exact ⟨_, hv⟩))) rfl (Nat.le_of_ble_eq_true rfl) dL_law_849 hP hS hl (lw_use rfl (by decide) ⟨rfl, sp_f _, sp_f _, trivial⟩ hok) (fun v τ1 H1 locs1 hv hP1 hS1 => ?_)
  obtain ⟨⟨x0, rfl, hr0⟩, hok1, hfr0⟩ := hv
  refine lv_pop C.1 C.2.1 dL_law_852 rfl ?_
  refine lv_aload_n C.1 C.2.1 dL_law_853 rfl (lv_at hl 1 rfl) ?_
  refine lw_arg C hS1 hl (k := 1) dL_law_854 dL_law_855 dL_law_856 dL_law_857 dL_law_858 rfl hi (by decide) ?_
  refine lw_arg C hS1 hl (k := 2) dL_law_859 dL_law_860 dL_law_861 dL_law_862 dL_law_863 rfl hi (by decide) ?_
  refine lw_call C (ix := 112) (o := 51) (As := [.int (xs (i.toNat + 1)), .int (xs (i.toNat + 2))]) (rest := []) (ci := 12) (na := 2) (pc := 864) (nX12_share l) (by decide) (by decide) (tk_1860) (tk_120) ⟨by decide +kernel, by decide +kernel, by decide +kernel⟩ (tk_1857) (tk_1858) rfl (tk_1859) (by decide) rfl (am_ni _ _ (by intro v hv; simp at hv; first | exact ⟨_, hv⟩ | (rcases hv with hv | hv <;> exact ⟨_, hv⟩) | (rcases hv with hv | hv | hv <;> exact ⟨_, hv⟩) | (rcases hv with hv | hv | hv | hv <;> exact ⟨_, hv⟩) | (rcases hv with hv | hv | hv | hv | hv <;> exact ⟨_, hv⟩))) rfl (Nat.le_of_ble_eq_true rfl) dL_law_864 hP1 hS1 hl (lw_use rfl (by decide) ⟨rfl, sp_f _, sp_f _, trivial⟩ hok1) (fun v τ11 H11 locs11 hv hP11 hS11 => ?_)
  obtain ⟨⟨x1, rfl, hr1⟩, hok11, hfr1⟩ := hv
  refine lv_pop C.1 C.2.1 dL_law_867 rfl ?_
  refine lv_goto (tgt := 1371) C.1 C.2.1 dL_law_868 rfl ?_
  exact back _ _ _ ⟨hok11, RLt_fr hokR.2 hfr0 hfr1 (by decide +kernel) (by decide +kernel)⟩ hP11 hS11
set_option maxRecDepth 100000 in
theorem lw_c23 {p : Program} {l : Launch} {e : Env} {s : State} {m : MethodId} {below : List Frame} {meth : Method} {c : Code} {D : va_G} {aC : Nat → ClassId} {b L : Nat} {xs : Nat → Int32} (C : lw_K p s m c D aC b L xs) {i : Int} (hi : 0 ≤ i ∧ i + 6 ≤ (L : Int) ∧ L ≤ 3072) {σ : am_S} {H : Heap} {locs : List Loc} {lc : Array Slot} (hokR : okR σ) (hP : va_P D vwCl (am_ws SH KF s.heap.size aC 92 σ) H) (hS : va_S (fun q => s.heap.size ≤ q) s.heap H locs) (hl : lv_has lc 4 [(3, .int (Int32.ofInt i)), (2, .ref (s.heap.size + 51)), (1, .ref (s.heap.size + 0)), (0, .ref b)])
    (back : ∀ (τ : am_S) (H : Heap) (locs : List Loc), okR τ → va_P D vwCl (am_ws SH KF s.heap.size aC 92 τ) H → va_S (fun q => s.heap.size ≤ q) s.heap H locs → W p l e room_1 s m #[Value.ref b] below meth c H locs (92 - 0) (am_sz SH KF 92 - am_sz SH KF 0) (lw_Z below #[Value.ref b] s) (F0 m 1371 lc [])) : W p l e room_1 s m #[Value.ref b] below meth c H locs (92 - 0) (am_sz SH KF 92 - am_sz SH KF 0) (lw_Z below #[Value.ref b] s) (F0 m 871 lc []) := by
  have hok : okS σ := hokR.1
  refine lv_aload_n C.1 C.2.1 dL_law_871 rfl (lv_at hl 2 rfl) ?_
  refine lw_call C (ix := 113) (o := 0) (As := []) (rest := []) (ci := 11) (na := 0) (pc := 872) (nX11_enough l) (by decide) (by decide) (tk_1192) (tk_103) ⟨by decide +kernel, by decide +kernel, by decide +kernel⟩ (tk_1189) (tk_1190) rfl (tk_1191) (by decide) rfl rfl rfl (Nat.le_of_ble_eq_true rfl) dL_law_872 hP hS hl (lw_use rfl (by decide) ⟨rfl, trivial⟩ hok) (fun v τ1 H1 locs1 hv hP1 hS1 => ?_)
  obtain ⟨⟨x0, rfl, hr0⟩, hok1, hfr0⟩ := hv
  refine lv_pop C.1 C.2.1 dL_law_875 rfl ?_
  refine lv_aload_n C.1 C.2.1 dL_law_876 rfl (lv_at hl 1 rfl) ?_
  refine lw_call C (ix := 116) (o := 51) (As := []) (rest := []) (ci := 12) (na := 0) (pc := 877) (nX12_enough l) (by decide) (by decide) (tk_1864) (tk_120) ⟨by decide +kernel, by decide +kernel, by decide +kernel⟩ (tk_1861) (tk_1862) rfl (tk_1863) (by decide) rfl rfl rfl (Nat.le_of_ble_eq_true rfl) dL_law_877 hP1 hS1 hl (lw_use rfl (by decide) ⟨rfl, trivial⟩ hok1) (fun v τ11 H11 locs11 hv hP11 hS11 => ?_)
  obtain ⟨⟨x1, rfl, hr1⟩, hok11, hfr1⟩ := hv
  refine lv_pop C.1 C.2.1 dL_law_880 rfl ?_
  refine lv_goto (tgt := 1371) C.1 C.2.1 dL_law_881 rfl ?_
  exact back _ _ _ ⟨hok11, RLt_fr hokR.2 hfr0 hfr1 (by decide +kernel) (by decide +kernel)⟩ hP11 hS11
set_option maxRecDepth 100000 in
theorem lw_c24 {p : Program} {l : Launch} {e : Env} {s : State} {m : MethodId} {below : List Frame} {meth : Method} {c : Code} {D : va_G} {aC : Nat → ClassId} {b L : Nat} {xs : Nat → Int32} (C : lw_K p s m c D aC b L xs) {i : Int} (hi : 0 ≤ i ∧ i + 6 ≤ (L : Int) ∧ L ≤ 3072) {σ : am_S} {H : Heap} {locs : List Loc} {lc : Array Slot} (hokR : okR σ) (hP : va_P D vwCl (am_ws SH KF s.heap.size aC 92 σ) H) (hS : va_S (fun q => s.heap.size ≤ q) s.heap H locs) (hl : lv_has lc 4 [(3, .int (Int32.ofInt i)), (2, .ref (s.heap.size + 51)), (1, .ref (s.heap.size + 0)), (0, .ref b)])
    (back : ∀ (τ : am_S) (H : Heap) (locs : List Loc), okR τ → va_P D vwCl (am_ws SH KF s.heap.size aC 92 τ) H → va_S (fun q => s.heap.size ≤ q) s.heap H locs → W p l e room_1 s m #[Value.ref b] below meth c H locs (92 - 0) (am_sz SH KF 92 - am_sz SH KF 0) (lw_Z below #[Value.ref b] s) (F0 m 1371 lc [])) : W p l e room_1 s m #[Value.ref b] below meth c H locs (92 - 0) (am_sz SH KF 92 - am_sz SH KF 0) (lw_Z below #[Value.ref b] s) (F0 m 884 lc []) := by
  have hok : okS σ := hokR.1
  refine lv_aload_n C.1 C.2.1 dL_law_884 rfl (lv_at hl 2 rfl) ?_
  refine lw_arg C hS hl (k := 1) dL_law_885 dL_law_886 dL_law_887 dL_law_888 dL_law_889 rfl hi (by decide) ?_
  refine lw_arg C hS hl (k := 2) dL_law_890 dL_law_891 dL_law_892 dL_law_893 dL_law_894 rfl hi (by decide) ?_
  refine lw_call C (ix := 117) (o := 0) (As := [.int (xs (i.toNat + 1)), .int (xs (i.toNat + 2))]) (rest := []) (ci := 11) (na := 2) (pc := 895) (nX11_news l) (by decide) (by decide) (tk_1136) (tk_103) ⟨by decide +kernel, by decide +kernel, by decide +kernel⟩ (tk_1133) (tk_1134) rfl (tk_1135) (by decide) rfl (am_ni _ _ (by intro v hv; simp at hv; first | exact ⟨_, hv⟩ | (rcases hv with hv | hv <;> exact ⟨_, hv⟩) | (rcases hv with hv | hv | hv <;> exact ⟨_, hv⟩) | (rcases hv with hv | hv | hv | hv <;> exact ⟨_, hv⟩) | (rcases hv with hv | hv | hv | hv | hv <;> exact ⟨_, hv⟩))) rfl (Nat.le_of_ble_eq_true rfl) dL_law_895 hP hS hl (lw_use rfl (by decide) ⟨rfl, sp_f _, sp_f _, trivial⟩ hok) (fun v τ1 H1 locs1 hv hP1 hS1 => ?_)
  obtain ⟨⟨x0, rfl, hr0⟩, hok1, hfr0⟩ := hv
  refine lv_pop C.1 C.2.1 dL_law_898 rfl ?_
  refine lv_aload_n C.1 C.2.1 dL_law_899 rfl (lv_at hl 1 rfl) ?_
  refine lw_arg C hS1 hl (k := 1) dL_law_900 dL_law_901 dL_law_902 dL_law_903 dL_law_904 rfl hi (by decide) ?_
  refine lw_arg C hS1 hl (k := 2) dL_law_905 dL_law_906 dL_law_907 dL_law_908 dL_law_909 rfl hi (by decide) ?_
  refine lw_call C (ix := 120) (o := 51) (As := [.int (xs (i.toNat + 1)), .int (xs (i.toNat + 2))]) (rest := []) (ci := 12) (na := 2) (pc := 910) (nX12_news l) (by decide) (by decide) (tk_1868) (tk_120) ⟨by decide +kernel, by decide +kernel, by decide +kernel⟩ (tk_1865) (tk_1866) rfl (tk_1867) (by decide) rfl (am_ni _ _ (by intro v hv; simp at hv; first | exact ⟨_, hv⟩ | (rcases hv with hv | hv <;> exact ⟨_, hv⟩) | (rcases hv with hv | hv | hv <;> exact ⟨_, hv⟩) | (rcases hv with hv | hv | hv | hv <;> exact ⟨_, hv⟩) | (rcases hv with hv | hv | hv | hv | hv <;> exact ⟨_, hv⟩))) rfl (Nat.le_of_ble_eq_true rfl) dL_law_910 hP1 hS1 hl (lw_use rfl (by decide) ⟨rfl, sp_f _, sp_f _, trivial⟩ hok1) (fun v τ11 H11 locs11 hv hP11 hS11 => ?_)
  obtain ⟨⟨x1, rfl, hr1⟩, hok11, hfr1⟩ := hv
  refine lv_pop C.1 C.2.1 dL_law_913 rfl ?_
  refine lv_goto (tgt := 1371) C.1 C.2.1 dL_law_914 rfl ?_
  exact back _ _ _ ⟨hok11, RLt_fr hokR.2 hfr0 hfr1 (by decide +kernel) (by decide +kernel)⟩ hP11 hS11
set_option maxRecDepth 100000 in
theorem lw_c25 {p : Program} {l : Launch} {e : Env} {s : State} {m : MethodId} {below : List Frame} {meth : Method} {c : Code} {D : va_G} {aC : Nat → ClassId} {b L : Nat} {xs : Nat → Int32} (C : lw_K p s m c D aC b L xs) {i : Int} (hi : 0 ≤ i ∧ i + 6 ≤ (L : Int) ∧ L ≤ 3072) {σ : am_S} {H : Heap} {locs : List Loc} {lc : Array Slot} (hokR : okR σ) (hP : va_P D vwCl (am_ws SH KF s.heap.size aC 92 σ) H) (hS : va_S (fun q => s.heap.size ≤ q) s.heap H locs) (hl : lv_has lc 4 [(3, .int (Int32.ofInt i)), (2, .ref (s.heap.size + 51)), (1, .ref (s.heap.size + 0)), (0, .ref b)])
    (back : ∀ (τ : am_S) (H : Heap) (locs : List Loc), okR τ → va_P D vwCl (am_ws SH KF s.heap.size aC 92 τ) H → va_S (fun q => s.heap.size ≤ q) s.heap H locs → W p l e room_1 s m #[Value.ref b] below meth c H locs (92 - 0) (am_sz SH KF 92 - am_sz SH KF 0) (lw_Z below #[Value.ref b] s) (F0 m 1371 lc [])) : W p l e room_1 s m #[Value.ref b] below meth c H locs (92 - 0) (am_sz SH KF 92 - am_sz SH KF 0) (lw_Z below #[Value.ref b] s) (F0 m 917 lc []) := by
  have hok : okS σ := hokR.1
  refine lv_aload_n C.1 C.2.1 dL_law_917 rfl (lv_at hl 2 rfl) ?_
  refine lw_arg C hS hl (k := 1) dL_law_918 dL_law_919 dL_law_920 dL_law_921 dL_law_922 rfl hi (by decide) ?_
  refine lw_call C (ix := 121) (o := 0) (As := [.int (xs (i.toNat + 1))]) (rest := []) (ci := 11) (na := 1) (pc := 923) (nX11_pairs l) (by decide) (by decide) (tk_1152) (tk_103) ⟨by decide +kernel, by decide +kernel, by decide +kernel⟩ (tk_1149) (tk_1150) rfl (tk_1151) (by decide) rfl (am_ni _ _ (by intro v hv; simp at hv; first | exact ⟨_, hv⟩ | (rcases hv with hv | hv <;> exact ⟨_, hv⟩) | (rcases hv with hv | hv | hv <;> exact ⟨_, hv⟩) | (rcases hv with hv | hv | hv | hv <;> exact ⟨_, hv⟩) | (rcases hv with hv | hv | hv | hv | hv <;> exact ⟨_, hv⟩))) rfl (Nat.le_of_ble_eq_true rfl) dL_law_923 hP hS hl (lw_use rfl (by decide) ⟨rfl, sp_f _, trivial⟩ hok) (fun v τ1 H1 locs1 hv hP1 hS1 => ?_)
  obtain ⟨⟨x0, rfl, hr0⟩, hok1, hfr0⟩ := hv
  refine lv_pop C.1 C.2.1 dL_law_926 rfl ?_
  refine lv_aload_n C.1 C.2.1 dL_law_927 rfl (lv_at hl 1 rfl) ?_
  refine lw_arg C hS1 hl (k := 1) dL_law_928 dL_law_929 dL_law_930 dL_law_931 dL_law_932 rfl hi (by decide) ?_
  refine lw_call C (ix := 124) (o := 51) (As := [.int (xs (i.toNat + 1))]) (rest := []) (ci := 12) (na := 1) (pc := 933) (nX12_pairs l) (by decide) (by decide) (tk_1872) (tk_120) ⟨by decide +kernel, by decide +kernel, by decide +kernel⟩ (tk_1869) (tk_1870) rfl (tk_1871) (by decide) rfl (am_ni _ _ (by intro v hv; simp at hv; first | exact ⟨_, hv⟩ | (rcases hv with hv | hv <;> exact ⟨_, hv⟩) | (rcases hv with hv | hv | hv <;> exact ⟨_, hv⟩) | (rcases hv with hv | hv | hv | hv <;> exact ⟨_, hv⟩) | (rcases hv with hv | hv | hv | hv | hv <;> exact ⟨_, hv⟩))) rfl (Nat.le_of_ble_eq_true rfl) dL_law_933 hP1 hS1 hl (lw_use rfl (by decide) ⟨rfl, sp_f _, trivial⟩ hok1) (fun v τ11 H11 locs11 hv hP11 hS11 => ?_)
  obtain ⟨⟨x1, rfl, hr1⟩, hok11, hfr1⟩ := hv
  refine lv_pop C.1 C.2.1 dL_law_936 rfl ?_
  refine lv_goto (tgt := 1371) C.1 C.2.1 dL_law_937 rfl ?_
  exact back _ _ _ ⟨hok11, RLt_fr hokR.2 hfr0 hfr1 (by decide +kernel) (by decide +kernel)⟩ hP11 hS11
set_option maxRecDepth 100000 in
theorem lw_c26 {p : Program} {l : Launch} {e : Env} {s : State} {m : MethodId} {below : List Frame} {meth : Method} {c : Code} {D : va_G} {aC : Nat → ClassId} {b L : Nat} {xs : Nat → Int32} (C : lw_K p s m c D aC b L xs) {i : Int} (hi : 0 ≤ i ∧ i + 6 ≤ (L : Int) ∧ L ≤ 3072) {σ : am_S} {H : Heap} {locs : List Loc} {lc : Array Slot} (hokR : okR σ) (hP : va_P D vwCl (am_ws SH KF s.heap.size aC 92 σ) H) (hS : va_S (fun q => s.heap.size ≤ q) s.heap H locs) (hl : lv_has lc 4 [(3, .int (Int32.ofInt i)), (2, .ref (s.heap.size + 51)), (1, .ref (s.heap.size + 0)), (0, .ref b)])
    (back : ∀ (τ : am_S) (H : Heap) (locs : List Loc), okR τ → va_P D vwCl (am_ws SH KF s.heap.size aC 92 τ) H → va_S (fun q => s.heap.size ≤ q) s.heap H locs → W p l e room_1 s m #[Value.ref b] below meth c H locs (92 - 0) (am_sz SH KF 92 - am_sz SH KF 0) (lw_Z below #[Value.ref b] s) (F0 m 1371 lc [])) : W p l e room_1 s m #[Value.ref b] below meth c H locs (92 - 0) (am_sz SH KF 92 - am_sz SH KF 0) (lw_Z below #[Value.ref b] s) (F0 m 940 lc []) := by
  have hok : okS σ := hokR.1
  refine lv_aload_n C.1 C.2.1 dL_law_940 rfl (lv_at hl 2 rfl) ?_
  refine lw_arg C hS hl (k := 1) dL_law_941 dL_law_942 dL_law_943 dL_law_944 dL_law_945 rfl hi (by decide) ?_
  refine lw_call C (ix := 125) (o := 0) (As := [.int (xs (i.toNat + 1))]) (rest := []) (ci := 11) (na := 1) (pc := 946) (nX11_kept l) (by decide) (by decide) (tk_1163) (tk_103) ⟨by decide +kernel, by decide +kernel, by decide +kernel⟩ (tk_1160) (tk_1161) rfl (tk_1162) (by decide) rfl (am_ni _ _ (by intro v hv; simp at hv; first | exact ⟨_, hv⟩ | (rcases hv with hv | hv <;> exact ⟨_, hv⟩) | (rcases hv with hv | hv | hv <;> exact ⟨_, hv⟩) | (rcases hv with hv | hv | hv | hv <;> exact ⟨_, hv⟩) | (rcases hv with hv | hv | hv | hv | hv <;> exact ⟨_, hv⟩))) rfl (Nat.le_of_ble_eq_true rfl) dL_law_946 hP hS hl (lw_use rfl (by decide) ⟨rfl, sp_f _, trivial⟩ hok) (fun v τ1 H1 locs1 hv hP1 hS1 => ?_)
  obtain ⟨⟨x0, rfl, hr0⟩, hok1, hfr0⟩ := hv
  refine lv_pop C.1 C.2.1 dL_law_949 rfl ?_
  refine lv_aload_n C.1 C.2.1 dL_law_950 rfl (lv_at hl 1 rfl) ?_
  refine lw_arg C hS1 hl (k := 1) dL_law_951 dL_law_952 dL_law_953 dL_law_954 dL_law_955 rfl hi (by decide) ?_
  refine lw_call C (ix := 128) (o := 51) (As := [.int (xs (i.toNat + 1))]) (rest := []) (ci := 12) (na := 1) (pc := 956) (nX12_kept l) (by decide) (by decide) (tk_1876) (tk_120) ⟨by decide +kernel, by decide +kernel, by decide +kernel⟩ (tk_1873) (tk_1874) rfl (tk_1875) (by decide) rfl (am_ni _ _ (by intro v hv; simp at hv; first | exact ⟨_, hv⟩ | (rcases hv with hv | hv <;> exact ⟨_, hv⟩) | (rcases hv with hv | hv | hv <;> exact ⟨_, hv⟩) | (rcases hv with hv | hv | hv | hv <;> exact ⟨_, hv⟩) | (rcases hv with hv | hv | hv | hv | hv <;> exact ⟨_, hv⟩))) rfl (Nat.le_of_ble_eq_true rfl) dL_law_956 hP1 hS1 hl (lw_use rfl (by decide) ⟨rfl, sp_f _, trivial⟩ hok1) (fun v τ11 H11 locs11 hv hP11 hS11 => ?_)
  obtain ⟨⟨x1, rfl, hr1⟩, hok11, hfr1⟩ := hv
  refine lv_pop C.1 C.2.1 dL_law_959 rfl ?_
  refine lv_goto (tgt := 1371) C.1 C.2.1 dL_law_960 rfl ?_
  exact back _ _ _ ⟨hok11, RLt_fr hokR.2 hfr0 hfr1 (by decide +kernel) (by decide +kernel)⟩ hP11 hS11
set_option maxRecDepth 100000 in
theorem lw_c27 {p : Program} {l : Launch} {e : Env} {s : State} {m : MethodId} {below : List Frame} {meth : Method} {c : Code} {D : va_G} {aC : Nat → ClassId} {b L : Nat} {xs : Nat → Int32} (C : lw_K p s m c D aC b L xs) {i : Int} (hi : 0 ≤ i ∧ i + 6 ≤ (L : Int) ∧ L ≤ 3072) {σ : am_S} {H : Heap} {locs : List Loc} {lc : Array Slot} (hokR : okR σ) (hP : va_P D vwCl (am_ws SH KF s.heap.size aC 92 σ) H) (hS : va_S (fun q => s.heap.size ≤ q) s.heap H locs) (hl : lv_has lc 4 [(3, .int (Int32.ofInt i)), (2, .ref (s.heap.size + 51)), (1, .ref (s.heap.size + 0)), (0, .ref b)])
    (back : ∀ (τ : am_S) (H : Heap) (locs : List Loc), okR τ → va_P D vwCl (am_ws SH KF s.heap.size aC 92 τ) H → va_S (fun q => s.heap.size ≤ q) s.heap H locs → W p l e room_1 s m #[Value.ref b] below meth c H locs (92 - 0) (am_sz SH KF 92 - am_sz SH KF 0) (lw_Z below #[Value.ref b] s) (F0 m 1371 lc [])) : W p l e room_1 s m #[Value.ref b] below meth c H locs (92 - 0) (am_sz SH KF 92 - am_sz SH KF 0) (lw_Z below #[Value.ref b] s) (F0 m 963 lc []) := by
  have hok : okS σ := hokR.1
  refine lv_aload_n C.1 C.2.1 dL_law_963 rfl (lv_at hl 2 rfl) ?_
  refine lw_arg C hS hl (k := 1) dL_law_964 dL_law_965 dL_law_966 dL_law_967 dL_law_968 rfl hi (by decide) ?_
  refine lw_arg C hS hl (k := 2) dL_law_969 dL_law_970 dL_law_971 dL_law_972 dL_law_973 rfl hi (by decide) ?_
  refine lw_call C (ix := 129) (o := 0) (As := [.int (xs (i.toNat + 1)), .int (xs (i.toNat + 2))]) (rest := []) (ci := 11) (na := 2) (pc := 974) (nX11_waits l) (by decide) (by decide) (tk_1221) (tk_103) ⟨by decide +kernel, by decide +kernel, by decide +kernel⟩ (tk_1218) (tk_1219) rfl (tk_1220) (by decide) rfl (am_ni _ _ (by intro v hv; simp at hv; first | exact ⟨_, hv⟩ | (rcases hv with hv | hv <;> exact ⟨_, hv⟩) | (rcases hv with hv | hv | hv <;> exact ⟨_, hv⟩) | (rcases hv with hv | hv | hv | hv <;> exact ⟨_, hv⟩) | (rcases hv with hv | hv | hv | hv | hv <;> exact ⟨_, hv⟩))) rfl (Nat.le_of_ble_eq_true rfl) dL_law_974 hP hS hl (lw_use rfl (by decide) ⟨rfl, sp_f _, sp_f _, trivial⟩ hok) (fun v τ1 H1 locs1 hv hP1 hS1 => ?_)
  obtain ⟨⟨x0, rfl, hr0⟩, hok1, hfr0⟩ := hv
  refine lv_pop C.1 C.2.1 dL_law_977 rfl ?_
  refine lv_aload_n C.1 C.2.1 dL_law_978 rfl (lv_at hl 1 rfl) ?_
  refine lw_arg C hS1 hl (k := 1) dL_law_979 dL_law_980 dL_law_981 dL_law_982 dL_law_983 rfl hi (by decide) ?_
  refine lw_arg C hS1 hl (k := 2) dL_law_984 dL_law_985 dL_law_986 dL_law_987 dL_law_988 rfl hi (by decide) ?_
  refine lw_call C (ix := 132) (o := 51) (As := [.int (xs (i.toNat + 1)), .int (xs (i.toNat + 2))]) (rest := []) (ci := 12) (na := 2) (pc := 989) (nX12_waits l) (by decide) (by decide) (tk_1880) (tk_120) ⟨by decide +kernel, by decide +kernel, by decide +kernel⟩ (tk_1877) (tk_1878) rfl (tk_1879) (by decide) rfl (am_ni _ _ (by intro v hv; simp at hv; first | exact ⟨_, hv⟩ | (rcases hv with hv | hv <;> exact ⟨_, hv⟩) | (rcases hv with hv | hv | hv <;> exact ⟨_, hv⟩) | (rcases hv with hv | hv | hv | hv <;> exact ⟨_, hv⟩) | (rcases hv with hv | hv | hv | hv | hv <;> exact ⟨_, hv⟩))) rfl (Nat.le_of_ble_eq_true rfl) dL_law_989 hP1 hS1 hl (lw_use rfl (by decide) ⟨rfl, sp_f _, sp_f _, trivial⟩ hok1) (fun v τ11 H11 locs11 hv hP11 hS11 => ?_)
  obtain ⟨⟨x1, rfl, hr1⟩, hok11, hfr1⟩ := hv
  refine lv_pop C.1 C.2.1 dL_law_992 rfl ?_
  refine lv_goto (tgt := 1371) C.1 C.2.1 dL_law_993 rfl ?_
  exact back _ _ _ ⟨hok11, RLt_fr hokR.2 hfr0 hfr1 (by decide +kernel) (by decide +kernel)⟩ hP11 hS11
set_option maxRecDepth 100000 in
theorem lw_c28 {p : Program} {l : Launch} {e : Env} {s : State} {m : MethodId} {below : List Frame} {meth : Method} {c : Code} {D : va_G} {aC : Nat → ClassId} {b L : Nat} {xs : Nat → Int32} (C : lw_K p s m c D aC b L xs) {i : Int} (hi : 0 ≤ i ∧ i + 6 ≤ (L : Int) ∧ L ≤ 3072) {σ : am_S} {H : Heap} {locs : List Loc} {lc : Array Slot} (hokR : okR σ) (hP : va_P D vwCl (am_ws SH KF s.heap.size aC 92 σ) H) (hS : va_S (fun q => s.heap.size ≤ q) s.heap H locs) (hl : lv_has lc 4 [(3, .int (Int32.ofInt i)), (2, .ref (s.heap.size + 51)), (1, .ref (s.heap.size + 0)), (0, .ref b)])
    (back : ∀ (τ : am_S) (H : Heap) (locs : List Loc), okR τ → va_P D vwCl (am_ws SH KF s.heap.size aC 92 τ) H → va_S (fun q => s.heap.size ≤ q) s.heap H locs → W p l e room_1 s m #[Value.ref b] below meth c H locs (92 - 0) (am_sz SH KF 92 - am_sz SH KF 0) (lw_Z below #[Value.ref b] s) (F0 m 1371 lc [])) : W p l e room_1 s m #[Value.ref b] below meth c H locs (92 - 0) (am_sz SH KF 92 - am_sz SH KF 0) (lw_Z below #[Value.ref b] s) (F0 m 996 lc []) := by
  have hok : okS σ := hokR.1
  refine lv_aload_n C.1 C.2.1 dL_law_996 rfl (lv_at hl 2 rfl) ?_
  refine lw_arg C hS hl (k := 1) dL_law_997 dL_law_998 dL_law_999 dL_law_1000 dL_law_1001 rfl hi (by decide) ?_
  refine lw_arg C hS hl (k := 2) dL_law_1002 dL_law_1003 dL_law_1004 dL_law_1005 dL_law_1006 rfl hi (by decide) ?_
  refine lw_call C (ix := 133) (o := 0) (As := [.int (xs (i.toNat + 1)), .int (xs (i.toNat + 2))]) (rest := []) (ci := 11) (na := 2) (pc := 1007) (nX11_crowd l) (by decide) (by decide) (tk_1233) (tk_103) ⟨by decide +kernel, by decide +kernel, by decide +kernel⟩ (tk_1230) (tk_1231) rfl (tk_1232) (by decide) rfl (am_ni _ _ (by intro v hv; simp at hv; first | exact ⟨_, hv⟩ | (rcases hv with hv | hv <;> exact ⟨_, hv⟩) | (rcases hv with hv | hv | hv <;> exact ⟨_, hv⟩) | (rcases hv with hv | hv | hv | hv <;> exact ⟨_, hv⟩) | (rcases hv with hv | hv | hv | hv | hv <;> exact ⟨_, hv⟩))) rfl (Nat.le_of_ble_eq_true rfl) dL_law_1007 hP hS hl (lw_use rfl (by decide) ⟨rfl, sp_f _, sp_f _, trivial⟩ hok) (fun v τ1 H1 locs1 hv hP1 hS1 => ?_)
  obtain ⟨⟨x0, rfl, hr0⟩, hok1, hfr0⟩ := hv
  refine lv_pop C.1 C.2.1 dL_law_1010 rfl ?_
  refine lv_aload_n C.1 C.2.1 dL_law_1011 rfl (lv_at hl 1 rfl) ?_
  refine lw_arg C hS1 hl (k := 1) dL_law_1012 dL_law_1013 dL_law_1014 dL_law_1015 dL_law_1016 rfl hi (by decide) ?_
  refine lw_arg C hS1 hl (k := 2) dL_law_1017 dL_law_1018 dL_law_1019 dL_law_1020 dL_law_1021 rfl hi (by decide) ?_
  refine lw_call C (ix := 136) (o := 51) (As := [.int (xs (i.toNat + 1)), .int (xs (i.toNat + 2))]) (rest := []) (ci := 12) (na := 2) (pc := 1022) (nX12_crowd l) (by decide) (by decide) (tk_1884) (tk_120) ⟨by decide +kernel, by decide +kernel, by decide +kernel⟩ (tk_1881) (tk_1882) rfl (tk_1883) (by decide) rfl (am_ni _ _ (by intro v hv; simp at hv; first | exact ⟨_, hv⟩ | (rcases hv with hv | hv <;> exact ⟨_, hv⟩) | (rcases hv with hv | hv | hv <;> exact ⟨_, hv⟩) | (rcases hv with hv | hv | hv | hv <;> exact ⟨_, hv⟩) | (rcases hv with hv | hv | hv | hv | hv <;> exact ⟨_, hv⟩))) rfl (Nat.le_of_ble_eq_true rfl) dL_law_1022 hP1 hS1 hl (lw_use rfl (by decide) ⟨rfl, sp_f _, sp_f _, trivial⟩ hok1) (fun v τ11 H11 locs11 hv hP11 hS11 => ?_)
  obtain ⟨⟨x1, rfl, hr1⟩, hok11, hfr1⟩ := hv
  refine lv_pop C.1 C.2.1 dL_law_1025 rfl ?_
  refine lv_goto (tgt := 1371) C.1 C.2.1 dL_law_1026 rfl ?_
  exact back _ _ _ ⟨hok11, RLt_fr hokR.2 hfr0 hfr1 (by decide +kernel) (by decide +kernel)⟩ hP11 hS11
set_option maxRecDepth 100000 in
theorem lw_c29 {p : Program} {l : Launch} {e : Env} {s : State} {m : MethodId} {below : List Frame} {meth : Method} {c : Code} {D : va_G} {aC : Nat → ClassId} {b L : Nat} {xs : Nat → Int32} (C : lw_K p s m c D aC b L xs) {i : Int} (hi : 0 ≤ i ∧ i + 6 ≤ (L : Int) ∧ L ≤ 3072) {σ : am_S} {H : Heap} {locs : List Loc} {lc : Array Slot} (hokR : okR σ) (hP : va_P D vwCl (am_ws SH KF s.heap.size aC 92 σ) H) (hS : va_S (fun q => s.heap.size ≤ q) s.heap H locs) (hl : lv_has lc 4 [(3, .int (Int32.ofInt i)), (2, .ref (s.heap.size + 51)), (1, .ref (s.heap.size + 0)), (0, .ref b)])
    (back : ∀ (τ : am_S) (H : Heap) (locs : List Loc), okR τ → va_P D vwCl (am_ws SH KF s.heap.size aC 92 τ) H → va_S (fun q => s.heap.size ≤ q) s.heap H locs → W p l e room_1 s m #[Value.ref b] below meth c H locs (92 - 0) (am_sz SH KF 92 - am_sz SH KF 0) (lw_Z below #[Value.ref b] s) (F0 m 1371 lc [])) : W p l e room_1 s m #[Value.ref b] below meth c H locs (92 - 0) (am_sz SH KF 92 - am_sz SH KF 0) (lw_Z below #[Value.ref b] s) (F0 m 1029 lc []) := by
  have hok : okS σ := hokR.1
  refine lv_aload_n C.1 C.2.1 dL_law_1029 rfl (lv_at hl 2 rfl) ?_
  refine lw_arg C hS hl (k := 1) dL_law_1030 dL_law_1031 dL_law_1032 dL_law_1033 dL_law_1034 rfl hi (by decide) ?_
  refine lw_call C (ix := 137) (o := 0) (As := [.int (xs (i.toNat + 1))]) (rest := []) (ci := 11) (na := 1) (pc := 1035) (nX11_free l) (by decide) (by decide) (tk_1172) (tk_103) ⟨by decide +kernel, by decide +kernel, by decide +kernel⟩ (tk_1169) (tk_1170) rfl (tk_1171) (by decide) rfl (am_ni _ _ (by intro v hv; simp at hv; first | exact ⟨_, hv⟩ | (rcases hv with hv | hv <;> exact ⟨_, hv⟩) | (rcases hv with hv | hv | hv <;> exact ⟨_, hv⟩) | (rcases hv with hv | hv | hv | hv <;> exact ⟨_, hv⟩) | (rcases hv with hv | hv | hv | hv | hv <;> exact ⟨_, hv⟩))) rfl (Nat.le_of_ble_eq_true rfl) dL_law_1035 hP hS hl (lw_use rfl (by decide) ⟨rfl, sp_f _, trivial⟩ hok) (fun v τ1 H1 locs1 hv hP1 hS1 => ?_)
  obtain ⟨⟨x0, rfl, hr0⟩, hok1, hfr0⟩ := hv
  refine lv_pop C.1 C.2.1 dL_law_1038 rfl ?_
  refine lv_aload_n C.1 C.2.1 dL_law_1039 rfl (lv_at hl 1 rfl) ?_
  refine lw_arg C hS1 hl (k := 1) dL_law_1040 dL_law_1041 dL_law_1042 dL_law_1043 dL_law_1044 rfl hi (by decide) ?_
  refine lw_call C (ix := 140) (o := 51) (As := [.int (xs (i.toNat + 1))]) (rest := []) (ci := 12) (na := 1) (pc := 1045) (nX12_free l) (by decide) (by decide) (tk_1888) (tk_120) ⟨by decide +kernel, by decide +kernel, by decide +kernel⟩ (tk_1885) (tk_1886) rfl (tk_1887) (by decide) rfl (am_ni _ _ (by intro v hv; simp at hv; first | exact ⟨_, hv⟩ | (rcases hv with hv | hv <;> exact ⟨_, hv⟩) | (rcases hv with hv | hv | hv <;> exact ⟨_, hv⟩) | (rcases hv with hv | hv | hv | hv <;> exact ⟨_, hv⟩) | (rcases hv with hv | hv | hv | hv | hv <;> exact ⟨_, hv⟩))) rfl (Nat.le_of_ble_eq_true rfl) dL_law_1045 hP1 hS1 hl (lw_use rfl (by decide) ⟨rfl, sp_f _, trivial⟩ hok1) (fun v τ11 H11 locs11 hv hP11 hS11 => ?_)
  obtain ⟨⟨x1, rfl, hr1⟩, hok11, hfr1⟩ := hv
  refine lv_pop C.1 C.2.1 dL_law_1048 rfl ?_
  refine lv_goto (tgt := 1371) C.1 C.2.1 dL_law_1049 rfl ?_
  exact back _ _ _ ⟨hok11, RLt_fr hokR.2 hfr0 hfr1 (by decide +kernel) (by decide +kernel)⟩ hP11 hS11
