set_option maxRecDepth 100000 in
theorem lw_c30 {p : Program} {l : Launch} {e : Env} {s : State} {m : MethodId} {below : List Frame} {meth : Method} {c : Code} {D : va_G} {aC : Nat → ClassId} {b L : Nat} {xs : Nat → Int32} (C : lw_K p s m c D aC b L xs) {i : Int} (hi : 0 ≤ i ∧ i + 6 ≤ (L : Int) ∧ L ≤ 3072) {σ : am_S} {H : Heap} {locs : List Loc} {lc : Array Slot} (hokR : okR σ) (hP : va_P D vwCl (am_ws SH KF s.heap.size aC 92 σ) H) (hS : va_S (fun q => s.heap.size ≤ q) s.heap H locs) (hl : lv_has lc 4 [(3, .int (Int32.ofInt i)), (2, .ref (s.heap.size + 51)), (1, .ref (s.heap.size + 0)), (0, .ref b)])
    (back : ∀ (τ : am_S) (H : Heap) (locs : List Loc), okR τ → va_P D vwCl (am_ws SH KF s.heap.size aC 92 τ) H → va_S (fun q => s.heap.size ≤ q) s.heap H locs → W p l e room_1 s m #[Value.ref b] below meth c H locs (92 - 0) (am_sz SH KF 92 - am_sz SH KF 0) (lw_Z below #[Value.ref b] s) (F0 m 1371 lc [])) : W p l e room_1 s m #[Value.ref b] below meth c H locs (92 - 0) (am_sz SH KF 92 - am_sz SH KF 0) (lw_Z below #[Value.ref b] s) (F0 m 1052 lc []) := by
  have hok : okS σ := hokR.1
  refine lv_aload_n C.1 C.2.1 dL_law_1052 rfl (lv_at hl 2 rfl) ?_
  refine lw_arg C hS hl (k := 1) dL_law_1053 dL_law_1054 dL_law_1055 dL_law_1056 dL_law_1057 rfl hi (by decide) ?_
  refine lw_arg C hS hl (k := 2) dL_law_1058 dL_law_1059 dL_law_1060 dL_law_1061 dL_law_1062 rfl hi (by decide) ?_
  refine lw_arg C hS hl (k := 3) dL_law_1063 dL_law_1064 dL_law_1065 dL_law_1066 dL_law_1067 rfl hi (by decide) ?_
  refine lw_call C (ix := 141) (o := 0) (As := [.int (xs (i.toNat + 1)), .int (xs (i.toNat + 2)), .int (xs (i.toNat + 3))]) (rest := []) (ci := 11) (na := 3) (pc := 1068) (nX11_meet l) (by decide) (by decide) (tk_1063) (tk_103) ⟨by decide +kernel, by decide +kernel, by decide +kernel⟩ (tk_1060) (tk_1061) rfl (tk_1062) (by decide) rfl (am_ni _ _ (by intro v hv; simp at hv; first | exact ⟨_, hv⟩ | (rcases hv with hv | hv <;> exact ⟨_, hv⟩) | (rcases hv with hv | hv | hv <;> exact ⟨_, hv⟩) | (rcases hv with hv | hv | hv | hv <;> exact ⟨_, hv⟩) | (rcases hv with hv | hv | hv | hv | hv <;> exact ⟨_, hv⟩))) rfl (Nat.le_of_ble_eq_true rfl) dL_law_1068 hP hS hl (lw_use rfl (by decide) ⟨rfl, sp_f _, sp_f _, sp_f _, trivial⟩ hok) (fun v τ1 H1 locs1 hv hP1 hS1 => ?_)
  obtain ⟨⟨x0, rfl, hr0⟩, hok1, hfr0⟩ := hv
  refine lv_pop C.1 C.2.1 dL_law_1071 rfl ?_
  refine lv_aload_n C.1 C.2.1 dL_law_1072 rfl (lv_at hl 1 rfl) ?_
  refine lw_arg C hS1 hl (k := 1) dL_law_1073 dL_law_1074 dL_law_1075 dL_law_1076 dL_law_1077 rfl hi (by decide) ?_
  refine lw_arg C hS1 hl (k := 2) dL_law_1078 dL_law_1079 dL_law_1080 dL_law_1081 dL_law_1082 rfl hi (by decide) ?_
  refine lw_arg C hS1 hl (k := 3) dL_law_1083 dL_law_1084 dL_law_1085 dL_law_1086 dL_law_1087 rfl hi (by decide) ?_
  refine lw_call C (ix := 145) (o := 51) (As := [.int (xs (i.toNat + 1)), .int (xs (i.toNat + 2)), .int (xs (i.toNat + 3))]) (rest := []) (ci := 12) (na := 3) (pc := 1088) (nX12_meet l) (by decide) (by decide) (tk_1892) (tk_120) ⟨by decide +kernel, by decide +kernel, by decide +kernel⟩ (tk_1889) (tk_1890) rfl (tk_1891) (by decide) rfl (am_ni _ _ (by intro v hv; simp at hv; first | exact ⟨_, hv⟩ | (rcases hv with hv | hv <;> exact ⟨_, hv⟩) | (rcases hv with hv | hv | hv <;> exact ⟨_, hv⟩) | (rcases hv with hv | hv | hv | hv <;> exact ⟨_, hv⟩) | (rcases hv with hv | hv | hv | hv | hv <;> exact ⟨_, hv⟩))) rfl (Nat.le_of_ble_eq_true rfl) dL_law_1088 hP1 hS1 hl (lw_use rfl (by decide) ⟨rfl, sp_f _, sp_f _, sp_f _, trivial⟩ hok1) (fun v τ11 H11 locs11 hv hP11 hS11 => ?_)
  obtain ⟨⟨x1, rfl, hr1⟩, hok11, hfr1⟩ := hv
  refine lv_pop C.1 C.2.1 dL_law_1091 rfl ?_
  refine lv_goto (tgt := 1371) C.1 C.2.1 dL_law_1092 rfl ?_
  exact back _ _ _ ⟨hok11, RLt_fr hokR.2 hfr0 hfr1 (by decide +kernel) (by decide +kernel)⟩ hP11 hS11
set_option maxRecDepth 100000 in
theorem lw_c31 {p : Program} {l : Launch} {e : Env} {s : State} {m : MethodId} {below : List Frame} {meth : Method} {c : Code} {D : va_G} {aC : Nat → ClassId} {b L : Nat} {xs : Nat → Int32} (C : lw_K p s m c D aC b L xs) {i : Int} (hi : 0 ≤ i ∧ i + 6 ≤ (L : Int) ∧ L ≤ 3072) {σ : am_S} {H : Heap} {locs : List Loc} {lc : Array Slot} (hokR : okR σ) (hP : va_P D vwCl (am_ws SH KF s.heap.size aC 92 σ) H) (hS : va_S (fun q => s.heap.size ≤ q) s.heap H locs) (hl : lv_has lc 4 [(3, .int (Int32.ofInt i)), (2, .ref (s.heap.size + 51)), (1, .ref (s.heap.size + 0)), (0, .ref b)])
    (back : ∀ (τ : am_S) (H : Heap) (locs : List Loc), okR τ → va_P D vwCl (am_ws SH KF s.heap.size aC 92 τ) H → va_S (fun q => s.heap.size ≤ q) s.heap H locs → W p l e room_1 s m #[Value.ref b] below meth c H locs (92 - 0) (am_sz SH KF 92 - am_sz SH KF 0) (lw_Z below #[Value.ref b] s) (F0 m 1371 lc [])) : W p l e room_1 s m #[Value.ref b] below meth c H locs (92 - 0) (am_sz SH KF 92 - am_sz SH KF 0) (lw_Z below #[Value.ref b] s) (F0 m 1095 lc []) := by
  have hok : okS σ := hokR.1
  refine lv_aload_n C.1 C.2.1 dL_law_1095 rfl (lv_at hl 2 rfl) ?_
  refine lw_call C (ix := 146) (o := 0) (As := []) (rest := []) (ci := 11) (na := 0) (pc := 1096) (nX11_mendFirst l) (by decide) (by decide) (tk_1217) (tk_103) ⟨by decide +kernel, by decide +kernel, by decide +kernel⟩ (tk_1214) (tk_1215) rfl (tk_1216) (by decide) rfl rfl rfl (Nat.le_of_ble_eq_true rfl) dL_law_1096 hP hS hl (lw_use rfl (by decide) ⟨rfl, trivial⟩ hok) (fun v τ1 H1 locs1 hv hP1 hS1 => ?_)
  obtain ⟨⟨x0, rfl, hr0⟩, hok1, hfr0⟩ := hv
  refine lv_pop C.1 C.2.1 dL_law_1099 rfl ?_
  refine lv_aload_n C.1 C.2.1 dL_law_1100 rfl (lv_at hl 1 rfl) ?_
  refine lw_call C (ix := 149) (o := 51) (As := []) (rest := []) (ci := 12) (na := 0) (pc := 1101) (nX12_mendFirst l) (by decide) (by decide) (tk_1896) (tk_120) ⟨by decide +kernel, by decide +kernel, by decide +kernel⟩ (tk_1893) (tk_1894) rfl (tk_1895) (by decide) rfl rfl rfl (Nat.le_of_ble_eq_true rfl) dL_law_1101 hP1 hS1 hl (lw_use rfl (by decide) ⟨rfl, trivial⟩ hok1) (fun v τ11 H11 locs11 hv hP11 hS11 => ?_)
  obtain ⟨⟨x1, rfl, hr1⟩, hok11, hfr1⟩ := hv
  refine lv_pop C.1 C.2.1 dL_law_1104 rfl ?_
  refine lv_goto (tgt := 1371) C.1 C.2.1 dL_law_1105 rfl ?_
  exact back _ _ _ ⟨hok11, RLt_fr hokR.2 hfr0 hfr1 (by decide +kernel) (by decide +kernel)⟩ hP11 hS11
set_option maxRecDepth 100000 in
theorem lw_c32 {p : Program} {l : Launch} {e : Env} {s : State} {m : MethodId} {below : List Frame} {meth : Method} {c : Code} {D : va_G} {aC : Nat → ClassId} {b L : Nat} {xs : Nat → Int32} (C : lw_K p s m c D aC b L xs) {i : Int} (hi : 0 ≤ i ∧ i + 6 ≤ (L : Int) ∧ L ≤ 3072) {σ : am_S} {H : Heap} {locs : List Loc} {lc : Array Slot} (hokR : okR σ) (hP : va_P D vwCl (am_ws SH KF s.heap.size aC 92 σ) H) (hS : va_S (fun q => s.heap.size ≤ q) s.heap H locs) (hl : lv_has lc 4 [(3, .int (Int32.ofInt i)), (2, .ref (s.heap.size + 51)), (1, .ref (s.heap.size + 0)), (0, .ref b)])
    (back : ∀ (τ : am_S) (H : Heap) (locs : List Loc), okR τ → va_P D vwCl (am_ws SH KF s.heap.size aC 92 τ) H → va_S (fun q => s.heap.size ≤ q) s.heap H locs → W p l e room_1 s m #[Value.ref b] below meth c H locs (92 - 0) (am_sz SH KF 92 - am_sz SH KF 0) (lw_Z below #[Value.ref b] s) (F0 m 1371 lc [])) : W p l e room_1 s m #[Value.ref b] below meth c H locs (92 - 0) (am_sz SH KF 92 - am_sz SH KF 0) (lw_Z below #[Value.ref b] s) (F0 m 1108 lc []) := by
  have hok : okS σ := hokR.1
  refine lv_aload_n C.1 C.2.1 dL_law_1108 rfl (lv_at hl 2 rfl) ?_
  refine lw_arg C hS hl (k := 1) dL_law_1109 dL_law_1110 dL_law_1111 dL_law_1112 dL_law_1113 rfl hi (by decide) ?_
  refine lw_arg C hS hl (k := 2) dL_law_1114 dL_law_1115 dL_law_1116 dL_law_1117 dL_law_1118 rfl hi (by decide) ?_
  refine lw_arg C hS hl (k := 3) dL_law_1119 dL_law_1120 dL_law_1121 dL_law_1122 dL_law_1123 rfl hi (by decide) ?_
  refine lw_call C (ix := 150) (o := 0) (As := [.int (xs (i.toNat + 1)), .int (xs (i.toNat + 2)), .int (xs (i.toNat + 3))]) (rest := []) (ci := 11) (na := 3) (pc := 1124) (nX11_then l) (by decide) (by decide) (tk_1241) (tk_103) ⟨by decide +kernel, by decide +kernel, by decide +kernel⟩ (tk_1238) (tk_1239) rfl (tk_1240) (by decide) rfl (am_ni _ _ (by intro v hv; simp at hv; first | exact ⟨_, hv⟩ | (rcases hv with hv | hv <;> exact ⟨_, hv⟩) | (rcases hv with hv | hv | hv <;> exact ⟨_, hv⟩) | (rcases hv with hv | hv | hv | hv <;> exact ⟨_, hv⟩) | (rcases hv with hv | hv | hv | hv | hv <;> exact ⟨_, hv⟩))) rfl (Nat.le_of_ble_eq_true rfl) dL_law_1124 hP hS hl (lw_use rfl (by decide) ⟨rfl, sp_f _, sp_f _, sp_f _, trivial⟩ hok) (fun v τ1 H1 locs1 hv hP1 hS1 => ?_)
  obtain ⟨⟨x0, rfl, hr0⟩, hok1, hfr0⟩ := hv
  refine lv_pop C.1 C.2.1 dL_law_1127 rfl ?_
  refine lv_aload_n C.1 C.2.1 dL_law_1128 rfl (lv_at hl 1 rfl) ?_
  refine lw_arg C hS1 hl (k := 1) dL_law_1129 dL_law_1130 dL_law_1131 dL_law_1132 dL_law_1133 rfl hi (by decide) ?_
  refine lw_arg C hS1 hl (k := 2) dL_law_1134 dL_law_1135 dL_law_1136 dL_law_1137 dL_law_1138 rfl hi (by decide) ?_
  refine lw_arg C hS1 hl (k := 3) dL_law_1139 dL_law_1140 dL_law_1141 dL_law_1142 dL_law_1143 rfl hi (by decide) ?_
  refine lw_call C (ix := 153) (o := 51) (As := [.int (xs (i.toNat + 1)), .int (xs (i.toNat + 2)), .int (xs (i.toNat + 3))]) (rest := []) (ci := 12) (na := 3) (pc := 1144) (nX12_then l) (by decide) (by decide) (tk_1900) (tk_120) ⟨by decide +kernel, by decide +kernel, by decide +kernel⟩ (tk_1897) (tk_1898) rfl (tk_1899) (by decide) rfl (am_ni _ _ (by intro v hv; simp at hv; first | exact ⟨_, hv⟩ | (rcases hv with hv | hv <;> exact ⟨_, hv⟩) | (rcases hv with hv | hv | hv <;> exact ⟨_, hv⟩) | (rcases hv with hv | hv | hv | hv <;> exact ⟨_, hv⟩) | (rcases hv with hv | hv | hv | hv | hv <;> exact ⟨_, hv⟩))) rfl (Nat.le_of_ble_eq_true rfl) dL_law_1144 hP1 hS1 hl (lw_use rfl (by decide) ⟨rfl, sp_f _, sp_f _, sp_f _, trivial⟩ hok1) (fun v τ11 H11 locs11 hv hP11 hS11 => ?_)
  obtain ⟨⟨x1, rfl, hr1⟩, hok11, hfr1⟩ := hv
  refine lv_pop C.1 C.2.1 dL_law_1147 rfl ?_
  refine lv_goto (tgt := 1371) C.1 C.2.1 dL_law_1148 rfl ?_
  exact back _ _ _ ⟨hok11, RLt_fr hokR.2 hfr0 hfr1 (by decide +kernel) (by decide +kernel)⟩ hP11 hS11
set_option maxRecDepth 100000 in
theorem lw_c33 {p : Program} {l : Launch} {e : Env} {s : State} {m : MethodId} {below : List Frame} {meth : Method} {c : Code} {D : va_G} {aC : Nat → ClassId} {b L : Nat} {xs : Nat → Int32} (C : lw_K p s m c D aC b L xs) {i : Int} (hi : 0 ≤ i ∧ i + 6 ≤ (L : Int) ∧ L ≤ 3072) {σ : am_S} {H : Heap} {locs : List Loc} {lc : Array Slot} (hokR : okR σ) (hP : va_P D vwCl (am_ws SH KF s.heap.size aC 92 σ) H) (hS : va_S (fun q => s.heap.size ≤ q) s.heap H locs) (hl : lv_has lc 4 [(3, .int (Int32.ofInt i)), (2, .ref (s.heap.size + 51)), (1, .ref (s.heap.size + 0)), (0, .ref b)])
    (back : ∀ (τ : am_S) (H : Heap) (locs : List Loc), okR τ → va_P D vwCl (am_ws SH KF s.heap.size aC 92 τ) H → va_S (fun q => s.heap.size ≤ q) s.heap H locs → W p l e room_1 s m #[Value.ref b] below meth c H locs (92 - 0) (am_sz SH KF 92 - am_sz SH KF 0) (lw_Z below #[Value.ref b] s) (F0 m 1371 lc [])) : W p l e room_1 s m #[Value.ref b] below meth c H locs (92 - 0) (am_sz SH KF 92 - am_sz SH KF 0) (lw_Z below #[Value.ref b] s) (F0 m 1151 lc []) := by
  have hok : okS σ := hokR.1
  refine lv_aload_n C.1 C.2.1 dL_law_1151 rfl (lv_at hl 2 rfl) ?_
  refine lw_arg C hS hl (k := 1) dL_law_1152 dL_law_1153 dL_law_1154 dL_law_1155 dL_law_1156 rfl hi (by decide) ?_
  refine lw_arg C hS hl (k := 2) dL_law_1157 dL_law_1158 dL_law_1159 dL_law_1160 dL_law_1161 rfl hi (by decide) ?_
  refine lw_call C (ix := 154) (o := 0) (As := [.int (xs (i.toNat + 1)), .int (xs (i.toNat + 2))]) (rest := []) (ci := 11) (na := 2) (pc := 1162) (nX11_year l) (by decide) (by decide) (tk_1246) (tk_103) ⟨by decide +kernel, by decide +kernel, by decide +kernel⟩ (tk_1243) (tk_1244) rfl (tk_1245) (by decide) rfl (am_ni _ _ (by intro v hv; simp at hv; first | exact ⟨_, hv⟩ | (rcases hv with hv | hv <;> exact ⟨_, hv⟩) | (rcases hv with hv | hv | hv <;> exact ⟨_, hv⟩) | (rcases hv with hv | hv | hv | hv <;> exact ⟨_, hv⟩) | (rcases hv with hv | hv | hv | hv | hv <;> exact ⟨_, hv⟩))) rfl (Nat.le_of_ble_eq_true rfl) dL_law_1162 hP hS hl (lw_use rfl (by decide) ⟨rfl, sp_f _, sp_f _, trivial⟩ hok) (fun v τ1 H1 locs1 hv hP1 hS1 => ?_)
  obtain ⟨⟨x0, rfl, hr0⟩, hok1, hfr0⟩ := hv
  refine lv_pop C.1 C.2.1 dL_law_1165 rfl ?_
  refine lv_aload_n C.1 C.2.1 dL_law_1166 rfl (lv_at hl 1 rfl) ?_
  refine lw_arg C hS1 hl (k := 1) dL_law_1167 dL_law_1168 dL_law_1169 dL_law_1170 dL_law_1171 rfl hi (by decide) ?_
  refine lw_arg C hS1 hl (k := 2) dL_law_1172 dL_law_1173 dL_law_1174 dL_law_1175 dL_law_1176 rfl hi (by decide) ?_
  refine lw_call C (ix := 157) (o := 51) (As := [.int (xs (i.toNat + 1)), .int (xs (i.toNat + 2))]) (rest := []) (ci := 12) (na := 2) (pc := 1177) (nX12_year l) (by decide) (by decide) (tk_1911) (tk_120) ⟨by decide +kernel, by decide +kernel, by decide +kernel⟩ (tk_1908) (tk_1909) rfl (tk_1910) (by decide) rfl (am_ni _ _ (by intro v hv; simp at hv; first | exact ⟨_, hv⟩ | (rcases hv with hv | hv <;> exact ⟨_, hv⟩) | (rcases hv with hv | hv | hv <;> exact ⟨_, hv⟩) | (rcases hv with hv | hv | hv | hv <;> exact ⟨_, hv⟩) | (rcases hv with hv | hv | hv | hv | hv <;> exact ⟨_, hv⟩))) rfl (Nat.le_of_ble_eq_true rfl) dL_law_1177 hP1 hS1 hl (lw_use rfl (by decide) ⟨rfl, sp_f _, sp_f _, trivial⟩ hok1) (fun v τ11 H11 locs11 hv hP11 hS11 => ?_)
  obtain ⟨⟨x1, rfl, hr1⟩, hok11, hfr1⟩ := hv
  refine lv_pop C.1 C.2.1 dL_law_1180 rfl ?_
  refine lv_goto (tgt := 1371) C.1 C.2.1 dL_law_1181 rfl ?_
  exact back _ _ _ ⟨hok11, RLt_fr hokR.2 hfr0 hfr1 (by decide +kernel) (by decide +kernel)⟩ hP11 hS11
set_option maxRecDepth 100000 in
theorem lw_c34 {p : Program} {l : Launch} {e : Env} {s : State} {m : MethodId} {below : List Frame} {meth : Method} {c : Code} {D : va_G} {aC : Nat → ClassId} {b L : Nat} {xs : Nat → Int32} (C : lw_K p s m c D aC b L xs) {i : Int} (hi : 0 ≤ i ∧ i + 6 ≤ (L : Int) ∧ L ≤ 3072) {σ : am_S} {H : Heap} {locs : List Loc} {lc : Array Slot} (hokR : okR σ) (hP : va_P D vwCl (am_ws SH KF s.heap.size aC 92 σ) H) (hS : va_S (fun q => s.heap.size ≤ q) s.heap H locs) (hl : lv_has lc 4 [(3, .int (Int32.ofInt i)), (2, .ref (s.heap.size + 51)), (1, .ref (s.heap.size + 0)), (0, .ref b)])
    (back : ∀ (τ : am_S) (H : Heap) (locs : List Loc), okR τ → va_P D vwCl (am_ws SH KF s.heap.size aC 92 τ) H → va_S (fun q => s.heap.size ≤ q) s.heap H locs → W p l e room_1 s m #[Value.ref b] below meth c H locs (92 - 0) (am_sz SH KF 92 - am_sz SH KF 0) (lw_Z below #[Value.ref b] s) (F0 m 1371 lc [])) : W p l e room_1 s m #[Value.ref b] below meth c H locs (92 - 0) (am_sz SH KF 92 - am_sz SH KF 0) (lw_Z below #[Value.ref b] s) (F0 m 1184 lc []) := by
  have hok : okS σ := hokR.1
  refine lv_aload_n C.1 C.2.1 dL_law_1184 rfl (lv_at hl 2 rfl) ?_
  refine lw_arg C hS hl (k := 1) dL_law_1185 dL_law_1186 dL_law_1187 dL_law_1188 dL_law_1189 rfl hi (by decide) ?_
  refine lw_arg C hS hl (k := 2) dL_law_1190 dL_law_1191 dL_law_1192 dL_law_1193 dL_law_1194 rfl hi (by decide) ?_
  suffices join0 : ∀ w : Int32, (0 ≤ w.toInt ∧ w.toInt ≤ 1) → w = bz (xs (i.toNat + 2)) → W p l e room_1 s m #[Value.ref b] below meth c H locs (92 - 0) (am_sz SH KF 92 - am_sz SH KF 0) (lw_Z below #[Value.ref b] s) (F0 m 1203 lc [.int w, .int (xs (i.toNat + 1)), .ref (s.heap.size + 0)]) by
    refine lv_if_eq (tgt := 1202) C.1 C.2.1 dL_law_1195 rfl (fun hz => ?_) (fun hz => ?_)
    · refine lv_iconst C.1 C.2.1 dL_law_1202 rfl ?_
      exact join0 _ ⟨by decide, by decide⟩ (bz_0 hz)
    · refine lv_iconst C.1 C.2.1 dL_law_1198 rfl ?_
      refine lv_goto (tgt := 1203) C.1 C.2.1 dL_law_1199 rfl ?_
      exact join0 _ ⟨by decide, by decide⟩ (bz_1 hz)
  intro w0 hw0 ew0
  refine lw_call C (ix := 158) (o := 0) (As := [.int (xs (i.toNat + 1)), .int w0]) (rest := []) (ci := 11) (na := 2) (pc := 1203) (mX11_tellT l) (by decide) (by decide) (tk_1250) (tk_103) ⟨by decide +kernel, by decide +kernel, by decide +kernel⟩ (tk_1247) (tk_1248) rfl (tk_1249) (by decide) rfl (am_ni _ _ (by intro v hv; simp at hv; first | exact ⟨_, hv⟩ | (rcases hv with hv | hv <;> exact ⟨_, hv⟩) | (rcases hv with hv | hv | hv <;> exact ⟨_, hv⟩) | (rcases hv with hv | hv | hv | hv <;> exact ⟨_, hv⟩) | (rcases hv with hv | hv | hv | hv | hv <;> exact ⟨_, hv⟩))) rfl (Nat.le_of_ble_eq_true rfl) dL_law_1203 hP hS hl (useC_tell hokR hw0) (fun v τ1 H1 locs1 hv hP1 hS1 => ?_)
  obtain ⟨x0, rfl, hm0⟩ := hv
  refine lv_pop C.1 C.2.1 dL_law_1206 rfl ?_
  refine lv_aload_n C.1 C.2.1 dL_law_1207 rfl (lv_at hl 1 rfl) ?_
  refine lw_arg C hS1 hl (k := 1) dL_law_1208 dL_law_1209 dL_law_1210 dL_law_1211 dL_law_1212 rfl hi (by decide) ?_
  refine lw_arg C hS1 hl (k := 2) dL_law_1213 dL_law_1214 dL_law_1215 dL_law_1216 dL_law_1217 rfl hi (by decide) ?_
  suffices join1 : ∀ w : Int32, (0 ≤ w.toInt ∧ w.toInt ≤ 1) → w = bz (xs (i.toNat + 2)) → W p l e room_1 s m #[Value.ref b] below meth c H1 locs1 (92 - 0) (am_sz SH KF 92 - am_sz SH KF 0) (lw_Z below #[Value.ref b] s) (F0 m 1226 lc [.int w, .int (xs (i.toNat + 1)), .ref (s.heap.size + 51)]) by
    refine lv_if_eq (tgt := 1225) C.1 C.2.1 dL_law_1218 rfl (fun hz => ?_) (fun hz => ?_)
    · refine lv_iconst C.1 C.2.1 dL_law_1225 rfl ?_
      exact join1 _ ⟨by decide, by decide⟩ (bz_0 hz)
    · refine lv_iconst C.1 C.2.1 dL_law_1221 rfl ?_
      refine lv_goto (tgt := 1226) C.1 C.2.1 dL_law_1222 rfl ?_
      exact join1 _ ⟨by decide, by decide⟩ (bz_1 hz)
  intro w1 hw1 ew1
  refine lw_call C (ix := 162) (o := 51) (As := [.int (xs (i.toNat + 1)), .int w1]) (rest := []) (ci := 12) (na := 2) (pc := 1226) (mX12_tellT l) (by decide) (by decide) (tk_1915) (tk_120) ⟨by decide +kernel, by decide +kernel, by decide +kernel⟩ (tk_1912) (tk_1913) rfl (tk_1914) (by decide) rfl (am_ni _ _ (by intro v hv; simp at hv; first | exact ⟨_, hv⟩ | (rcases hv with hv | hv <;> exact ⟨_, hv⟩) | (rcases hv with hv | hv | hv <;> exact ⟨_, hv⟩) | (rcases hv with hv | hv | hv | hv <;> exact ⟨_, hv⟩) | (rcases hv with hv | hv | hv | hv | hv <;> exact ⟨_, hv⟩))) rfl (Nat.le_of_ble_eq_true rfl) dL_law_1226 hP1 hS1 hl (useR_tell hokR hm0 hw1) (fun v τ11 H11 locs11 hv hP11 hS11 => ?_)
  obtain ⟨x1, rfl, hm1⟩ := hv
  refine lv_pop C.1 C.2.1 dL_law_1229 rfl ?_
  refine lv_goto (tgt := 1371) C.1 C.2.1 dL_law_1230 rfl ?_
  exact back _ _ _ (pair_tell hokR hm0 hm1 (ew1.trans ew0.symm)).1 hP11 hS11
set_option maxRecDepth 100000 in
theorem lw_c35 {p : Program} {l : Launch} {e : Env} {s : State} {m : MethodId} {below : List Frame} {meth : Method} {c : Code} {D : va_G} {aC : Nat → ClassId} {b L : Nat} {xs : Nat → Int32} (C : lw_K p s m c D aC b L xs) {i : Int} (hi : 0 ≤ i ∧ i + 6 ≤ (L : Int) ∧ L ≤ 3072) {σ : am_S} {H : Heap} {locs : List Loc} {lc : Array Slot} (hokR : okR σ) (hP : va_P D vwCl (am_ws SH KF s.heap.size aC 92 σ) H) (hS : va_S (fun q => s.heap.size ≤ q) s.heap H locs) (hl : lv_has lc 4 [(3, .int (Int32.ofInt i)), (2, .ref (s.heap.size + 51)), (1, .ref (s.heap.size + 0)), (0, .ref b)])
    (back : ∀ (τ : am_S) (H : Heap) (locs : List Loc), okR τ → va_P D vwCl (am_ws SH KF s.heap.size aC 92 τ) H → va_S (fun q => s.heap.size ≤ q) s.heap H locs → W p l e room_1 s m #[Value.ref b] below meth c H locs (92 - 0) (am_sz SH KF 92 - am_sz SH KF 0) (lw_Z below #[Value.ref b] s) (F0 m 1371 lc [])) : W p l e room_1 s m #[Value.ref b] below meth c H locs (92 - 0) (am_sz SH KF 92 - am_sz SH KF 0) (lw_Z below #[Value.ref b] s) (F0 m 1233 lc []) := by
  have hok : okS σ := hokR.1
  refine lv_aload_n C.1 C.2.1 dL_law_1233 rfl (lv_at hl 2 rfl) ?_
  refine lw_call C (ix := 163) (o := 0) (As := []) (rest := []) (ci := 11) (na := 0) (pc := 1234) (mX11_forgetT l) (by decide) (by decide) (tk_1258) (tk_103) ⟨by decide +kernel, by decide +kernel, by decide +kernel⟩ (tk_1255) (tk_1256) rfl (tk_1257) (by decide) rfl rfl rfl (Nat.le_of_ble_eq_true rfl) dL_law_1234 hP hS hl (useC_forget hokR) (fun v τ1 H1 locs1 hv hP1 hS1 => ?_)
  obtain ⟨x0, rfl, hm0⟩ := hv
  refine lv_pop C.1 C.2.1 dL_law_1237 rfl ?_
  refine lv_aload_n C.1 C.2.1 dL_law_1238 rfl (lv_at hl 1 rfl) ?_
  refine lw_call C (ix := 166) (o := 51) (As := []) (rest := []) (ci := 12) (na := 0) (pc := 1239) (mX12_forgetT l) (by decide) (by decide) (tk_1919) (tk_120) ⟨by decide +kernel, by decide +kernel, by decide +kernel⟩ (tk_1916) (tk_1917) rfl (tk_1918) (by decide) rfl rfl rfl (Nat.le_of_ble_eq_true rfl) dL_law_1239 hP1 hS1 hl (useR_forget hokR hm0) (fun v τ11 H11 locs11 hv hP11 hS11 => ?_)
  obtain ⟨x1, rfl, hm1⟩ := hv
  refine lv_pop C.1 C.2.1 dL_law_1242 rfl ?_
  refine lv_goto (tgt := 1371) C.1 C.2.1 dL_law_1243 rfl ?_
  exact back _ _ _ (pair_forget hokR hm0 hm1).1 hP11 hS11
set_option maxRecDepth 100000 in
theorem lw_c36 {p : Program} {l : Launch} {e : Env} {s : State} {m : MethodId} {below : List Frame} {meth : Method} {c : Code} {D : va_G} {aC : Nat → ClassId} {b L : Nat} {xs : Nat → Int32} (C : lw_K p s m c D aC b L xs) {i : Int} (hi : 0 ≤ i ∧ i + 6 ≤ (L : Int) ∧ L ≤ 3072) {σ : am_S} {H : Heap} {locs : List Loc} {lc : Array Slot} (hokR : okR σ) (hP : va_P D vwCl (am_ws SH KF s.heap.size aC 92 σ) H) (hS : va_S (fun q => s.heap.size ≤ q) s.heap H locs) (hl : lv_has lc 4 [(3, .int (Int32.ofInt i)), (2, .ref (s.heap.size + 51)), (1, .ref (s.heap.size + 0)), (0, .ref b)])
    (back : ∀ (τ : am_S) (H : Heap) (locs : List Loc), okR τ → va_P D vwCl (am_ws SH KF s.heap.size aC 92 τ) H → va_S (fun q => s.heap.size ≤ q) s.heap H locs → W p l e room_1 s m #[Value.ref b] below meth c H locs (92 - 0) (am_sz SH KF 92 - am_sz SH KF 0) (lw_Z below #[Value.ref b] s) (F0 m 1371 lc [])) : W p l e room_1 s m #[Value.ref b] below meth c H locs (92 - 0) (am_sz SH KF 92 - am_sz SH KF 0) (lw_Z below #[Value.ref b] s) (F0 m 1246 lc []) := by
  have hok : okS σ := hokR.1
  refine lv_aload_n C.1 C.2.1 dL_law_1246 rfl (lv_at hl 2 rfl) ?_
  refine lw_arg C hS hl (k := 1) dL_law_1247 dL_law_1248 dL_law_1249 dL_law_1250 dL_law_1251 rfl hi (by decide) ?_
  refine lw_arg C hS hl (k := 2) dL_law_1252 dL_law_1253 dL_law_1254 dL_law_1255 dL_law_1256 rfl hi (by decide) ?_
  refine lw_call C (ix := 167) (o := 0) (As := [.int (xs (i.toNat + 1)), .int (xs (i.toNat + 2))]) (rest := []) (ci := 11) (na := 2) (pc := 1257) (nX11_trod l) (by decide) (by decide) (tk_1262) (tk_103) ⟨by decide +kernel, by decide +kernel, by decide +kernel⟩ (tk_1259) (tk_1260) rfl (tk_1261) (by decide) rfl (am_ni _ _ (by intro v hv; simp at hv; first | exact ⟨_, hv⟩ | (rcases hv with hv | hv <;> exact ⟨_, hv⟩) | (rcases hv with hv | hv | hv <;> exact ⟨_, hv⟩) | (rcases hv with hv | hv | hv | hv <;> exact ⟨_, hv⟩) | (rcases hv with hv | hv | hv | hv | hv <;> exact ⟨_, hv⟩))) rfl (Nat.le_of_ble_eq_true rfl) dL_law_1257 hP hS hl (lw_use rfl (by decide) ⟨rfl, sp_f _, sp_f _, trivial⟩ hok) (fun v τ1 H1 locs1 hv hP1 hS1 => ?_)
  obtain ⟨⟨x0, rfl, hr0⟩, hok1, hfr0⟩ := hv
  refine lv_pop C.1 C.2.1 dL_law_1260 rfl ?_
  refine lv_aload_n C.1 C.2.1 dL_law_1261 rfl (lv_at hl 1 rfl) ?_
  refine lw_arg C hS1 hl (k := 1) dL_law_1262 dL_law_1263 dL_law_1264 dL_law_1265 dL_law_1266 rfl hi (by decide) ?_
  refine lw_arg C hS1 hl (k := 2) dL_law_1267 dL_law_1268 dL_law_1269 dL_law_1270 dL_law_1271 rfl hi (by decide) ?_
  refine lw_call C (ix := 170) (o := 51) (As := [.int (xs (i.toNat + 1)), .int (xs (i.toNat + 2))]) (rest := []) (ci := 12) (na := 2) (pc := 1272) (nX12_trod l) (by decide) (by decide) (tk_1923) (tk_120) ⟨by decide +kernel, by decide +kernel, by decide +kernel⟩ (tk_1920) (tk_1921) rfl (tk_1922) (by decide) rfl (am_ni _ _ (by intro v hv; simp at hv; first | exact ⟨_, hv⟩ | (rcases hv with hv | hv <;> exact ⟨_, hv⟩) | (rcases hv with hv | hv | hv <;> exact ⟨_, hv⟩) | (rcases hv with hv | hv | hv | hv <;> exact ⟨_, hv⟩) | (rcases hv with hv | hv | hv | hv | hv <;> exact ⟨_, hv⟩))) rfl (Nat.le_of_ble_eq_true rfl) dL_law_1272 hP1 hS1 hl (lw_use rfl (by decide) ⟨rfl, sp_f _, sp_f _, trivial⟩ hok1) (fun v τ11 H11 locs11 hv hP11 hS11 => ?_)
  obtain ⟨⟨x1, rfl, hr1⟩, hok11, hfr1⟩ := hv
  refine lv_pop C.1 C.2.1 dL_law_1275 rfl ?_
  refine lv_goto (tgt := 1371) C.1 C.2.1 dL_law_1276 rfl ?_
  exact back _ _ _ ⟨hok11, RLt_fr hokR.2 hfr0 hfr1 (by decide +kernel) (by decide +kernel)⟩ hP11 hS11
set_option maxRecDepth 100000 in
theorem lw_c37 {p : Program} {l : Launch} {e : Env} {s : State} {m : MethodId} {below : List Frame} {meth : Method} {c : Code} {D : va_G} {aC : Nat → ClassId} {b L : Nat} {xs : Nat → Int32} (C : lw_K p s m c D aC b L xs) {i : Int} (hi : 0 ≤ i ∧ i + 6 ≤ (L : Int) ∧ L ≤ 3072) {σ : am_S} {H : Heap} {locs : List Loc} {lc : Array Slot} (hokR : okR σ) (hP : va_P D vwCl (am_ws SH KF s.heap.size aC 92 σ) H) (hS : va_S (fun q => s.heap.size ≤ q) s.heap H locs) (hl : lv_has lc 4 [(3, .int (Int32.ofInt i)), (2, .ref (s.heap.size + 51)), (1, .ref (s.heap.size + 0)), (0, .ref b)])
    (back : ∀ (τ : am_S) (H : Heap) (locs : List Loc), okR τ → va_P D vwCl (am_ws SH KF s.heap.size aC 92 τ) H → va_S (fun q => s.heap.size ≤ q) s.heap H locs → W p l e room_1 s m #[Value.ref b] below meth c H locs (92 - 0) (am_sz SH KF 92 - am_sz SH KF 0) (lw_Z below #[Value.ref b] s) (F0 m 1371 lc [])) : W p l e room_1 s m #[Value.ref b] below meth c H locs (92 - 0) (am_sz SH KF 92 - am_sz SH KF 0) (lw_Z below #[Value.ref b] s) (F0 m 1279 lc []) := by
  have hok : okS σ := hokR.1
  refine lv_aload_n C.1 C.2.1 dL_law_1279 rfl (lv_at hl 2 rfl) ?_
  refine lw_arg C hS hl (k := 1) dL_law_1280 dL_law_1281 dL_law_1282 dL_law_1283 dL_law_1284 rfl hi (by decide) ?_
  refine lw_call C (ix := 171) (o := 0) (As := [.int (xs (i.toNat + 1))]) (rest := []) (ci := 11) (na := 1) (pc := 1285) (mX11_askM l) (by decide) (by decide) (tk_1279) (tk_103) ⟨by decide +kernel, by decide +kernel, by decide +kernel⟩ (tk_1276) (tk_1277) rfl (tk_1278) (by decide) rfl (am_ni _ _ (by intro v hv; simp at hv; first | exact ⟨_, hv⟩ | (rcases hv with hv | hv <;> exact ⟨_, hv⟩) | (rcases hv with hv | hv | hv <;> exact ⟨_, hv⟩) | (rcases hv with hv | hv | hv | hv <;> exact ⟨_, hv⟩) | (rcases hv with hv | hv | hv | hv | hv <;> exact ⟨_, hv⟩))) rfl (Nat.le_of_ble_eq_true rfl) dL_law_1285 hP hS hl (useC_ask hokR) (fun v τ1 H1 locs1 hv hP1 hS1 => ?_)
  obtain ⟨x0, rfl, hm0⟩ := hv
  refine lv_aload_n C.1 C.2.1 dL_law_1288 rfl (lv_at hl 1 rfl) ?_
  refine lw_arg C hS1 hl (k := 1) dL_law_1289 dL_law_1290 dL_law_1291 dL_law_1292 dL_law_1293 rfl hi (by decide) ?_
  refine lw_call C (ix := 174) (o := 51) (As := [.int (xs (i.toNat + 1))]) (rest := [.int x0]) (ci := 12) (na := 1) (pc := 1294) (mX12_askM l) (by decide) (by decide) (tk_1935) (tk_120) ⟨by decide +kernel, by decide +kernel, by decide +kernel⟩ (tk_1932) (tk_1933) rfl (tk_1934) (by decide) rfl (am_ni _ _ (by intro v hv; simp at hv; first | exact ⟨_, hv⟩ | (rcases hv with hv | hv <;> exact ⟨_, hv⟩) | (rcases hv with hv | hv | hv <;> exact ⟨_, hv⟩) | (rcases hv with hv | hv | hv | hv <;> exact ⟨_, hv⟩) | (rcases hv with hv | hv | hv | hv | hv <;> exact ⟨_, hv⟩))) rfl (Nat.le_of_ble_eq_true rfl) dL_law_1294 hP1 hS1 hl (useR_ask hokR hm0) (fun v τ11 H11 locs11 hv hP11 hS11 => ?_)
  obtain ⟨x1, rfl, hm1⟩ := hv
  refine lv_icmp_eq (tgt := 1371) C.1 C.2.1 dL_law_1297 rfl (fun _ => back _ _ _ (pair_ask hokR hm0 hm1).1 hP11 hS11) (fun h => absurd ((pair_ask hokR hm0 hm1).2) h)
set_option maxRecDepth 100000 in
theorem lw_c38 {p : Program} {l : Launch} {e : Env} {s : State} {m : MethodId} {below : List Frame} {meth : Method} {c : Code} {D : va_G} {aC : Nat → ClassId} {b L : Nat} {xs : Nat → Int32} (C : lw_K p s m c D aC b L xs) {i : Int} (hi : 0 ≤ i ∧ i + 6 ≤ (L : Int) ∧ L ≤ 3072) {σ : am_S} {H : Heap} {locs : List Loc} {lc : Array Slot} (hokR : okR σ) (hP : va_P D vwCl (am_ws SH KF s.heap.size aC 92 σ) H) (hS : va_S (fun q => s.heap.size ≤ q) s.heap H locs) (hl : lv_has lc 4 [(3, .int (Int32.ofInt i)), (2, .ref (s.heap.size + 51)), (1, .ref (s.heap.size + 0)), (0, .ref b)])
    (back : ∀ (τ : am_S) (H : Heap) (locs : List Loc), okR τ → va_P D vwCl (am_ws SH KF s.heap.size aC 92 τ) H → va_S (fun q => s.heap.size ≤ q) s.heap H locs → W p l e room_1 s m #[Value.ref b] below meth c H locs (92 - 0) (am_sz SH KF 92 - am_sz SH KF 0) (lw_Z below #[Value.ref b] s) (F0 m 1371 lc [])) : W p l e room_1 s m #[Value.ref b] below meth c H locs (92 - 0) (am_sz SH KF 92 - am_sz SH KF 0) (lw_Z below #[Value.ref b] s) (F0 m 1302 lc []) := by
  have hok : okS σ := hokR.1
  refine lv_aload_n C.1 C.2.1 dL_law_1302 rfl (lv_at hl 2 rfl) ?_
  refine lw_arg C hS hl (k := 1) dL_law_1303 dL_law_1304 dL_law_1305 dL_law_1306 dL_law_1307 rfl hi (by decide) ?_
  refine lw_call C (ix := 175) (o := 0) (As := [.int (xs (i.toNat + 1))]) (rest := []) (ci := 11) (na := 1) (pc := 1308) (mX11_holdT l) (by decide) (by decide) (tk_969) (tk_103) ⟨by decide +kernel, by decide +kernel, by decide +kernel⟩ (tk_966) (tk_967) rfl (tk_968) (by decide) rfl (am_ni _ _ (by intro v hv; simp at hv; first | exact ⟨_, hv⟩ | (rcases hv with hv | hv <;> exact ⟨_, hv⟩) | (rcases hv with hv | hv | hv <;> exact ⟨_, hv⟩) | (rcases hv with hv | hv | hv | hv <;> exact ⟨_, hv⟩) | (rcases hv with hv | hv | hv | hv | hv <;> exact ⟨_, hv⟩))) rfl (Nat.le_of_ble_eq_true rfl) dL_law_1308 hP hS hl (useC_hold hokR) (fun v τ1 H1 locs1 hv hP1 hS1 => ?_)
  obtain ⟨x0, rfl, hm0⟩ := hv
  refine lv_pop C.1 C.2.1 dL_law_1311 rfl ?_
  refine lv_aload_n C.1 C.2.1 dL_law_1312 rfl (lv_at hl 1 rfl) ?_
  refine lw_arg C hS1 hl (k := 1) dL_law_1313 dL_law_1314 dL_law_1315 dL_law_1316 dL_law_1317 rfl hi (by decide) ?_
  refine lw_call C (ix := 178) (o := 51) (As := [.int (xs (i.toNat + 1))]) (rest := []) (ci := 12) (na := 1) (pc := 1318) (mX12_holdT l) (by decide) (by decide) (tk_1939) (tk_120) ⟨by decide +kernel, by decide +kernel, by decide +kernel⟩ (tk_1936) (tk_1937) rfl (tk_1938) (by decide) rfl (am_ni _ _ (by intro v hv; simp at hv; first | exact ⟨_, hv⟩ | (rcases hv with hv | hv <;> exact ⟨_, hv⟩) | (rcases hv with hv | hv | hv <;> exact ⟨_, hv⟩) | (rcases hv with hv | hv | hv | hv <;> exact ⟨_, hv⟩) | (rcases hv with hv | hv | hv | hv | hv <;> exact ⟨_, hv⟩))) rfl (Nat.le_of_ble_eq_true rfl) dL_law_1318 hP1 hS1 hl (useR_hold hokR hm0) (fun v τ11 H11 locs11 hv hP11 hS11 => ?_)
  obtain ⟨x1, rfl, hm1⟩ := hv
  refine lv_pop C.1 C.2.1 dL_law_1321 rfl ?_
  refine lv_goto (tgt := 1371) C.1 C.2.1 dL_law_1322 rfl ?_
  exact back _ _ _ (pair_hold hokR hm0 hm1).1 hP11 hS11
set_option maxRecDepth 100000 in
theorem lw_c39 {p : Program} {l : Launch} {e : Env} {s : State} {m : MethodId} {below : List Frame} {meth : Method} {c : Code} {D : va_G} {aC : Nat → ClassId} {b L : Nat} {xs : Nat → Int32} (C : lw_K p s m c D aC b L xs) {i : Int} (hi : 0 ≤ i ∧ i + 6 ≤ (L : Int) ∧ L ≤ 3072) {σ : am_S} {H : Heap} {locs : List Loc} {lc : Array Slot} (hokR : okR σ) (hP : va_P D vwCl (am_ws SH KF s.heap.size aC 92 σ) H) (hS : va_S (fun q => s.heap.size ≤ q) s.heap H locs) (hl : lv_has lc 4 [(3, .int (Int32.ofInt i)), (2, .ref (s.heap.size + 51)), (1, .ref (s.heap.size + 0)), (0, .ref b)])
    (back : ∀ (τ : am_S) (H : Heap) (locs : List Loc), okR τ → va_P D vwCl (am_ws SH KF s.heap.size aC 92 τ) H → va_S (fun q => s.heap.size ≤ q) s.heap H locs → W p l e room_1 s m #[Value.ref b] below meth c H locs (92 - 0) (am_sz SH KF 92 - am_sz SH KF 0) (lw_Z below #[Value.ref b] s) (F0 m 1371 lc [])) : W p l e room_1 s m #[Value.ref b] below meth c H locs (92 - 0) (am_sz SH KF 92 - am_sz SH KF 0) (lw_Z below #[Value.ref b] s) (F0 m 1325 lc []) := by
  have hok : okS σ := hokR.1
  refine lv_aload_n C.1 C.2.1 dL_law_1325 rfl (lv_at hl 2 rfl) ?_
  refine lw_arg C hS hl (k := 1) dL_law_1326 dL_law_1327 dL_law_1328 dL_law_1329 dL_law_1330 rfl hi (by decide) ?_
  refine lw_call C (ix := 179) (o := 0) (As := [.int (xs (i.toNat + 1))]) (rest := []) (ci := 11) (na := 1) (pc := 1331) (mX11_restoreT l) (by decide) (by decide) (tk_977) (tk_103) ⟨by decide +kernel, by decide +kernel, by decide +kernel⟩ (tk_974) (tk_975) rfl (tk_976) (by decide) rfl (am_ni _ _ (by intro v hv; simp at hv; first | exact ⟨_, hv⟩ | (rcases hv with hv | hv <;> exact ⟨_, hv⟩) | (rcases hv with hv | hv | hv <;> exact ⟨_, hv⟩) | (rcases hv with hv | hv | hv | hv <;> exact ⟨_, hv⟩) | (rcases hv with hv | hv | hv | hv | hv <;> exact ⟨_, hv⟩))) rfl (Nat.le_of_ble_eq_true rfl) dL_law_1331 hP hS hl (useC_restore hokR) (fun v τ1 H1 locs1 hv hP1 hS1 => ?_)
  obtain ⟨x0, rfl, hm0⟩ := hv
  refine lv_pop C.1 C.2.1 dL_law_1334 rfl ?_
  refine lv_aload_n C.1 C.2.1 dL_law_1335 rfl (lv_at hl 1 rfl) ?_
  refine lw_arg C hS1 hl (k := 1) dL_law_1336 dL_law_1337 dL_law_1338 dL_law_1339 dL_law_1340 rfl hi (by decide) ?_
  refine lw_call C (ix := 182) (o := 51) (As := [.int (xs (i.toNat + 1))]) (rest := []) (ci := 12) (na := 1) (pc := 1341) (mX12_restoreT l) (by decide) (by decide) (tk_1943) (tk_120) ⟨by decide +kernel, by decide +kernel, by decide +kernel⟩ (tk_1940) (tk_1941) rfl (tk_1942) (by decide) rfl (am_ni _ _ (by intro v hv; simp at hv; first | exact ⟨_, hv⟩ | (rcases hv with hv | hv <;> exact ⟨_, hv⟩) | (rcases hv with hv | hv | hv <;> exact ⟨_, hv⟩) | (rcases hv with hv | hv | hv | hv <;> exact ⟨_, hv⟩) | (rcases hv with hv | hv | hv | hv | hv <;> exact ⟨_, hv⟩))) rfl (Nat.le_of_ble_eq_true rfl) dL_law_1341 hP1 hS1 hl (useR_restore hokR hm0) (fun v τ11 H11 locs11 hv hP11 hS11 => ?_)
  obtain ⟨x1, rfl, hm1⟩ := hv
  refine lv_pop C.1 C.2.1 dL_law_1344 rfl ?_
  refine lv_goto (tgt := 1371) C.1 C.2.1 dL_law_1345 rfl ?_
  exact back _ _ _ (pair_restore hokR hm0 hm1).1 hP11 hS11
set_option maxRecDepth 100000 in
theorem lw_c40 {p : Program} {l : Launch} {e : Env} {s : State} {m : MethodId} {below : List Frame} {meth : Method} {c : Code} {D : va_G} {aC : Nat → ClassId} {b L : Nat} {xs : Nat → Int32} (C : lw_K p s m c D aC b L xs) {i : Int} (hi : 0 ≤ i ∧ i + 6 ≤ (L : Int) ∧ L ≤ 3072) {σ : am_S} {H : Heap} {locs : List Loc} {lc : Array Slot} (hokR : okR σ) (hP : va_P D vwCl (am_ws SH KF s.heap.size aC 92 σ) H) (hS : va_S (fun q => s.heap.size ≤ q) s.heap H locs) (hl : lv_has lc 4 [(3, .int (Int32.ofInt i)), (2, .ref (s.heap.size + 51)), (1, .ref (s.heap.size + 0)), (0, .ref b)])
    (back : ∀ (τ : am_S) (H : Heap) (locs : List Loc), okR τ → va_P D vwCl (am_ws SH KF s.heap.size aC 92 τ) H → va_S (fun q => s.heap.size ≤ q) s.heap H locs → W p l e room_1 s m #[Value.ref b] below meth c H locs (92 - 0) (am_sz SH KF 92 - am_sz SH KF 0) (lw_Z below #[Value.ref b] s) (F0 m 1371 lc [])) : W p l e room_1 s m #[Value.ref b] below meth c H locs (92 - 0) (am_sz SH KF 92 - am_sz SH KF 0) (lw_Z below #[Value.ref b] s) (F0 m 1348 lc []) := by
  have hok : okS σ := hokR.1
  refine lv_aload_n C.1 C.2.1 dL_law_1348 rfl (lv_at hl 2 rfl) ?_
  refine lw_arg C hS hl (k := 1) dL_law_1349 dL_law_1350 dL_law_1351 dL_law_1352 dL_law_1353 rfl hi (by decide) ?_
  refine lw_call C (ix := 183) (o := 0) (As := [.int (xs (i.toNat + 1))]) (rest := []) (ci := 11) (na := 1) (pc := 1354) (nX11_count l) (by decide) (by decide) (tk_795) (tk_103) ⟨by decide +kernel, by decide +kernel, by decide +kernel⟩ (tk_792) (tk_793) rfl (tk_794) (by decide) rfl (am_ni _ _ (by intro v hv; simp at hv; first | exact ⟨_, hv⟩ | (rcases hv with hv | hv <;> exact ⟨_, hv⟩) | (rcases hv with hv | hv | hv <;> exact ⟨_, hv⟩) | (rcases hv with hv | hv | hv | hv <;> exact ⟨_, hv⟩) | (rcases hv with hv | hv | hv | hv | hv <;> exact ⟨_, hv⟩))) rfl (Nat.le_of_ble_eq_true rfl) dL_law_1354 hP hS hl (lw_use rfl (by decide) ⟨rfl, sp_f _, trivial⟩ hok) (fun v τ1 H1 locs1 hv hP1 hS1 => ?_)
  obtain ⟨⟨x0, rfl, hr0⟩, hok1, hfr0⟩ := hv
  refine lv_pop C.1 C.2.1 dL_law_1357 rfl ?_
  refine lv_aload_n C.1 C.2.1 dL_law_1358 rfl (lv_at hl 1 rfl) ?_
  refine lw_arg C hS1 hl (k := 1) dL_law_1359 dL_law_1360 dL_law_1361 dL_law_1362 dL_law_1363 rfl hi (by decide) ?_
  refine lw_call C (ix := 186) (o := 51) (As := [.int (xs (i.toNat + 1))]) (rest := []) (ci := 12) (na := 1) (pc := 1364) (nX12_count l) (by decide) (by decide) (tk_1947) (tk_120) ⟨by decide +kernel, by decide +kernel, by decide +kernel⟩ (tk_1944) (tk_1945) rfl (tk_1946) (by decide) rfl (am_ni _ _ (by intro v hv; simp at hv; first | exact ⟨_, hv⟩ | (rcases hv with hv | hv <;> exact ⟨_, hv⟩) | (rcases hv with hv | hv | hv <;> exact ⟨_, hv⟩) | (rcases hv with hv | hv | hv | hv <;> exact ⟨_, hv⟩) | (rcases hv with hv | hv | hv | hv | hv <;> exact ⟨_, hv⟩))) rfl (Nat.le_of_ble_eq_true rfl) dL_law_1364 hP1 hS1 hl (lw_use rfl (by decide) ⟨rfl, sp_f _, trivial⟩ hok1) (fun v τ11 H11 locs11 hv hP11 hS11 => ?_)
  obtain ⟨⟨x1, rfl, hr1⟩, hok11, hfr1⟩ := hv
  refine lv_pop C.1 C.2.1 dL_law_1367 rfl ?_
  refine lv_goto (tgt := 1371) C.1 C.2.1 dL_law_1368 rfl ?_
  exact back _ _ _ ⟨hok11, RLt_fr hokR.2 hfr0 hfr1 (by decide +kernel) (by decide +kernel)⟩ hP11 hS11
