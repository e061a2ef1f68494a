/-! THE LAW: what each of its rows asks, over the contracts of the class and of the reference. Printed by wip/am/gen90.py. -/
def lw_K (p : Program) (s : State) (m : MethodId) (c : Code) (D : va_G) (aC : Nat → ClassId) (b L : Nat) (xs : Nat → Int32) : Prop := p.tables.exec = Jvm.exec ∧ c.code = code ∧ c.maxLocals = 4 ∧ s.vm.findClass R_law = some m.cls ∧ (∀ w ∈ TB, w.before #[Value.ref b] s = true) ∧ va_X b L xs s s.heap ∧ b < s.heap.size ∧ va_K D vwCl (am_tys aC) s ∧ am_Nw NB s.heap.size s
/-- the k-th int of the script is pushed -/
theorem lw_arg {p : Program} {l : Launch} {e : Env} {s : State} {m : MethodId} {below : List Frame} {meth : Method} {c : Code} {D : va_G} {aC : Nat → ClassId} {b L : Nat} {xs : Nat → Int32} (C : lw_K p s m c D aC b L xs) {H : Heap} {locs : List Loc} {cells slots : Nat} {Q : State → Prop} {lc : Array Slot} {rest : List Value} (hS : va_S (fun q => s.heap.size ≤ q) s.heap H locs) (hl : lv_has lc 4 [(3, .int 0), (2, .ref (s.heap.size + 51)), (1, .ref (s.heap.size + 0)), (0, .ref b)]) {pc k : Nat} {kz : Int} {v : Int32} (d0 : decode code pc = .ok (.aload_n 0, 1)) (d1 : decode code (pc + 1) = .ok (.iload_n 3, 1)) (d2 : decode code (pc + 2) = .ok (.iconst kz, 1)) (d3 : decode code (pc + 3) = .ok (.iadd, 1)) (d4 : decode code (pc + 4) = .ok (.iaload, 1)) (hkz : kz = (k : Int)) (hL : L = 6) (hk : k < 6) (hv : xs k = v)
    (kk : W p l e room_1 s m #[Value.ref b] below meth c H locs cells slots Q (F0 m (pc + 5) lc (.int v :: rest))) : W p l e room_1 s m #[Value.ref b] below meth c H locs cells slots Q (F0 m pc lc rest) := by
  obtain ⟨hx, hb, hml, hown, hts, hX, hbl, hK, hN⟩ := C
  have hbA : ¬ (fun q : Nat => s.heap.size ≤ q) b := Nat.not_le.mpr hbl
  subst hkz
  have q : ∀ k : Nat, k < 6 → ((0 : Int32) + Int32.ofInt (k : Int)).toNatClampNeg = k ∧ ¬ ((0 : Int32) + Int32.ofInt (k : Int) < 0) := by decide +kernel
  obtain ⟨q1, q2⟩ := q k hk
  refine lv_aload_n hx hb d0 rfl (lv_at hl 3 rfl) ?_
  refine lv_iload_n hx hb d1 rfl (lv_at hl 0 rfl) ?_
  refine lv_iconst hx hb d2 rfl ?_
  refine lv_iadd hx hb d3 ?_
  refine va_sld hx hb hX hbl hbA hS (fun z => z.elim q2 (fun z2 => by rw [q1] at z2; omega)) d4 ?_
  rw [q1, hv]
  exact kk
/-- a method of one of the two objects is called -/
theorem lw_call {p : Program} {l : Launch} {e : Env} {s : State} {m : MethodId} {below : List Frame} {meth : Method} {c : Code} {D : va_G} {aC : Nat → ClassId} {b L : Nat} {xs : Nat → Int32} (C : lw_K p s m c D aC b L xs) {y : MethodName} {cc : ByteArray} {maxL d na ix ci o pc : Nat} {rt : Option FieldType} {sp : am_Sp} {r : vw_C} {As rest : List Value} {lc : Array Slot} {σ : am_S} {H : Heap} {locs : List Loc} {post : Option Value → am_S → Prop} (hM : am_M l TB NB vwCl SH KF y cc maxL rt d 0 0 sp) (hd : d + 1 ≤ 1200) (hmx : maxL ≤ 40) (hcode : Cond.code y cc maxL rt ∈ TB) (hini : Cond.initialized y.cls ∈ TB) (hd3 : y.cls ≠ "java/lang/invoke/MethodHandle" ∧ y.cls ≠ "java/lang/invoke/VarHandle" ∧ (parseMethodDescriptor y.desc).map (fun d => d.parameters.length) = some na) (hlink : Cond.methodLink R_law ix y ∈ TB) (hinst : Cond.instanceMethod y ∈ TB) (hr : vwCl[ci]? = some r) (hsel : Cond.selects r.1 y y ∈ TB) (ho : o < 92) (hso : SH o = .inl ci) (hAs : As.map (am_c s.heap.size) = As) (hna : As.length = na) (hcat : (rest.map fun v => v.category).sum ≤ 8) (hdg : decode code pc = .ok (.invokevirtual ix, 3))
    (hP : va_P D vwCl (am_ws SH KF s.heap.size aC 92 σ) H) (hS : va_S (fun q => s.heap.size ≤ q) s.heap H locs) (hl : lv_has lc 4 [(3, .int 0), (2, .ref (s.heap.size + 51)), (1, .ref (s.heap.size + 0)), (0, .ref b)]) (hsp : sp (.ref o :: As) 92 σ post)
    (kk : ∀ (v : Option Value) (τ : am_S) (H1 : Heap) (locs1 : List Loc), post v τ → va_P D vwCl (am_ws SH KF s.heap.size aC 92 τ) H1 → va_S (fun q => s.heap.size ≤ q) s.heap H1 locs1 → W p l e room_1 s m #[Value.ref b] below meth c H1 locs1 (92 - 0) (am_sz SH KF 92 - am_sz SH KF 0) (lw_Z below #[Value.ref b] s) (F0 m (pc + 3) lc ((v.map (am_c s.heap.size)).toList ++ rest))) : W p l e room_1 s m #[Value.ref b] below meth c H locs (92 - 0) (am_sz SH KF 92 - am_sz SH KF 0) (lw_Z below #[Value.ref b] s) (F0 m pc lc (As.reverse ++ .ref (s.heap.size + o) :: rest)) := by
  obtain ⟨hx, hb, hml, hown, hts, hX, hbl, hK, hN⟩ := C
  refine am_size (n0 := 0) hP hS rfl (Nat.zero_le _) rfl fun hzH => ?_
  have hMet := hM D aC s.heap.size 92 _ σ _ hsp rfl
  have fx : CallFix p m c code 4 s #[Value.ref b] TB R_law := ⟨hx, hb, hml, hown, hts⟩
  have hm2 : (Value.ref o :: As).map (am_c s.heap.size) = .ref (s.heap.size + o) :: As := by
    show Value.ref (s.heap.size + o) :: As.map (am_c s.heap.size) = _
    rw [hAs]
  have pre := am_pre (as := .ref o :: As) hzH hP hK hN hS
  rw [hm2] at pre
  have blind := am_blind (cl := vwCl) (NB := NB) (D := D) (aC := aC) (b := s.heap.size) (SH := SH) (KF := KF) (n := 92) (as := .ref o :: As) (σ := σ)
  have room : 92 - 0 + 0 ≤ room_1.cells ∧ am_sz SH KF 92 - am_sz SH KF 0 + 0 ≤ room_1.slots := by decide +kernel
  exact am_call (va_runV (As := As) (rest := rest) (C := r.1) (n := na) fx hMet ⟨⟨rfl, rfl, by show d + 1 ≤ 2048; omega, by show 8 + (maxL + 11) + 64 * d ≤ 84000; omega, am_words hts hcode, am_code_in, hts _ hcode, hts _ hini, ⟨hd3.1, hd3.2.1⟩, am_sig hd3.2.2, hts _ hlink⟩, hts _ hinst, hts _ hsel⟩
    ⟨blind, va_recv hK hP hr (am_ws_obj ho hso), pre⟩ rfl hna hl.1 rfl (lv_room hcat) hdg room) hS kk
theorem FM_h {σ τ : am_S} (h : Hi σ τ) (hF : FM 0 σ) : FM 0 τ := FM_of (fun o k hd => by
  have ho : 51 ≤ o := by
    unfold FMd at hd
    split at hd <;> first | omega | cases hd
  rw [(h o ho).1]) hF
theorem ex_i (x : Int32) : ∃ z : Int, (-2147483648 ≤ z ∧ z < 2147483648) ∧ x = Int32.ofInt z := ⟨x.toInt, ⟨Int32.le_toInt x, Int32.toInt_lt x⟩, (Int32.ofInt_toInt x).symm⟩
theorem am_ni (a : Nat) : ∀ l : List Value, (∀ v ∈ l, ∃ x, v = .int x) → l.map (am_c a) = l := by
  intro l h
  induction l with
  | nil => rfl
  | cons v t ih =>
    obtain ⟨x, rfl⟩ := h v List.mem_cons_self
    rw [List.map_cons, ih (fun w hw => h w (List.mem_cons_of_mem _ hw))]
    rfl
theorem hold_eq (z1 : Int) : Int32.ofInt (if 0 ≤ z1 ∧ z1 < 3 then 1 else 0) = Int32.ofInt (if 0 ≤ z1 ∧ z1 ≤ 2 then 1 else 0) := by
  by_cases h : 0 ≤ z1 ∧ z1 < 3
  · rw [if_pos h, if_pos (by omega)]
  · rw [if_neg h, if_neg (by omega)]
set_option maxRecDepth 100000 in
theorem lw_c0 {p : Program} {l : Launch} {e : Env} {s : State} {m : MethodId} {below : List Frame} {meth : Method} {c : Code} {D : va_G} {aC : Nat → ClassId} {b L : Nat} {xs : Nat → Int32} (C : lw_K p s m c D aC b L xs) (hL6 : L = 6) {z1 : Int} (hz1 : -2147483648 ≤ z1 ∧ z1 < 2147483648) (hx1 : xs 1 = Int32.ofInt z1) {z2 : Int} (hz2 : -2147483648 ≤ z2 ∧ z2 < 2147483648) (hx2 : xs 2 = Int32.ofInt z2) {z3 : Int} (hz3 : -2147483648 ≤ z3 ∧ z3 < 2147483648) (hx3 : xs 3 = Int32.ofInt z3) {z4 : Int} (hz4 : -2147483648 ≤ z4 ∧ z4 < 2147483648) (hx4 : xs 4 = Int32.ofInt z4) {z5 : Int} (hz5 : -2147483648 ≤ z5 ∧ z5 < 2147483648) (hx5 : xs 5 = Int32.ofInt z5) {σ : am_S} {H : Heap} {locs : List Loc} {lc : Array Slot} (hF : FB 0 σ) (hFS : FS σ) (hL : FL σ) (hM0 : FM 0 σ) (hPr0 : σ.1 87 0 = Int32.ofInt 0) (hP : va_P D vwCl (am_ws SH KF s.heap.size aC 92 σ) H) (hS : va_S (fun q => s.heap.size ≤ q) s.heap H locs) (hl : lv_has lc 4 [(3, .int 0), (2, .ref (s.heap.size + 51)), (1, .ref (s.heap.size + 0)), (0, .ref b)])
    (back : ∀ (H : Heap) (locs : List Loc), va_S (fun q => s.heap.size ≤ q) s.heap H locs → W p l e room_1 s m #[Value.ref b] below meth c H locs (92 - 0) (am_sz SH KF 92 - am_sz SH KF 0) (lw_Z below #[Value.ref b] s) (F0 m 1371 lc [])) : W p l e room_1 s m #[Value.ref b] below meth c H locs (92 - 0) (am_sz SH KF 92 - am_sz SH KF 0) (lw_Z below #[Value.ref b] s) (F0 m 212 lc []) := by
  refine lv_aload_n C.1 C.2.1 dL_law_212 rfl (lv_at hl 2 rfl) ?_
  refine lw_arg C hS hl (k := 1) (v := Int32.ofInt z1) dL_law_213 dL_law_214 dL_law_215 dL_law_216 dL_law_217 rfl hL6 (by decide) hx1 ?_
  refine lw_arg C hS hl (k := 2) (v := Int32.ofInt z2) dL_law_218 dL_law_219 dL_law_220 dL_law_221 dL_law_222 rfl hL6 (by decide) hx2 ?_
  refine lw_arg C hS hl (k := 3) (v := Int32.ofInt z3) dL_law_223 dL_law_224 dL_law_225 dL_law_226 dL_law_227 rfl hL6 (by decide) hx3 ?_
  refine lw_arg C hS hl (k := 4) (v := Int32.ofInt z4) dL_law_228 dL_law_229 dL_law_230 dL_law_231 dL_law_232 rfl hL6 (by decide) hx4 ?_
  refine lw_arg C hS hl (k := 5) (v := Int32.ofInt z5) dL_law_233 dL_law_234 dL_law_235 dL_law_236 dL_law_237 rfl hL6 (by decide) hx5 ?_
  refine lw_call C (ix := 13) (o := 0) (As := [.int (Int32.ofInt z1), .int (Int32.ofInt z2), .int (Int32.ofInt z3), .int (Int32.ofInt z4), .int (Int32.ofInt z5)]) (rest := []) (ci := 11) (na := 5) (pc := 238) (post := fun v τ => v = some (.int (Int32.ofInt (20))) ∧ Hi σ τ) (mX11_feed l) (by decide) (by decide) (tb_at 520 (by decide +kernel) (by decide +kernel)) (tb_at 103 (by decide +kernel) (by decide +kernel)) ⟨by decide +kernel, by decide +kernel, by decide +kernel⟩ (tb_at 517 (by decide +kernel) (by decide +kernel)) (tb_at 518 (by decide +kernel) (by decide +kernel)) rfl (tb_at 519 (by decide +kernel) (by decide +kernel)) (by decide) rfl (am_ni _ _ (by intro v hv; simp at hv; first | exact ⟨_, hv⟩ | (rcases hv with hv | hv <;> exact ⟨_, hv⟩) | (rcases hv with hv | hv | hv <;> exact ⟨_, hv⟩) | (rcases hv with hv | hv | hv | hv <;> exact ⟨_, hv⟩) | (rcases hv with hv | hv | hv | hv | hv <;> exact ⟨_, hv⟩))) rfl (Nat.le_of_ble_eq_true rfl) dL_law_238 hP hS hl ⟨_, _, _, _, _, 0, rfl, rfl, hF, (fun τ h => ⟨rfl, h⟩)⟩ (fun v τ H1 locs1 hv hP1 hS1 => ?_)
  obtain ⟨rfl, hHi⟩ := hv
  have hM := FM_h hHi hM0
  have hPr : τ.1 87 0 = Int32.ofInt 0 := by rw [(hHi _ (by decide)).1]; exact hPr0
  refine lv_aload_n C.1 C.2.1 dL_law_241 rfl (lv_at hl 1 rfl) ?_
  refine lw_arg C hS1 hl (k := 1) (v := Int32.ofInt z1) dL_law_242 dL_law_243 dL_law_244 dL_law_245 dL_law_246 rfl hL6 (by decide) hx1 ?_
  refine lw_arg C hS1 hl (k := 2) (v := Int32.ofInt z2) dL_law_247 dL_law_248 dL_law_249 dL_law_250 dL_law_251 rfl hL6 (by decide) hx2 ?_
  refine lw_arg C hS1 hl (k := 3) (v := Int32.ofInt z3) dL_law_252 dL_law_253 dL_law_254 dL_law_255 dL_law_256 rfl hL6 (by decide) hx3 ?_
  refine lw_arg C hS1 hl (k := 4) (v := Int32.ofInt z4) dL_law_257 dL_law_258 dL_law_259 dL_law_260 dL_law_261 rfl hL6 (by decide) hx4 ?_
  refine lw_arg C hS1 hl (k := 5) (v := Int32.ofInt z5) dL_law_262 dL_law_263 dL_law_264 dL_law_265 dL_law_266 rfl hL6 (by decide) hx5 ?_
  refine lw_call C (ix := 17) (o := 51) (As := [.int (Int32.ofInt z1), .int (Int32.ofInt z2), .int (Int32.ofInt z3), .int (Int32.ofInt z4), .int (Int32.ofInt z5)]) (rest := [.int (Int32.ofInt (20))]) (ci := 12) (na := 5) (pc := 267) (post := fun v _ => v = some (.int (Int32.ofInt (20)))) (mX12_feed l) (by decide) (by decide) (tb_at 1508 (by decide +kernel) (by decide +kernel)) (tb_at 120 (by decide +kernel) (by decide +kernel)) ⟨by decide +kernel, by decide +kernel, by decide +kernel⟩ (tb_at 1505 (by decide +kernel) (by decide +kernel)) (tb_at 1506 (by decide +kernel) (by decide +kernel)) rfl (tb_at 1507 (by decide +kernel) (by decide +kernel)) (by decide) rfl (am_ni _ _ (by intro v hv; simp at hv; first | exact ⟨_, hv⟩ | (rcases hv with hv | hv <;> exact ⟨_, hv⟩) | (rcases hv with hv | hv | hv <;> exact ⟨_, hv⟩) | (rcases hv with hv | hv | hv | hv <;> exact ⟨_, hv⟩) | (rcases hv with hv | hv | hv | hv | hv <;> exact ⟨_, hv⟩))) rfl (Nat.le_of_ble_eq_true rfl) dL_law_267 hP1 hS1 hl ⟨_, _, _, _, _, rfl, rfl, hM, (fun _ => rfl)⟩ (fun v τ1 H11 locs11 hv hP11 hS11 => ?_)
  subst hv
  refine lv_icmp_eq (tgt := 1371) C.1 C.2.1 dL_law_270 rfl (fun _ => ?_) (fun h => absurd rfl h)
  exact back _ _ hS11
set_option maxRecDepth 100000 in
theorem lw_c1 {p : Program} {l : Launch} {e : Env} {s : State} {m : MethodId} {below : List Frame} {meth : Method} {c : Code} {D : va_G} {aC : Nat → ClassId} {b L : Nat} {xs : Nat → Int32} (C : lw_K p s m c D aC b L xs) (hL6 : L = 6) {z1 : Int} (hz1 : -2147483648 ≤ z1 ∧ z1 < 2147483648) (hx1 : xs 1 = Int32.ofInt z1) {σ : am_S} {H : Heap} {locs : List Loc} {lc : Array Slot} (hF : FB 0 σ) (hFS : FS σ) (hL : FL σ) (hM0 : FM 0 σ) (hPr0 : σ.1 87 0 = Int32.ofInt 0) (hP : va_P D vwCl (am_ws SH KF s.heap.size aC 92 σ) H) (hS : va_S (fun q => s.heap.size ≤ q) s.heap H locs) (hl : lv_has lc 4 [(3, .int 0), (2, .ref (s.heap.size + 51)), (1, .ref (s.heap.size + 0)), (0, .ref b)])
    (back : ∀ (H : Heap) (locs : List Loc), va_S (fun q => s.heap.size ≤ q) s.heap H locs → W p l e room_1 s m #[Value.ref b] below meth c H locs (92 - 0) (am_sz SH KF 92 - am_sz SH KF 0) (lw_Z below #[Value.ref b] s) (F0 m 1371 lc [])) : W p l e room_1 s m #[Value.ref b] below meth c H locs (92 - 0) (am_sz SH KF 92 - am_sz SH KF 0) (lw_Z below #[Value.ref b] s) (F0 m 275 lc []) := by
  refine lv_aload_n C.1 C.2.1 dL_law_275 rfl (lv_at hl 2 rfl) ?_
  refine lw_arg C hS hl (k := 1) (v := Int32.ofInt z1) dL_law_276 dL_law_277 dL_law_278 dL_law_279 dL_law_280 rfl hL6 (by decide) hx1 ?_
  refine lw_call C (ix := 18) (o := 0) (As := [.int (Int32.ofInt z1)]) (rest := []) (ci := 11) (na := 1) (pc := 281) (post := fun v τ => v = some (.int (Int32.ofInt (if z1 = 0 then 0 else -1))) ∧ Hi σ τ) (mX11_back l) (by decide) (by decide) (tb_at 528 (by decide +kernel) (by decide +kernel)) (tb_at 103 (by decide +kernel) (by decide +kernel)) ⟨by decide +kernel, by decide +kernel, by decide +kernel⟩ (tb_at 525 (by decide +kernel) (by decide +kernel)) (tb_at 526 (by decide +kernel) (by decide +kernel)) rfl (tb_at 527 (by decide +kernel) (by decide +kernel)) (by decide) rfl (am_ni _ _ (by intro v hv; simp at hv; first | exact ⟨_, hv⟩ | (rcases hv with hv | hv <;> exact ⟨_, hv⟩) | (rcases hv with hv | hv | hv <;> exact ⟨_, hv⟩) | (rcases hv with hv | hv | hv | hv <;> exact ⟨_, hv⟩) | (rcases hv with hv | hv | hv | hv | hv <;> exact ⟨_, hv⟩))) rfl (Nat.le_of_ble_eq_true rfl) dL_law_281 hP hS hl ⟨z1, 0, hz1, rfl, rfl, hF, (fun τ h => ⟨rfl, h⟩)⟩ (fun v τ H1 locs1 hv hP1 hS1 => ?_)
  obtain ⟨rfl, hHi⟩ := hv
  have hM := FM_h hHi hM0
  have hPr : τ.1 87 0 = Int32.ofInt 0 := by rw [(hHi _ (by decide)).1]; exact hPr0
  refine lv_aload_n C.1 C.2.1 dL_law_284 rfl (lv_at hl 1 rfl) ?_
  refine lw_arg C hS1 hl (k := 1) (v := Int32.ofInt z1) dL_law_285 dL_law_286 dL_law_287 dL_law_288 dL_law_289 rfl hL6 (by decide) hx1 ?_
  refine lw_call C (ix := 22) (o := 51) (As := [.int (Int32.ofInt z1)]) (rest := [.int (Int32.ofInt (if z1 = 0 then 0 else -1))]) (ci := 12) (na := 1) (pc := 290) (post := fun v _ => v = some (.int (Int32.ofInt (if z1 = 0 then 0 else -1)))) (mX12_back l) (by decide) (by decide) (tb_at 1516 (by decide +kernel) (by decide +kernel)) (tb_at 120 (by decide +kernel) (by decide +kernel)) ⟨by decide +kernel, by decide +kernel, by decide +kernel⟩ (tb_at 1513 (by decide +kernel) (by decide +kernel)) (tb_at 1514 (by decide +kernel) (by decide +kernel)) rfl (tb_at 1515 (by decide +kernel) (by decide +kernel)) (by decide) rfl (am_ni _ _ (by intro v hv; simp at hv; first | exact ⟨_, hv⟩ | (rcases hv with hv | hv <;> exact ⟨_, hv⟩) | (rcases hv with hv | hv | hv <;> exact ⟨_, hv⟩) | (rcases hv with hv | hv | hv | hv <;> exact ⟨_, hv⟩) | (rcases hv with hv | hv | hv | hv | hv <;> exact ⟨_, hv⟩))) rfl (Nat.le_of_ble_eq_true rfl) dL_law_290 hP1 hS1 hl ⟨z1, hz1, rfl, rfl, hM, (fun _ => rfl)⟩ (fun v τ1 H11 locs11 hv hP11 hS11 => ?_)
  subst hv
  refine lv_icmp_eq (tgt := 1371) C.1 C.2.1 dL_law_293 rfl (fun _ => ?_) (fun h => absurd rfl h)
  exact back _ _ hS11
