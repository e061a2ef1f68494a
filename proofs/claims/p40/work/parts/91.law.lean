/-! THE LAW: what each of its rows asks, over the contracts of the class and of the reference. Printed by wip/am/gen90.py. -/
def lw_K (p : Program) (s : State) (m : MethodId) (c : Code) (D : va_G) (aC : Nat → ClassId) (b L : Nat) (xs : Nat → Int32) : Prop := p.tables.exec = Jvm.exec ∧ c.code = code ∧ c.maxLocals = 4 ∧ s.vm.findClass R_law = some m.cls ∧ (∀ w ∈ TB, w.before #[Value.ref b] s = true) ∧ va_X b L xs s s.heap ∧ b < s.heap.size ∧ va_K D vwCl (am_tys aC) s ∧ am_Nw NB s.heap.size s
/-- the k-th int behind i of the script is pushed -/
theorem lw_arg {p : Program} {l : Launch} {e : Env} {s : State} {m : MethodId} {below : List Frame} {meth : Method} {c : Code} {D : va_G} {aC : Nat → ClassId} {b L : Nat} {xs : Nat → Int32} (C : lw_K p s m c D aC b L xs) {H : Heap} {locs : List Loc} {cells slots : Nat} {Q : State → Prop} {lc : Array Slot} {i : Int} {rest : List Value} (hS : va_S (fun q => s.heap.size ≤ q) s.heap H locs) (hl : lv_has lc 4 [(3, .int (Int32.ofInt i)), (2, .ref (s.heap.size + 51)), (1, .ref (s.heap.size + 0)), (0, .ref b)]) {pc k : Nat} {kz : Int} (d0 : decode code pc = .ok (.aload_n 0, 1)) (d1 : decode code (pc + 1) = .ok (.iload_n 3, 1)) (d2 : decode code (pc + 2) = .ok (.iconst kz, 1)) (d3 : decode code (pc + 3) = .ok (.iadd, 1)) (d4 : decode code (pc + 4) = .ok (.iaload, 1)) (hkz : kz = (k : Int)) (hi : 0 ≤ i ∧ i + 6 ≤ (L : Int) ∧ L ≤ 3072) (hk : k < 6)
    (kk : W p l e room_1 s m #[Value.ref b] below meth c H locs cells slots Q (F0 m (pc + 5) lc (.int (xs (i.toNat + k)) :: rest))) : W p l e room_1 s m #[Value.ref b] below meth c H locs cells slots Q (F0 m pc lc rest) := by
  obtain ⟨hx, hb, hml, hown, hts, hX, hbl, hK, hN⟩ := C
  have hbA : ¬ (fun q : Nat => s.heap.size ≤ q) b := Nat.not_le.mpr hbl
  subst hkz
  have q0 : Int32.ofInt i + Int32.ofInt (k : Int) = Int32.ofInt (i + (k : Int)) := ii_add _ _
  have q1 : (Int32.ofInt i + Int32.ofInt (k : Int)).toNatClampNeg = i.toNat + k := by
    rw [q0, ii_c (by omega) (by omega)]
    omega
  have q2 : ¬ (Int32.ofInt i + Int32.ofInt (k : Int) < 0) := by
    rw [q0, ii_0, ii_lt (by omega) (by omega) (by omega) (by omega)]
    omega
  refine lv_aload_n hx hb d0 rfl (lv_at hl 3 rfl) ?_
  refine lv_iload_n hx hb d1 rfl (lv_at hl 0 rfl) ?_
  refine lv_iconst hx hb d2 rfl ?_
  refine lv_iadd hx hb d3 ?_
  refine va_sld hx hb hX hbl hbA hS (fun z => z.elim q2 (fun z2 => by rw [q1] at z2; omega)) d4 ?_
  rw [q1]
  exact kk
/-- a method of one of the two objects is called -/
theorem lw_call {p : Program} {l : Launch} {e : Env} {s : State} {m : MethodId} {below : List Frame} {meth : Method} {c : Code} {D : va_G} {aC : Nat → ClassId} {b L : Nat} {xs : Nat → Int32} (C : lw_K p s m c D aC b L xs) {y : MethodName} {cc : ByteArray} {maxL d na ix ci o pc : Nat} {rt : Option FieldType} {sp : am_Sp} {r : vw_C} {As rest : List Value} {lc : Array Slot} {i : Int} {σ : am_S} {H : Heap} {locs : List Loc} {post : Option Value → am_S → Prop} (hM : am_M l TB NB vwCl SH KF y cc maxL rt d 0 0 sp) (hd : d + 1 ≤ 1200) (hmx : maxL ≤ 40) (hcode : Cond.code y cc maxL rt ∈ TB) (hini : Cond.initialized y.cls ∈ TB) (hd3 : y.cls ≠ "java/lang/invoke/MethodHandle" ∧ y.cls ≠ "java/lang/invoke/VarHandle" ∧ (parseMethodDescriptor y.desc).map (fun d => d.parameters.length) = some na) (hlink : Cond.methodLink R_law ix y ∈ TB) (hinst : Cond.instanceMethod y ∈ TB) (hr : vwCl[ci]? = some r) (hsel : Cond.selects r.1 y y ∈ TB) (ho : o < 92) (hso : SH o = .inl ci) (hAs : As.map (am_c s.heap.size) = As) (hna : As.length = na) (hcat : (rest.map fun v => v.category).sum ≤ 8) (hdg : decode code pc = .ok (.invokevirtual ix, 3))
    (hP : va_P D vwCl (am_ws SH KF s.heap.size aC 92 σ) H) (hS : va_S (fun q => s.heap.size ≤ q) s.heap H locs) (hl : lv_has lc 4 [(3, .int (Int32.ofInt i)), (2, .ref (s.heap.size + 51)), (1, .ref (s.heap.size + 0)), (0, .ref b)]) (hsp : sp (.ref o :: As) 92 σ post)
    (kk : ∀ (v : Option Value) (τ : am_S) (H1 : Heap) (locs1 : List Loc), post v τ → va_P D vwCl (am_ws SH KF s.heap.size aC 92 τ) H1 → va_S (fun q => s.heap.size ≤ q) s.heap H1 locs1 → W p l e room_1 s m #[Value.ref b] below meth c H1 locs1 (92 - 0) (am_sz SH KF 92 - am_sz SH KF 0) (lw_Z below #[Value.ref b] s) (F0 m (pc + 3) lc ((v.map (am_c s.heap.size)).toList ++ rest))) : W p l e room_1 s m #[Value.ref b] below meth c H locs (92 - 0) (am_sz SH KF 92 - am_sz SH KF 0) (lw_Z below #[Value.ref b] s) (F0 m pc lc (As.reverse ++ .ref (s.heap.size + o) :: rest)) := by
  obtain ⟨hx, hb, hml, hown, hts, hX, hbl, hK, hN⟩ := C
  refine am_size (n0 := 0) hP hS rfl (Nat.zero_le _) rfl fun hzH => ?_
  have hMet := hM D aC s.heap.size 92 _ σ _ hsp rfl
  have fx : CallFix p m c code 4 s #[Value.ref b] TB R_law := ⟨hx, hb, hml, hown, hts⟩
  have hm2 : (Value.ref o :: As).map (am_c s.heap.size) = .ref (s.heap.size + o) :: As := by
    show Value.ref (s.heap.size + o) :: As.map (am_c s.heap.size) = _
    rw [hAs]
  have pre := am_pre (as := .ref o :: As) hzH hP hK hN hS
  rw [hm2] at pre
  have blind := am_blind (cl := vwCl) (NB := NB) (D := D) (aC := aC) (b := s.heap.size) (SH := SH) (KF := KF) (n := 92) (as := .ref o :: As) (σ := σ)
  have room : 92 - 0 + 0 ≤ room_1.cells ∧ am_sz SH KF 92 - am_sz SH KF 0 + 0 ≤ room_1.slots := by decide +kernel
  exact am_call (va_runV (As := As) (rest := rest) (C := r.1) (n := na) fx hMet ⟨⟨rfl, rfl, by show d + 1 ≤ 2048; omega, by show 8 + (maxL + 11) + 64 * d ≤ 84000; omega, am_words hts hcode, am_code_in, hts _ hcode, hts _ hini, ⟨hd3.1, hd3.2.1⟩, am_sig hd3.2.2, hts _ hlink⟩, hts _ hinst, hts _ hsel⟩
    ⟨blind, va_recv hK hP hr (am_ws_obj ho hso), pre⟩ rfl hna hl.1 rfl (lv_room hcat) hdg room) hS kk
theorem am_ni (a : Nat) : ∀ l : List Value, (∀ v ∈ l, ∃ x, v = .int x) → l.map (am_c a) = l := by
  intro l h
  induction l with
  | nil => rfl
  | cons v t ih =>
    obtain ⟨x, rfl⟩ := h v List.mem_cons_self
    rw [List.map_cons, ih (fun w hw => h w (List.mem_cons_of_mem _ hw))]
    rfl
/-- memory in its bounds, the reference's laws fit to be reckoned -/
def okS (σ : am_S) : Prop := sb_ok BB SH σ ∧ JJ σ
theorem sp_f (x : Int32) : sp_in (.inl (-2147483648, 2147483647)) (.int x) := ⟨x, rfl, ii_lo x, by have := ii_hi x; show x.toInt ≤ 2147483647; omega⟩
/-- a public method by its word -/
theorem lw_use {sm : List sa_A} {a : sa_A} {t : List sa_A} {As : List Value} {σ : am_S} (hs : sm = a :: t) (hi : a.2.1.all (fun r => match r.1 with
  | some (.inl _) => true
  | _ => false) = true) (hp : sp_all a.1 As) (h : okS σ) : sp_w JJ BB SH 92 sm As 92 σ (fun v τ => (∃ x : Int32, v = some (.int x) ∧ sp_ret a.2.1 As (some (.int x))) ∧ okS τ ∧ sb_fr a.2.2 σ τ) := by
  subst hs
  refine ⟨rfl, h.1, h.2, a, List.mem_cons_self, hp, fun v τ h1 h2 h3 h4 => ⟨?_, ⟨h1, h2⟩, h3⟩⟩
  obtain ⟨r, r1, r2, r3⟩ := h4
  have q := List.all_eq_true.mp hi r r1
  cases hr : r.1 with
  | none => rw [hr] at q; cases q
  | some p =>
    rw [hr] at q r2
    cases v with
    | none => exact r2.elim
    | some w =>
      cases p with
      | inr _ => cases q
      | inl b =>
        obtain ⟨x, hx, hb⟩ := r2
        subst hx
        exact ⟨x, rfl, r, r1, by rw [hr]; exact ⟨x, rfl, hb⟩, r3⟩
/-- the reference's read -/
theorem lw_useR {σ : am_S} (h : okS σ) : sX12_read [.ref 51] 92 σ (fun v τ => (∃ x : Int32, v = some (.int x) ∧ True) ∧ okS τ ∧ (∀ o i, o < 51 → τ.1 o i = σ.1 o i ∧ τ.2 o i = σ.2 o i) ∧ τ.1 51 2 = 0) := ⟨rfl, h.1, h.2, rfl, fun x τ h1 h2 h3 h4 => ⟨⟨x, rfl, trivial⟩, ⟨h1, h2⟩, h3, h4⟩⟩
def lw_hq (r : sa_R) : Bool := match r.1 with
  | some (.inl b) => decide (b = (0, 0)) && (r.2.any (fun q => decide (q.1 = 1 ∧ (q.2.2 < 0 ∨ 2 < q.2.1)))) || decide (b = (1, 1)) && (r.2.any (fun q => decide (q.1 = 1 ∧ 0 ≤ q.2.1 ∧ q.2.2 ≤ 2)))
  | _ => false
theorem lw_hold {rs : List sa_R} {o : Nat} {s x : Int32} (hrs : rs.all lw_hq = true) (h : sp_ret rs [.ref o, .int s] (some (.int x))) : x.toInt = if 0 ≤ s.toInt ∧ s.toInt ≤ 2 then 1 else 0 := by
  obtain ⟨r, r1, r2, r3⟩ := h
  have q := List.all_eq_true.mp hrs r r1
  unfold lw_hq at q
  cases hr : r.1 with
  | none => rw [hr] at q; cases q
  | some p =>
    rw [hr] at q r2
    cases p with
    | inr _ => cases q
    | inl b =>
      obtain ⟨x', hx, hb1, hb2⟩ := r2
      cases hx
      simp only [Bool.or_eq_true, Bool.and_eq_true, decide_eq_true_eq] at q
      have arg : ∀ z ∈ r.2, z.1 = 1 → z.2.1 ≤ s.toInt ∧ s.toInt ≤ z.2.2 := fun z hz e => by
        obtain ⟨y, y1, y2⟩ := r3 z hz
        rw [e] at y1
        simp at y1
        subst y1
        exact y2
      rcases q with ⟨rfl, q⟩ | ⟨rfl, q⟩
      · obtain ⟨z, z1, z2⟩ := List.any_eq_true.mp q
        obtain ⟨z3, z4⟩ := of_decide_eq_true z2
        have := arg z z1 z3
        have e1 : (0 : Int) ≤ x.toInt := hb1
        have e2 : x.toInt ≤ 0 := hb2
        rw [if_neg (by omega)]
        omega
      · obtain ⟨z, z1, z2⟩ := List.any_eq_true.mp q
        obtain ⟨z3, z4⟩ := of_decide_eq_true z2
        have := arg z z1 z3
        have e1 : (1 : Int) ≤ x.toInt := hb1
        have e2 : x.toInt ≤ 1 := hb2
        rw [if_pos (by omega)]
        omega
theorem lw_same_hold {s x y : Int32} {r1 r2 : List sa_R} {o1 o2 : Nat} (h1 : sp_ret r1 [.ref o1, .int s] (some (.int x))) (h2 : sp_ret r2 [.ref o2, .int s] (some (.int y))) (e1 : r1.all lw_hq = true := by decide) (e2 : r2.all lw_hq = true := by decide) : x = y := by
  apply Int32.toInt_inj.mp
  rw [lw_hold e1 h1, lw_hold e2 h2]
set_option maxRecDepth 100000 in
theorem lw_c0 {p : Program} {l : Launch} {e : Env} {s : State} {m : MethodId} {below : List Frame} {meth : Method} {c : Code} {D : va_G} {aC : Nat → ClassId} {b L : Nat} {xs : Nat → Int32} (C : lw_K p s m c D aC b L xs) {i : Int} (hi : 0 ≤ i ∧ i + 6 ≤ (L : Int) ∧ L ≤ 3072) {σ : am_S} {H : Heap} {locs : List Loc} {lc : Array Slot} (hok : okS σ) (hP : va_P D vwCl (am_ws SH KF s.heap.size aC 92 σ) H) (hS : va_S (fun q => s.heap.size ≤ q) s.heap H locs) (hl : lv_has lc 4 [(3, .int (Int32.ofInt i)), (2, .ref (s.heap.size + 51)), (1, .ref (s.heap.size + 0)), (0, .ref b)])
    (back : ∀ (τ : am_S) (H : Heap) (locs : List Loc), okS τ → va_P D vwCl (am_ws SH KF s.heap.size aC 92 τ) H → va_S (fun q => s.heap.size ≤ q) s.heap H locs → W p l e room_1 s m #[Value.ref b] below meth c H locs (92 - 0) (am_sz SH KF 92 - am_sz SH KF 0) (lw_Z below #[Value.ref b] s) (F0 m 1371 lc [])) : W p l e room_1 s m #[Value.ref b] below meth c H locs (92 - 0) (am_sz SH KF 92 - am_sz SH KF 0) (lw_Z below #[Value.ref b] s) (F0 m 212 lc []) := by
  refine lv_aload_n C.1 C.2.1 dL_law_212 rfl (lv_at hl 2 rfl) ?_
  refine lw_arg C hS hl (k := 1) dL_law_213 dL_law_214 dL_law_215 dL_law_216 dL_law_217 rfl hi (by decide) ?_
  refine lw_arg C hS hl (k := 2) dL_law_218 dL_law_219 dL_law_220 dL_law_221 dL_law_222 rfl hi (by decide) ?_
  refine lw_arg C hS hl (k := 3) dL_law_223 dL_law_224 dL_law_225 dL_law_226 dL_law_227 rfl hi (by decide) ?_
  refine lw_arg C hS hl (k := 4) dL_law_228 dL_law_229 dL_law_230 dL_law_231 dL_law_232 rfl hi (by decide) ?_
  refine lw_arg C hS hl (k := 5) dL_law_233 dL_law_234 dL_law_235 dL_law_236 dL_law_237 rfl hi (by decide) ?_
  refine lw_call C (ix := 13) (o := 0) (As := [.int (xs (i.toNat + 1)), .int (xs (i.toNat + 2)), .int (xs (i.toNat + 3)), .int (xs (i.toNat + 4)), .int (xs (i.toNat + 5))]) (rest := []) (ci := 11) (na := 5) (pc := 238) (nX11_feed l) (by decide) (by decide) (tb_at 520 (by decide +kernel) (by decide +kernel)) (tb_at 103 (by decide +kernel) (by decide +kernel)) ⟨by decide +kernel, by decide +kernel, by decide +kernel⟩ (tb_at 517 (by decide +kernel) (by decide +kernel)) (tb_at 518 (by decide +kernel) (by decide +kernel)) rfl (tb_at 519 (by decide +kernel) (by decide +kernel)) (by decide) rfl (am_ni _ _ (by intro v hv; simp at hv; first | exact ⟨_, hv⟩ | (rcases hv with hv | hv <;> exact ⟨_, hv⟩) | (rcases hv with hv | hv | hv <;> exact ⟨_, hv⟩) | (rcases hv with hv | hv | hv | hv <;> exact ⟨_, hv⟩) | (rcases hv with hv | hv | hv | hv | hv <;> exact ⟨_, hv⟩))) rfl (Nat.le_of_ble_eq_true rfl) dL_law_238 hP hS hl (lw_use rfl (by decide) ⟨rfl, sp_f _, sp_f _, sp_f _, sp_f _, sp_f _, trivial⟩ hok) (fun v τ1 H1 locs1 hv hP1 hS1 => ?_)
  obtain ⟨⟨x0, rfl, hr0⟩, hok1, hfr0⟩ := hv
  refine lv_pop C.1 C.2.1 dL_law_241 rfl ?_
  refine lv_aload_n C.1 C.2.1 dL_law_242 rfl (lv_at hl 1 rfl) ?_
  refine lw_arg C hS1 hl (k := 1) dL_law_243 dL_law_244 dL_law_245 dL_law_246 dL_law_247 rfl hi (by decide) ?_
  refine lw_arg C hS1 hl (k := 2) dL_law_248 dL_law_249 dL_law_250 dL_law_251 dL_law_252 rfl hi (by decide) ?_
  refine lw_arg C hS1 hl (k := 3) dL_law_253 dL_law_254 dL_law_255 dL_law_256 dL_law_257 rfl hi (by decide) ?_
  refine lw_arg C hS1 hl (k := 4) dL_law_258 dL_law_259 dL_law_260 dL_law_261 dL_law_262 rfl hi (by decide) ?_
  refine lw_arg C hS1 hl (k := 5) dL_law_263 dL_law_264 dL_law_265 dL_law_266 dL_law_267 rfl hi (by decide) ?_
  refine lw_call C (ix := 17) (o := 51) (As := [.int (xs (i.toNat + 1)), .int (xs (i.toNat + 2)), .int (xs (i.toNat + 3)), .int (xs (i.toNat + 4)), .int (xs (i.toNat + 5))]) (rest := []) (ci := 12) (na := 5) (pc := 268) (nX12_feed l) (by decide) (by decide) (tb_at 1508 (by decide +kernel) (by decide +kernel)) (tb_at 120 (by decide +kernel) (by decide +kernel)) ⟨by decide +kernel, by decide +kernel, by decide +kernel⟩ (tb_at 1505 (by decide +kernel) (by decide +kernel)) (tb_at 1506 (by decide +kernel) (by decide +kernel)) rfl (tb_at 1507 (by decide +kernel) (by decide +kernel)) (by decide) rfl (am_ni _ _ (by intro v hv; simp at hv; first | exact ⟨_, hv⟩ | (rcases hv with hv | hv <;> exact ⟨_, hv⟩) | (rcases hv with hv | hv | hv <;> exact ⟨_, hv⟩) | (rcases hv with hv | hv | hv | hv <;> exact ⟨_, hv⟩) | (rcases hv with hv | hv | hv | hv | hv <;> exact ⟨_, hv⟩))) rfl (Nat.le_of_ble_eq_true rfl) dL_law_268 hP1 hS1 hl (lw_use rfl (by decide) ⟨rfl, sp_f _, sp_f _, sp_f _, sp_f _, sp_f _, trivial⟩ hok1) (fun v τ11 H11 locs11 hv hP11 hS11 => ?_)
  obtain ⟨⟨x1, rfl, hr1⟩, hok11, hfr1⟩ := hv
  refine lv_pop C.1 C.2.1 dL_law_271 rfl ?_
  refine lv_goto (tgt := 1371) C.1 C.2.1 dL_law_272 rfl ?_
  exact back _ _ _ hok11 hP11 hS11
set_option maxRecDepth 100000 in
theorem lw_c1 {p : Program} {l : Launch} {e : Env} {s : State} {m : MethodId} {below : List Frame} {meth : Method} {c : Code} {D : va_G} {aC : Nat → ClassId} {b L : Nat} {xs : Nat → Int32} (C : lw_K p s m c D aC b L xs) {i : Int} (hi : 0 ≤ i ∧ i + 6 ≤ (L : Int) ∧ L ≤ 3072) {σ : am_S} {H : Heap} {locs : List Loc} {lc : Array Slot} (hok : okS σ) (hP : va_P D vwCl (am_ws SH KF s.heap.size aC 92 σ) H) (hS : va_S (fun q => s.heap.size ≤ q) s.heap H locs) (hl : lv_has lc 4 [(3, .int (Int32.ofInt i)), (2, .ref (s.heap.size + 51)), (1, .ref (s.heap.size + 0)), (0, .ref b)])
    (back : ∀ (τ : am_S) (H : Heap) (locs : List Loc), okS τ → va_P D vwCl (am_ws SH KF s.heap.size aC 92 τ) H → va_S (fun q => s.heap.size ≤ q) s.heap H locs → W p l e room_1 s m #[Value.ref b] below meth c H locs (92 - 0) (am_sz SH KF 92 - am_sz SH KF 0) (lw_Z below #[Value.ref b] s) (F0 m 1371 lc [])) : W p l e room_1 s m #[Value.ref b] below meth c H locs (92 - 0) (am_sz SH KF 92 - am_sz SH KF 0) (lw_Z below #[Value.ref b] s) (F0 m 275 lc []) := by
  refine lv_aload_n C.1 C.2.1 dL_law_275 rfl (lv_at hl 2 rfl) ?_
  refine lw_arg C hS hl (k := 1) dL_law_276 dL_law_277 dL_law_278 dL_law_279 dL_law_280 rfl hi (by decide) ?_
  refine lw_call C (ix := 18) (o := 0) (As := [.int (xs (i.toNat + 1))]) (rest := []) (ci := 11) (na := 1) (pc := 281) (nX11_back l) (by decide) (by decide) (tb_at 528 (by decide +kernel) (by decide +kernel)) (tb_at 103 (by decide +kernel) (by decide +kernel)) ⟨by decide +kernel, by decide +kernel, by decide +kernel⟩ (tb_at 525 (by decide +kernel) (by decide +kernel)) (tb_at 526 (by decide +kernel) (by decide +kernel)) rfl (tb_at 527 (by decide +kernel) (by decide +kernel)) (by decide) rfl (am_ni _ _ (by intro v hv; simp at hv; first | exact ⟨_, hv⟩ | (rcases hv with hv | hv <;> exact ⟨_, hv⟩) | (rcases hv with hv | hv | hv <;> exact ⟨_, hv⟩) | (rcases hv with hv | hv | hv | hv <;> exact ⟨_, hv⟩) | (rcases hv with hv | hv | hv | hv | hv <;> exact ⟨_, hv⟩))) rfl (Nat.le_of_ble_eq_true rfl) dL_law_281 hP hS hl (lw_use rfl (by decide) ⟨rfl, sp_f _, trivial⟩ hok) (fun v τ1 H1 locs1 hv hP1 hS1 => ?_)
  obtain ⟨⟨x0, rfl, hr0⟩, hok1, hfr0⟩ := hv
  refine lv_pop C.1 C.2.1 dL_law_284 rfl ?_
  refine lv_aload_n C.1 C.2.1 dL_law_285 rfl (lv_at hl 1 rfl) ?_
  refine lw_arg C hS1 hl (k := 1) dL_law_286 dL_law_287 dL_law_288 dL_law_289 dL_law_290 rfl hi (by decide) ?_
  refine lw_call C (ix := 22) (o := 51) (As := [.int (xs (i.toNat + 1))]) (rest := []) (ci := 12) (na := 1) (pc := 291) (nX12_back l) (by decide) (by decide) (tb_at 1516 (by decide +kernel) (by decide +kernel)) (tb_at 120 (by decide +kernel) (by decide +kernel)) ⟨by decide +kernel, by decide +kernel, by decide +kernel⟩ (tb_at 1513 (by decide +kernel) (by decide +kernel)) (tb_at 1514 (by decide +kernel) (by decide +kernel)) rfl (tb_at 1515 (by decide +kernel) (by decide +kernel)) (by decide) rfl (am_ni _ _ (by intro v hv; simp at hv; first | exact ⟨_, hv⟩ | (rcases hv with hv | hv <;> exact ⟨_, hv⟩) | (rcases hv with hv | hv | hv <;> exact ⟨_, hv⟩) | (rcases hv with hv | hv | hv | hv <;> exact ⟨_, hv⟩) | (rcases hv with hv | hv | hv | hv | hv <;> exact ⟨_, hv⟩))) rfl (Nat.le_of_ble_eq_true rfl) dL_law_291 hP1 hS1 hl (lw_use rfl (by decide) ⟨rfl, sp_f _, trivial⟩ hok1) (fun v τ11 H11 locs11 hv hP11 hS11 => ?_)
  obtain ⟨⟨x1, rfl, hr1⟩, hok11, hfr1⟩ := hv
  refine lv_pop C.1 C.2.1 dL_law_294 rfl ?_
  refine lv_goto (tgt := 1371) C.1 C.2.1 dL_law_295 rfl ?_
  exact back _ _ _ hok11 hP11 hS11
