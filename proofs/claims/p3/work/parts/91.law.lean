/-! THE LAW: what each of its rows asks, over the contracts of the class and of the reference. Printed by wip/am/gen90.py. -/
def lw_K (p : Program) (s : State) (m : MethodId) (c : Code) (D : va_G) (aC : Nat → ClassId) (b L : Nat) (xs : Nat → Int32) : Prop := p.tables.exec = Jvm.exec ∧ c.code = code ∧ c.maxLocals = 4 ∧ s.vm.findClass R_law = some m.cls ∧ (∀ w ∈ TB, w.before #[Value.ref b] s = true) ∧ va_X b L xs s s.heap ∧ b < s.heap.size ∧ va_K D vwCl (am_tys aC) s ∧ am_Nw NB s.heap.size s
/-- the k-th int behind i of the script is pushed -/
theorem lw_arg {p : Program} {l : Launch} {e : Env} {s : State} {m : MethodId} {below : List Frame} {meth : Method} {c : Code} {D : va_G} {aC : Nat → ClassId} {b L : Nat} {xs : Nat → Int32} (C : lw_K p s m c D aC b L xs) {H : Heap} {locs : List Loc} {cells slots : Nat} {Q : State → Prop} {lc : Array Slot} {i : Int} {rest : List Value} (hS : va_S (fun q => s.heap.size ≤ q) s.heap H locs) (hl : lv_has lc 4 [(3, .int (Int32.ofInt i)), (2, .ref (s.heap.size + 51)), (1, .ref (s.heap.size + 0)), (0, .ref b)]) {pc k : Nat} {kz : Int} (d0 : decode code pc = .ok (.aload_n 0, 1)) (d1 : decode code (pc + 1) = .ok (.iload_n 3, 1)) (d2 : decode code (pc + 2) = .ok (.iconst kz, 1)) (d3 : decode code (pc + 3) = .ok (.iadd, 1)) (d4 : decode code (pc + 4) = .ok (.iaload, 1)) (hkz : kz = (k : Int)) (hi : 0 ≤ i ∧ i + 6 ≤ (L : Int) ∧ L ≤ 3072) (hk : k < 6)
    (kk : W p l e room_1 s m #[Value.ref b] below meth c H locs cells slots Q (F0 m (pc + 5) lc (.int (xs (i.toNat + k)) :: rest))) : W p l e room_1 s m #[Value.ref b] below meth c H locs cells slots Q (F0 m pc lc rest) := by
  obtain ⟨hx, hb, hml, hown, hts, hX, hbl, hK, hN⟩ := C
  have hbA : ¬ (fun q : Nat => s.heap.size ≤ q) b := Nat.not_le.mpr hbl
  subst hkz
  have q0 : Int32.ofInt i + Int32.ofInt (k : Int) = Int32.ofInt (i + (k : Int)) := ii_add _ _
  have q1 : (Int32.ofInt i + Int32.ofInt (k : Int)).toNatClampNeg = i.toNat + k := by
    rw [q0, ii_c (by omega) (by omega)]
    omega
  have q2 : ¬ (Int32.ofInt i + Int32.ofInt (k : Int) < 0) := by
    rw [q0, ii_0, ii_lt (by omega) (by omega) (by omega) (by omega)]
    omega
  refine lv_aload_n hx hb d0 rfl (lv_at hl 3 rfl) ?_
  refine lv_iload_n hx hb d1 rfl (lv_at hl 0 rfl) ?_
  refine lv_iconst hx hb d2 rfl ?_
  refine lv_iadd hx hb d3 ?_
  refine va_sld hx hb hX hbl hbA hS (fun z => z.elim q2 (fun z2 => by rw [q1] at z2; omega)) d4 ?_
  rw [q1]
  exact kk
/-- a method of one of the two objects is called -/
theorem lw_call {p : Program} {l : Launch} {e : Env} {s : State} {m : MethodId} {below : List Frame} {meth : Method} {c : Code} {D : va_G} {aC : Nat → ClassId} {b L : Nat} {xs : Nat → Int32} (C : lw_K p s m c D aC b L xs) {y : MethodName} {cc : ByteArray} {maxL d na ix ci o pc : Nat} {rt : Option FieldType} {sp : am_Sp} {r : vw_C} {As rest : List Value} {lc : Array Slot} {i : Int} {σ : am_S} {H : Heap} {locs : List Loc} {post : Option Value → am_S → Prop} (hM : am_M l TB NB vwCl SH KF y cc maxL rt d 0 0 sp) (hd : d + 1 ≤ 1200) (hmx : maxL ≤ 40) (hcode : Cond.code y cc maxL rt ∈ TB) (hini : Cond.initialized y.cls ∈ TB) (hd3 : y.cls ≠ "java/lang/invoke/MethodHandle" ∧ y.cls ≠ "java/lang/invoke/VarHandle" ∧ (parseMethodDescriptor y.desc).map (fun d => d.parameters.length) = some na) (hlink : Cond.methodLink R_law ix y ∈ TB) (hinst : Cond.instanceMethod y ∈ TB) (hr : vwCl[ci]? = some r) (hsel : Cond.selects r.1 y y ∈ TB) (ho : o < 92) (hso : SH o = .inl ci) (hAs : As.map (am_c s.heap.size) = As) (hna : As.length = na) (hcat : (rest.map fun v => v.category).sum ≤ 8) (hdg : decode code pc = .ok (.invokevirtual ix, 3))
    (hP : va_P D vwCl (am_ws SH KF s.heap.size aC 92 σ) H) (hS : va_S (fun q => s.heap.size ≤ q) s.heap H locs) (hl : lv_has lc 4 [(3, .int (Int32.ofInt i)), (2, .ref (s.heap.size + 51)), (1, .ref (s.heap.size + 0)), (0, .ref b)]) (hsp : sp (.ref o :: As) 92 σ post)
    (kk : ∀ (v : Option Value) (τ : am_S) (H1 : Heap) (locs1 : List Loc), post v τ → va_P D vwCl (am_ws SH KF s.heap.size aC 92 τ) H1 → va_S (fun q => s.heap.size ≤ q) s.heap H1 locs1 → W p l e room_1 s m #[Value.ref b] below meth c H1 locs1 (92 - 0) (am_sz SH KF 92 - am_sz SH KF 0) (lw_Z below #[Value.ref b] s) (F0 m (pc + 3) lc ((v.map (am_c s.heap.size)).toList ++ rest))) : W p l e room_1 s m #[Value.ref b] below meth c H locs (92 - 0) (am_sz SH KF 92 - am_sz SH KF 0) (lw_Z below #[Value.ref b] s) (F0 m pc lc (As.reverse ++ .ref (s.heap.size + o) :: rest)) := by
  obtain ⟨hx, hb, hml, hown, hts, hX, hbl, hK, hN⟩ := C
  refine am_size (n0 := 0) hP hS rfl (Nat.zero_le _) rfl fun hzH => ?_
  have hMet := hM D aC s.heap.size 92 _ σ _ hsp rfl
  have fx : CallFix p m c code 4 s #[Value.ref b] TB R_law := ⟨hx, hb, hml, hown, hts⟩
  have hm2 : (Value.ref o :: As).map (am_c s.heap.size) = .ref (s.heap.size + o) :: As := by
    show Value.ref (s.heap.size + o) :: As.map (am_c s.heap.size) = _
    rw [hAs]
  have pre := am_pre (as := .ref o :: As) hzH hP hK hN hS
  rw [hm2] at pre
  have blind := am_blind (cl := vwCl) (NB := NB) (D := D) (aC := aC) (b := s.heap.size) (SH := SH) (KF := KF) (n := 92) (as := .ref o :: As) (σ := σ)
  have room : 92 - 0 + 0 ≤ room_1.cells ∧ am_sz SH KF 92 - am_sz SH KF 0 + 0 ≤ room_1.slots := by decide +kernel
  exact am_call (va_runV (As := As) (rest := rest) (C := r.1) (n := na) fx hMet ⟨⟨rfl, rfl, by show d + 1 ≤ 2048; omega, by show 8 + (maxL + 11) + 64 * d ≤ 84000; omega, am_words hts hcode, am_code_in, hts _ hcode, hts _ hini, ⟨hd3.1, hd3.2.1⟩, am_sig hd3.2.2, hts _ hlink⟩, hts _ hinst, hts _ hsel⟩
    ⟨blind, va_recv hK hP hr (am_ws_obj ho hso), pre⟩ rfl hna hl.1 rfl (lv_room hcat) hdg room) hS kk
theorem am_ni (a : Nat) : ∀ l : List Value, (∀ v ∈ l, ∃ x, v = .int x) → l.map (am_c a) = l := by
  intro l h
  induction l with
  | nil => rfl
  | cons v t ih =>
    obtain ⟨x, rfl⟩ := h v List.mem_cons_self
    rw [List.map_cons, ih (fun w hw => h w (List.mem_cons_of_mem _ hw))]
    rfl
/-- memory in its bounds, the reference's laws fit to be reckoned -/
def okS (σ : am_S) : Prop := sb_ok BB SH σ ∧ JJ σ
theorem sp_f (x : Int32) : sp_in (.inl (-2147483648, 2147483647)) (.int x) := ⟨x, rfl, ii_lo x, by have := ii_hi x; show x.toInt ≤ 2147483647; omega⟩
/-- a public method by its word -/
theorem lw_use {sm : List sa_A} {a : sa_A} {t : List sa_A} {As : List Value} {σ : am_S} (hs : sm = a :: t) (hi : a.2.1.all (fun r => match r.1 with
  | some (.inl _) => true
  | _ => false) = true) (hp : sp_all a.1 As) (h : okS σ) : sp_w JJ BB SH 92 sm As 92 σ (fun v τ => (∃ x : Int32, v = some (.int x) ∧ sp_ret a.2.1 As (some (.int x))) ∧ okS τ ∧ sb_fr a.2.2 σ τ) := by
  subst hs
  refine ⟨rfl, h.1, h.2, a, List.mem_cons_self, hp, fun v τ h1 h2 h3 h4 => ⟨?_, ⟨h1, h2⟩, h3⟩⟩
  obtain ⟨r, r1, r2, r3⟩ := h4
  have q := List.all_eq_true.mp hi r r1
  cases hr : r.1 with
  | none => rw [hr] at q; cases q
  | some p =>
    rw [hr] at q r2
    cases v with
    | none => exact r2.elim
    | some w =>
      cases p with
      | inr _ => cases q
      | inl b =>
        obtain ⟨x, hx, hb⟩ := r2
        subst hx
        exact ⟨x, rfl, r, r1, by rw [hr]; exact ⟨x, rfl, hb⟩, r3⟩
/-- the reference's read -/
theorem lw_useR {σ : am_S} (h : okS σ) : sX12_read [.ref 51] 92 σ (fun v τ => (∃ x : Int32, v = some (.int x) ∧ True) ∧ okS τ ∧ (∀ o i, o < 51 → τ.1 o i = σ.1 o i ∧ τ.2 o i = σ.2 o i) ∧ τ.1 51 2 = 0) := ⟨rfl, h.1, h.2, rfl, fun x τ h1 h2 h3 h4 => ⟨⟨x, rfl, trivial⟩, ⟨h1, h2⟩, h3, h4⟩⟩
/-- the tapes are as long -/
def TP (σ : am_S) : Prop := σ.1 0 1 = σ.1 51 2
def okT (σ : am_S) : Prop := okS σ ∧ TP σ
theorem TP_b2 {σ : am_S} (h : okS σ) : 0 ≤ (σ.1 51 2).toInt ∧ (σ.1 51 2).toInt ≤ 2000 := h.1.2 51 12 2 rfl
theorem TP_b {σ : am_S} (h : okT σ) : 0 ≤ (σ.1 0 1).toInt ∧ (σ.1 0 1).toInt ≤ 2000 := by
  rw [h.2]
  exact TP_b2 h.1
theorem lw_useT {o s o2 s2 : Nat} {As' : List sa_P} {R : List Value → Int → Int → Int → Prop} {as : List Value} {σ : am_S} (hp : sp_all As' as) (h : okS σ) (hb : 0 ≤ (σ.1 o s).toInt ∧ (σ.1 o s).toInt ≤ 2000) : tpw o s o2 s2 As' R as 92 σ (fun v τ => (∃ x : Int32, v = some (.int x) ∧ R as (σ.1 o s).toInt (τ.1 o s).toInt x.toInt) ∧ okS τ ∧ τ.1 o2 s2 = σ.1 o2 s2) := ⟨rfl, h.1, h.2, hb, hp, fun x τ h1 h2 h3 h4 => ⟨⟨x, rfl, h4⟩, ⟨h1, h2⟩, h3⟩⟩
def lw_fr (M : sa_M) : Bool := M.all (fun m => !(decide (m.1 = 0 ∧ m.2.1 ≤ 1 ∧ 1 < m.2.2)) && !(decide (m.1 = 51 ∧ m.2.1 ≤ 2 ∧ 2 < m.2.2)))
theorem TP_fr {M0 M1 : sa_M} {σ τ υ : am_S} (h : TP σ) (f0 : sb_fr M0 σ τ) (f1 : sb_fr M1 τ υ) (e0 : lw_fr M0 = true) (e1 : lw_fr M1 = true) : TP υ := by
  have g : ∀ (M : sa_M) (σ τ : am_S), sb_fr M σ τ → lw_fr M = true → τ.1 0 1 = σ.1 0 1 ∧ τ.1 51 2 = σ.1 51 2 := by
    intro M σ τ f e
    refine ⟨(f _ _ (fun m hm hh => ?_)).1, (f _ _ (fun m hm hh => ?_)).1⟩
    · have q := List.all_eq_true.mp e m hm
      simp only [Bool.and_eq_true, Bool.not_eq_true', decide_eq_false_iff_not] at q
      exact q.1 hh
    · have q := List.all_eq_true.mp e m hm
      simp only [Bool.and_eq_true, Bool.not_eq_true', decide_eq_false_iff_not] at q
      exact q.2 hh
  unfold TP at h ⊢
  rw [(g _ _ _ f1 e1).1, (g _ _ _ f0 e0).1, (g _ _ _ f1 e1).2, (g _ _ _ f0 e0).2]
  exact h
theorem TP_two {R : List Value → Int → Int → Int → Prop} {as0 as1 : List Value} {σ τ υ : am_S} {x0 x1 : Int32} (fn : ∀ T T1 T2 x y, R as0 T T1 x → R as1 T T2 y → T1 = T2 ∧ x = y) (h : TP σ) (r0 : R as0 (σ.1 0 1).toInt (τ.1 0 1).toInt x0.toInt) (f0 : τ.1 51 2 = σ.1 51 2) (r1 : R as1 (τ.1 51 2).toInt (υ.1 51 2).toInt x1.toInt) (f1 : υ.1 0 1 = τ.1 0 1) : TP υ ∧ x0 = x1 := by
  rw [f0, ← show σ.1 0 1 = σ.1 51 2 from h] at r1
  obtain ⟨a, b⟩ := fn _ _ _ _ _ r0 r1
  exact ⟨by unfold TP; rw [f1]; exact Int32.toInt_inj.mp a, Int32.toInt_inj.mp b⟩
theorem TP_read {as0 as1 : List Value} {σ τ υ : am_S} {x0 x1 : Int32} (r0 : RR as0 (σ.1 0 1).toInt (τ.1 0 1).toInt x0.toInt) (r1 : RR as1 (τ.1 51 2).toInt (υ.1 51 2).toInt x1.toInt) (f1 : υ.1 0 1 = τ.1 0 1) : TP υ := by
  unfold TP
  rw [f1]
  exact Int32.toInt_inj.mp ((show (τ.1 0 1).toInt = 0 from r0).trans (show (υ.1 51 2).toInt = 0 from r1).symm)
theorem RF_fn {as0 as1 : List Value} : ∀ T T1 T2 x y : Int, RF as0 T T1 x → RF as1 T T2 y → T1 = T2 ∧ x = y := by
  intro T T1 T2 x y h g
  unfold RF at h g
  split at h
  · rw [if_pos (by assumption)] at g
    omega
  · rw [if_neg (by assumption)] at g
    omega
theorem RB_fn {o1 o2 : Nat} {z : Int32} : ∀ T T1 T2 x y : Int, RB [.ref o1, .int z] T T1 x → RB [.ref o2, .int z] T T2 y → T1 = T2 ∧ x = y := by
  rintro T T1 T2 x y ⟨z1, e1, h⟩ ⟨z2, e2, g⟩
  have e1 : z = z1 := by simpa using e1
  have e2 : z = z2 := by simpa using e2
  subst e1; subst e2
  split at h
  · rw [if_pos (by assumption)] at g
    omega
  · rw [if_neg (by assumption)] at g
    omega
set_option maxRecDepth 100000 in
theorem lw_c0 {p : Program} {l : Launch} {e : Env} {s : State} {m : MethodId} {below : List Frame} {meth : Method} {c : Code} {D : va_G} {aC : Nat → ClassId} {b L : Nat} {xs : Nat → Int32} (C : lw_K p s m c D aC b L xs) {i : Int} (hi : 0 ≤ i ∧ i + 6 ≤ (L : Int) ∧ L ≤ 3072) {σ : am_S} {H : Heap} {locs : List Loc} {lc : Array Slot} (hokT : okT σ) (hP : va_P D vwCl (am_ws SH KF s.heap.size aC 92 σ) H) (hS : va_S (fun q => s.heap.size ≤ q) s.heap H locs) (hl : lv_has lc 4 [(3, .int (Int32.ofInt i)), (2, .ref (s.heap.size + 51)), (1, .ref (s.heap.size + 0)), (0, .ref b)])
    (back : ∀ (τ : am_S) (H : Heap) (locs : List Loc), okT τ → va_P D vwCl (am_ws SH KF s.heap.size aC 92 τ) H → va_S (fun q => s.heap.size ≤ q) s.heap H locs → W p l e room_1 s m #[Value.ref b] below meth c H locs (92 - 0) (am_sz SH KF 92 - am_sz SH KF 0) (lw_Z below #[Value.ref b] s) (F0 m 1371 lc [])) : W p l e room_1 s m #[Value.ref b] below meth c H locs (92 - 0) (am_sz SH KF 92 - am_sz SH KF 0) (lw_Z below #[Value.ref b] s) (F0 m 212 lc []) := by
  have hok : okS σ := hokT.1
  refine lv_aload_n C.1 C.2.1 dL_law_212 rfl (lv_at hl 2 rfl) ?_
  refine lw_arg C hS hl (k := 1) dL_law_213 dL_law_214 dL_law_215 dL_law_216 dL_law_217 rfl hi (by decide) ?_
  refine lw_arg C hS hl (k := 2) dL_law_218 dL_law_219 dL_law_220 dL_law_221 dL_law_222 rfl hi (by decide) ?_
  refine lw_arg C hS hl (k := 3) dL_law_223 dL_law_224 dL_law_225 dL_law_226 dL_law_227 rfl hi (by decide) ?_
  refine lw_arg C hS hl (k := 4) dL_law_228 dL_law_229 dL_law_230 dL_law_231 dL_law_232 rfl hi (by decide) ?_
  refine lw_arg C hS hl (k := 5) dL_law_233 dL_law_234 dL_law_235 dL_law_236 dL_law_237 rfl hi (by decide) ?_
  refine lw_call C (ix := 13) (o := 0) (As := [.int (xs (i.toNat + 1)), .int (xs (i.toNat + 2)), .int (xs (i.toNat + 3)), .int (xs (i.toNat + 4)), .int (xs (i.toNat + 5))]) (rest := []) (ci := 11) (na := 5) (pc := 238) (mTX11_feed l) (by decide) (by decide) (tb_at 520 (by decide +kernel) (by decide +kernel)) (tb_at 103 (by decide +kernel) (by decide +kernel)) ⟨by decide +kernel, by decide +kernel, by decide +kernel⟩ (tb_at 517 (by decide +kernel) (by decide +kernel)) (tb_at 518 (by decide +kernel) (by decide +kernel)) rfl (tb_at 519 (by decide +kernel) (by decide +kernel)) (by decide) rfl (am_ni _ _ (by intro v hv; simp at hv; first | exact ⟨_, hv⟩ | (rcases hv with hv | hv <;> exact ⟨_, hv⟩) | (rcases hv with hv | hv | hv <;> exact ⟨_, hv⟩) | (rcases hv with hv | hv | hv | hv <;> exact ⟨_, hv⟩) | (rcases hv with hv | hv | hv | hv | hv <;> exact ⟨_, hv⟩))) rfl (Nat.le_of_ble_eq_true rfl) dL_law_238 hP hS hl (lw_useT ⟨rfl, sp_f _, sp_f _, sp_f _, sp_f _, sp_f _, trivial⟩ hok (TP_b hokT)) (fun v τ1 H1 locs1 hv hP1 hS1 => ?_)
  obtain ⟨⟨x0, rfl, hr0⟩, hok1, hfr0⟩ := hv
  refine lv_pop C.1 C.2.1 dL_law_241 rfl ?_
  refine lv_aload_n C.1 C.2.1 dL_law_242 rfl (lv_at hl 1 rfl) ?_
  refine lw_arg C hS1 hl (k := 1) dL_law_243 dL_law_244 dL_law_245 dL_law_246 dL_law_247 rfl hi (by decide) ?_
  refine lw_arg C hS1 hl (k := 2) dL_law_248 dL_law_249 dL_law_250 dL_law_251 dL_law_252 rfl hi (by decide) ?_
  refine lw_arg C hS1 hl (k := 3) dL_law_253 dL_law_254 dL_law_255 dL_law_256 dL_law_257 rfl hi (by decide) ?_
  refine lw_arg C hS1 hl (k := 4) dL_law_258 dL_law_259 dL_law_260 dL_law_261 dL_law_262 rfl hi (by decide) ?_
  refine lw_arg C hS1 hl (k := 5) dL_law_263 dL_law_264 dL_law_265 dL_law_266 dL_law_267 rfl hi (by decide) ?_
  refine lw_call C (ix := 17) (o := 51) (As := [.int (xs (i.toNat + 1)), .int (xs (i.toNat + 2)), .int (xs (i.toNat + 3)), .int (xs (i.toNat + 4)), .int (xs (i.toNat + 5))]) (rest := []) (ci := 12) (na := 5) (pc := 268) (mTX12_feed l) (by decide) (by decide) (tb_at 1508 (by decide +kernel) (by decide +kernel)) (tb_at 120 (by decide +kernel) (by decide +kernel)) ⟨by decide +kernel, by decide +kernel, by decide +kernel⟩ (tb_at 1505 (by decide +kernel) (by decide +kernel)) (tb_at 1506 (by decide +kernel) (by decide +kernel)) rfl (tb_at 1507 (by decide +kernel) (by decide +kernel)) (by decide) rfl (am_ni _ _ (by intro v hv; simp at hv; first | exact ⟨_, hv⟩ | (rcases hv with hv | hv <;> exact ⟨_, hv⟩) | (rcases hv with hv | hv | hv <;> exact ⟨_, hv⟩) | (rcases hv with hv | hv | hv | hv <;> exact ⟨_, hv⟩) | (rcases hv with hv | hv | hv | hv | hv <;> exact ⟨_, hv⟩))) rfl (Nat.le_of_ble_eq_true rfl) dL_law_268 hP1 hS1 hl (lw_useT ⟨rfl, sp_f _, sp_f _, sp_f _, sp_f _, sp_f _, trivial⟩ hok1 (TP_b2 hok1)) (fun v τ11 H11 locs11 hv hP11 hS11 => ?_)
  obtain ⟨⟨x1, rfl, hr1⟩, hok11, hfr1⟩ := hv
  refine lv_pop C.1 C.2.1 dL_law_271 rfl ?_
  refine lv_goto (tgt := 1371) C.1 C.2.1 dL_law_272 rfl ?_
  exact back _ _ _ ⟨hok11, (TP_two RF_fn hokT.2 hr0 hfr0 hr1 hfr1).1⟩ hP11 hS11
set_option maxRecDepth 100000 in
theorem lw_c1 {p : Program} {l : Launch} {e : Env} {s : State} {m : MethodId} {below : List Frame} {meth : Method} {c : Code} {D : va_G} {aC : Nat → ClassId} {b L : Nat} {xs : Nat → Int32} (C : lw_K p s m c D aC b L xs) {i : Int} (hi : 0 ≤ i ∧ i + 6 ≤ (L : Int) ∧ L ≤ 3072) {σ : am_S} {H : Heap} {locs : List Loc} {lc : Array Slot} (hokT : okT σ) (hP : va_P D vwCl (am_ws SH KF s.heap.size aC 92 σ) H) (hS : va_S (fun q => s.heap.size ≤ q) s.heap H locs) (hl : lv_has lc 4 [(3, .int (Int32.ofInt i)), (2, .ref (s.heap.size + 51)), (1, .ref (s.heap.size + 0)), (0, .ref b)])
    (back : ∀ (τ : am_S) (H : Heap) (locs : List Loc), okT τ → va_P D vwCl (am_ws SH KF s.heap.size aC 92 τ) H → va_S (fun q => s.heap.size ≤ q) s.heap H locs → W p l e room_1 s m #[Value.ref b] below meth c H locs (92 - 0) (am_sz SH KF 92 - am_sz SH KF 0) (lw_Z below #[Value.ref b] s) (F0 m 1371 lc [])) : W p l e room_1 s m #[Value.ref b] below meth c H locs (92 - 0) (am_sz SH KF 92 - am_sz SH KF 0) (lw_Z below #[Value.ref b] s) (F0 m 275 lc []) := by
  have hok : okS σ := hokT.1
  refine lv_aload_n C.1 C.2.1 dL_law_275 rfl (lv_at hl 2 rfl) ?_
  refine lw_arg C hS hl (k := 1) dL_law_276 dL_law_277 dL_law_278 dL_law_279 dL_law_280 rfl hi (by decide) ?_
  refine lw_call C (ix := 18) (o := 0) (As := [.int (xs (i.toNat + 1))]) (rest := []) (ci := 11) (na := 1) (pc := 281) (mTX11_back l) (by decide) (by decide) (tb_at 528 (by decide +kernel) (by decide +kernel)) (tb_at 103 (by decide +kernel) (by decide +kernel)) ⟨by decide +kernel, by decide +kernel, by decide +kernel⟩ (tb_at 525 (by decide +kernel) (by decide +kernel)) (tb_at 526 (by decide +kernel) (by decide +kernel)) rfl (tb_at 527 (by decide +kernel) (by decide +kernel)) (by decide) rfl (am_ni _ _ (by intro v hv; simp at hv; first | exact ⟨_, hv⟩ | (rcases hv with hv | hv <;> exact ⟨_, hv⟩) | (rcases hv with hv | hv | hv <;> exact ⟨_, hv⟩) | (rcases hv with hv | hv | hv | hv <;> exact ⟨_, hv⟩) | (rcases hv with hv | hv | hv | hv | hv <;> exact ⟨_, hv⟩))) rfl (Nat.le_of_ble_eq_true rfl) dL_law_281 hP hS hl (lw_useT ⟨rfl, sp_f _, trivial⟩ hok (TP_b hokT)) (fun v τ1 H1 locs1 hv hP1 hS1 => ?_)
  obtain ⟨⟨x0, rfl, hr0⟩, hok1, hfr0⟩ := hv
  refine lv_aload_n C.1 C.2.1 dL_law_284 rfl (lv_at hl 1 rfl) ?_
  refine lw_arg C hS1 hl (k := 1) dL_law_285 dL_law_286 dL_law_287 dL_law_288 dL_law_289 rfl hi (by decide) ?_
  refine lw_call C (ix := 22) (o := 51) (As := [.int (xs (i.toNat + 1))]) (rest := [.int x0]) (ci := 12) (na := 1) (pc := 290) (mTX12_back l) (by decide) (by decide) (tb_at 1516 (by decide +kernel) (by decide +kernel)) (tb_at 120 (by decide +kernel) (by decide +kernel)) ⟨by decide +kernel, by decide +kernel, by decide +kernel⟩ (tb_at 1513 (by decide +kernel) (by decide +kernel)) (tb_at 1514 (by decide +kernel) (by decide +kernel)) rfl (tb_at 1515 (by decide +kernel) (by decide +kernel)) (by decide) rfl (am_ni _ _ (by intro v hv; simp at hv; first | exact ⟨_, hv⟩ | (rcases hv with hv | hv <;> exact ⟨_, hv⟩) | (rcases hv with hv | hv | hv <;> exact ⟨_, hv⟩) | (rcases hv with hv | hv | hv | hv <;> exact ⟨_, hv⟩) | (rcases hv with hv | hv | hv | hv | hv <;> exact ⟨_, hv⟩))) rfl (Nat.le_of_ble_eq_true rfl) dL_law_290 hP1 hS1 hl (lw_useT ⟨rfl, sp_f _, trivial⟩ hok1 (TP_b2 hok1)) (fun v τ11 H11 locs11 hv hP11 hS11 => ?_)
  obtain ⟨⟨x1, rfl, hr1⟩, hok11, hfr1⟩ := hv
  refine lv_icmp_eq (tgt := 1371) C.1 C.2.1 dL_law_293 rfl (fun _ => back _ _ _ ⟨hok11, (TP_two RB_fn hokT.2 hr0 hfr0 hr1 hfr1).1⟩ hP11 hS11) (fun h => absurd ((TP_two RB_fn hokT.2 hr0 hfr0 hr1 hfr1).2) h)
