/-! THE LAW: what each of its rows asks, over the contracts of the class and of the reference. Printed by wip/am/gen90.py. -/
def lw_K (p : Program) (s : State) (m : MethodId) (c : Code) (D : va_G) (aC : Nat → ClassId) (b L : Nat) (xs : Nat → Int32) : Prop := p.tables.exec = Jvm.exec ∧ c.code = code ∧ c.maxLocals = 4 ∧ s.vm.findClass R_law = some m.cls ∧ (∀ w ∈ TB, w.before #[Value.ref b] s = true) ∧ va_X b L xs s s.heap ∧ b < s.heap.size ∧ va_K D vwCl (am_tys aC) s ∧ am_Nw NB s.heap.size s
/-- the k-th int behind i of the script is pushed -/
theorem lw_arg {p : Program} {l : Launch} {e : Env} {s : State} {m : MethodId} {below : List Frame} {meth : Method} {c : Code} {D : va_G} {aC : Nat → ClassId} {b L : Nat} {xs : Nat → Int32} (C : lw_K p s m c D aC b L xs) {H : Heap} {locs : List Loc} {cells slots : Nat} {Q : State → Prop} {lc : Array Slot} {i : Int} {rest : List Value} (hS : va_S (fun q => s.heap.size ≤ q) s.heap H locs) (hl : lv_has lc 4 [(3, .int (Int32.ofInt i)), (2, .ref (s.heap.size + 51)), (1, .ref (s.heap.size + 0)), (0, .ref b)]) {pc k : Nat} {kz : Int} (d0 : decode code pc = .ok (.aload_n 0, 1)) (d1 : decode code (pc + 1) = .ok (.iload_n 3, 1)) (d2 : decode code (pc + 2) = .ok (.iconst kz, 1)) (d3 : decode code (pc + 3) = .ok (.iadd, 1)) (d4 : decode code (pc + 4) = .ok (.iaload, 1)) (hkz : kz = (k : Int)) (hi : 0 ≤ i ∧ i + 6 ≤ (L : Int) ∧ L ≤ 3072) (hk : k < 6)
    (kk : W p l e room_1 s m #[Value.ref b] below meth c H locs cells slots Q (F0 m (pc + 5) lc (.int (xs (i.toNat + k)) :: rest))) : W p l e room_1 s m #[Value.ref b] below meth c H locs cells slots Q (F0 m pc lc rest) := by
  obtain ⟨hx, hb, hml, hown, hts, hX, hbl, hK, hN⟩ := C
  have hbA : ¬ (fun q : Nat => s.heap.size ≤ q) b := Nat.not_le.mpr hbl
  subst hkz
  have q0 : Int32.ofInt i + Int32.ofInt (k : Int) = Int32.ofInt (i + (k : Int)) := ii_add _ _
  have q1 : (Int32.ofInt i + Int32.ofInt (k : Int)).toNatClampNeg = i.toNat + k := by
    rw [q0, ii_c (by omega) (by omega)]
    omega
  have q2 : ¬ (Int32.ofInt i + Int32.ofInt (k : Int) < 0) := by
    rw [q0, ii_0, ii_lt (by omega) (by omega) (by omega) (by omega)]
    omega
  refine lv_aload_n hx hb d0 rfl (lv_at hl 3 rfl) ?_
  refine lv_iload_n hx hb d1 rfl (lv_at hl 0 rfl) ?_
  refine lv_iconst hx hb d2 rfl ?_
  refine lv_iadd hx hb d3 ?_
  refine va_sld hx hb hX hbl hbA hS (fun z => z.elim q2 (fun z2 => by rw [q1] at z2; omega)) d4 ?_
  rw [q1]
  exact kk
/-- a method of one of the two objects is called -/
theorem lw_call {p : Program} {l : Launch} {e : Env} {s : State} {m : MethodId} {below : List Frame} {meth : Method} {c : Code} {D : va_G} {aC : Nat → ClassId} {b L : Nat} {xs : Nat → Int32} (C : lw_K p s m c D aC b L xs) {y : MethodName} {cc : ByteArray} {maxL d na ix ci o pc : Nat} {rt : Option FieldType} {sp : am_Sp} {r : vw_C} {As rest : List Value} {lc : Array Slot} {i : Int} {σ : am_S} {H : Heap} {locs : List Loc} {post : Option Value → am_S → Prop} (hM : am_M l TB NB vwCl SH KF y cc maxL rt d 0 0 sp) (hd : d + 1 ≤ 1200) (hmx : maxL ≤ 40) (hcode : Cond.code y cc maxL rt ∈ TB) (hini : Cond.initialized y.cls ∈ TB) (hd3 : y.cls ≠ "java/lang/invoke/MethodHandle" ∧ y.cls ≠ "java/lang/invoke/VarHandle" ∧ (parseMethodDescriptor y.desc).map (fun d => d.parameters.length) = some na) (hlink : Cond.methodLink R_law ix y ∈ TB) (hinst : Cond.instanceMethod y ∈ TB) (hr : vwCl[ci]? = some r) (hsel : Cond.selects r.1 y y ∈ TB) (ho : o < 92) (hso : SH o = .inl ci) (hAs : As.map (am_c s.heap.size) = As) (hna : As.length = na) (hcat : (rest.map fun v => v.category).sum ≤ 8) (hdg : decode code pc = .ok (.invokevirtual ix, 3))
    (hP : va_P D vwCl (am_ws SH KF s.heap.size aC 92 σ) H) (hS : va_S (fun q => s.heap.size ≤ q) s.heap H locs) (hl : lv_has lc 4 [(3, .int (Int32.ofInt i)), (2, .ref (s.heap.size + 51)), (1, .ref (s.heap.size + 0)), (0, .ref b)]) (hsp : sp (.ref o :: As) 92 σ post)
    (kk : ∀ (v : Option Value) (τ : am_S) (H1 : Heap) (locs1 : List Loc), post v τ → va_P D vwCl (am_ws SH KF s.heap.size aC 92 τ) H1 → va_S (fun q => s.heap.size ≤ q) s.heap H1 locs1 → W p l e room_1 s m #[Value.ref b] below meth c H1 locs1 (92 - 0) (am_sz SH KF 92 - am_sz SH KF 0) (lw_Z below #[Value.ref b] s) (F0 m (pc + 3) lc ((v.map (am_c s.heap.size)).toList ++ rest))) : W p l e room_1 s m #[Value.ref b] below meth c H locs (92 - 0) (am_sz SH KF 92 - am_sz SH KF 0) (lw_Z below #[Value.ref b] s) (F0 m pc lc (As.reverse ++ .ref (s.heap.size + o) :: rest)) := by
  obtain ⟨hx, hb, hml, hown, hts, hX, hbl, hK, hN⟩ := C
  refine am_size (n0 := 0) hP hS rfl (Nat.zero_le _) rfl fun hzH => ?_
  have hMet := hM D aC s.heap.size 92 _ σ _ hsp rfl
  have fx : CallFix p m c code 4 s #[Value.ref b] TB R_law := ⟨hx, hb, hml, hown, hts⟩
  have hm2 : (Value.ref o :: As).map (am_c s.heap.size) = .ref (s.heap.size + o) :: As := by
    show Value.ref (s.heap.size + o) :: As.map (am_c s.heap.size) = _
    rw [hAs]
  have pre := am_pre (as := .ref o :: As) hzH hP hK hN hS
  rw [hm2] at pre
  have blind := am_blind (cl := vwCl) (NB := NB) (D := D) (aC := aC) (b := s.heap.size) (SH := SH) (KF := KF) (n := 92) (as := .ref o :: As) (σ := σ)
  have room : 92 - 0 + 0 ≤ room_1.cells ∧ am_sz SH KF 92 - am_sz SH KF 0 + 0 ≤ room_1.slots := by decide +kernel
  exact am_call (va_runV (As := As) (rest := rest) (C := r.1) (n := na) fx hMet ⟨⟨rfl, rfl, by show d + 1 ≤ 2048; omega, by show 8 + (maxL + 11) + 64 * d ≤ 84000; omega, am_words hts hcode, am_code_in, hts _ hcode, hts _ hini, ⟨hd3.1, hd3.2.1⟩, am_sig hd3.2.2, hts _ hlink⟩, hts _ hinst, hts _ hsel⟩
    ⟨blind, va_recv hK hP hr (am_ws_obj ho hso), pre⟩ rfl hna hl.1 rfl (lv_room hcat) hdg room) hS kk
theorem am_ni (a : Nat) : ∀ l : List Value, (∀ v ∈ l, ∃ x, v = .int x) → l.map (am_c a) = l := by
  intro l h
  induction l with
  | nil => rfl
  | cons v t ih =>
    obtain ⟨x, rfl⟩ := h v List.mem_cons_self
    rw [List.map_cons, ih (fun w hw => h w (List.mem_cons_of_mem _ hw))]
    rfl
/-- memory in its bounds, the reference's laws fit to be reckoned -/
def okS (σ : am_S) : Prop := sb_ok BB SH σ ∧ JJ σ
theorem sp_f (x : Int32) : sp_in (.inl (-2147483648, 2147483647)) (.int x) := ⟨x, rfl, ii_lo x, by have := ii_hi x; show x.toInt ≤ 2147483647; omega⟩
/-- a public method by its word -/
theorem lw_use {sm : List sa_A} {a : sa_A} {t : List sa_A} {As : List Value} {σ : am_S} (hs : sm = a :: t) (hi : a.2.1.all (fun r => match r.1 with
  | some (.inl _) => true
  | _ => false) = true) (hp : sp_all a.1 As) (h : okS σ) : sp_w JJ BB SH 92 sm As 92 σ (fun v τ => (∃ x : Int32, v = some (.int x) ∧ sp_ret a.2.1 As (some (.int x))) ∧ okS τ ∧ sb_fr a.2.2 σ τ) := by
  subst hs
  refine ⟨rfl, h.1, h.2, a, List.mem_cons_self, hp, fun v τ h1 h2 h3 h4 => ⟨?_, ⟨h1, h2⟩, h3⟩⟩
  obtain ⟨r, r1, r2, r3⟩ := h4
  have q := List.all_eq_true.mp hi r r1
  cases hr : r.1 with
  | none => rw [hr] at q; cases q
  | some p =>
    rw [hr] at q r2
    cases v with
    | none => exact r2.elim
    | some w =>
      cases p with
      | inr _ => cases q
      | inl b =>
        obtain ⟨x, hx, hb⟩ := r2
        subst hx
        exact ⟨x, rfl, r, r1, by rw [hr]; exact ⟨x, rfl, hb⟩, r3⟩
/-- the reference's read -/
theorem lw_useR {σ : am_S} (h : okS σ) : sX12_read [.ref 51] 92 σ (fun v τ => (∃ x : Int32, v = some (.int x) ∧ True) ∧ okS τ ∧ (∀ o i, o < 51 → τ.1 o i = σ.1 o i ∧ τ.2 o i = σ.2 o i) ∧ τ.1 51 2 = 0) := ⟨rfl, h.1, h.2, rfl, fun x τ h1 h2 h3 h4 => ⟨⟨x, rfl, trivial⟩, ⟨h1, h2⟩, h3, h4⟩⟩
/-! the relation that the law keeps. Printed by wip/am/rel.py. -/
/-- the tapes are alike, the words as they are told, the place the same -/
def RL0 (σ : am_S) : Prop := (σ.1 0 1 = σ.1 51 2 ∧ ∀ i : Nat, i < 2000 → (i : Int) < (σ.1 51 2).toInt → σ.1 1 i = σ.1 52 i) ∧ KR σ ∧ KC σ ∧ σ.1 0 2 = σ.1 51 17
def okR0 (σ : am_S) : Prop := okS σ ∧ RL0 σ
def RL0s : List (Nat × Nat × Nat) := [(0, 1, 2), (51, 2, 3), (1, 0, 2000), (52, 0, 2000), (58, 0, 19), (15, 0, 19), (0, 2, 3), (51, 17, 18)]
def lw0_fr (M : sa_M) : Bool := M.all (fun m => RL0s.all (fun s => !(decide (m.1 = s.1 ∧ m.2.1 < s.2.2 ∧ s.2.1 < m.2.2))))
theorem RL0s_fr {M : sa_M} {σ τ : am_S} (h : sb_fr M σ τ) (e : lw0_fr M = true) : ∀ s ∈ RL0s, ∀ k, s.2.1 ≤ k → k < s.2.2 → τ.1 s.1 k = σ.1 s.1 k ∧ τ.2 s.1 k = σ.2 s.1 k := fun s hs k h1 h2 => h s.1 k (fun m hm hh => by
  have q := List.all_eq_true.mp (List.all_eq_true.mp e m hm) s hs
  simp only [Bool.not_eq_true', decide_eq_false_iff_not] at q
  exact q ⟨hh.1, by omega, by omega⟩)
theorem RL0_cg {σ τ : am_S} (h : ∀ s ∈ RL0s, ∀ k, s.2.1 ≤ k → k < s.2.2 → τ.1 s.1 k = σ.1 s.1 k ∧ τ.2 s.1 k = σ.2 s.1 k) (g : RL0 σ) : RL0 τ := by
  have e1 := (h (0, 1, 2) (by decide) 1 (by decide) (by decide)).1
  have e2 := (h (51, 2, 3) (by decide) 2 (by decide) (by decide)).1
  have e3 : ∀ k, k < 2000 → τ.1 1 k = σ.1 1 k := fun k hk => (h (1, 0, 2000) (by decide) k (Nat.zero_le _) hk).1
  have e4 : ∀ k, k < 2000 → τ.1 52 k = σ.1 52 k := fun k hk => (h (52, 0, 2000) (by decide) k (Nat.zero_le _) hk).1
  have e5 : ∀ k, k < 19 → τ.2 58 k = σ.2 58 k := fun k hk => (h (58, 0, 19) (by decide) k (Nat.zero_le _) hk).2
  have e6 : ∀ k, k < 19 → τ.2 15 k = σ.2 15 k := fun k hk => (h (15, 0, 19) (by decide) k (Nat.zero_le _) hk).2
  have e7 := (h (0, 2, 3) (by decide) 2 (by decide) (by decide)).1
  have e8 := (h (51, 17, 18) (by decide) 17 (by decide) (by decide)).1
  simp only at e1 e2 e3 e4 e5 e6 e7 e8
  refine ⟨⟨by rw [e1, e2]; exact g.1.1, fun i hi h2 => ?_⟩, fun k hk => (e5 k hk).trans (g.2.1 k hk), ⟨fun k hk => (e6 k hk).trans (g.2.2.1 k hk), by rw [e7, e8]; exact g.2.2.2⟩⟩
  rw [e2] at h2
  rw [e3 i hi, e4 i hi]
  exact g.1.2 i hi h2
theorem RL0_fr {M0 M1 : sa_M} {σ τ υ : am_S} (g : RL0 σ) (f0 : sb_fr M0 σ τ) (f1 : sb_fr M1 τ υ) (e0 : lw0_fr M0 = true) (e1 : lw0_fr M1 = true) : RL0 υ := RL0_cg (RL0s_fr f1 e1) (RL0_cg (RL0s_fr f0 e0) g)
theorem RL0_C {σ : am_S} (g : RL0 σ) : KC σ := g.2.2.1
theorem tpd_b {σ : am_S} (h : okS σ) : 0 ≤ (σ.1 51 2).toInt ∧ (σ.1 51 2).toInt ≤ 2000 := h.1.2 51 12 2 rfl
theorem tpd_c {σ : am_S} (h : okR0 σ) : 0 ≤ (σ.1 0 1).toInt ∧ (σ.1 0 1).toInt ≤ 2000 := by
  rw [h.2.1.1]
  exact tpd_b h.1
/-- feed -/
def MF (o ct tp : Nat) (M : sa_M) (a b c d e : Int32) (σ : am_S) (x : Int32) (τ : am_S) : Prop := okS τ ∧ ((1980 < (σ.1 o ct).toInt ∧ x = Int32.ofInt (-1) ∧ τ = σ) ∨ ((σ.1 o ct).toInt ≤ 1980 ∧ x = Int32.ofInt ((σ.1 o ct).toInt + 20) ∧ sb_fr M σ τ ∧ fyR o ct tp (σ.1 o ct).toInt (fdB a b c d e) 20 σ τ))
theorem J_fc {σ τ : am_S} (h : JJ σ) (g : sb_fr fcM σ τ) : JJ τ := JJ_fr (sm := [([], [], fcM)]) (by decide +kernel) _ (List.mem_singleton.mpr rfl) σ τ h g
theorem J_fr {σ τ : am_S} (h : JJ σ) (g : sb_fr frM σ τ) : JJ τ := JJ_fr (sm := [([], [], frM)]) (by decide +kernel) _ (List.mem_singleton.mpr rfl) σ τ h g
theorem useC0_feed {σ : am_S} {a b c d e : Int32} (h : okR0 σ) : sX11_feedE [.ref 0, .int a, .int b, .int c, .int d, .int e] 92 σ (fun v τ => ∃ x : Int32, v = some (.int x) ∧ MF 0 1 1 fcM a b c d e σ x τ) :=
  ⟨rfl, h.1.1, (σ.1 0 1).toInt, a, b, c, d, e, tpd_c h, ii_of _, rfl, fun q => ⟨_, rfl, h.1, Or.inl ⟨q, rfl, rfl⟩⟩, fun q τ i f => ⟨_, rfl, ⟨i.1, J_fc h.1.2 i.2⟩, Or.inr ⟨q, rfl, i.2, f⟩⟩⟩
theorem MF_T {σ τ : am_S} {a b c d e x : Int32} (m : MF 0 1 1 fcM a b c d e σ x τ) : τ.1 51 2 = σ.1 51 2 := by
  rcases m.2 with ⟨_, _, rfl⟩ | ⟨_, _, f, _⟩
  · rfl
  · exact (f 51 2 (by decide)).1
theorem useR0_feed {σ τ : am_S} {a b c d e a' b' c' d' e' x : Int32} (h : okR0 σ) (m : MF 0 1 1 fcM a' b' c' d' e' σ x τ) : sX12_feedE [.ref 51, .int a, .int b, .int c, .int d, .int e] 92 τ (fun v υ => ∃ y : Int32, v = some (.int y) ∧ MF 51 2 52 frM a b c d e τ y υ) :=
  ⟨rfl, m.1.1, (τ.1 51 2).toInt, a, b, c, d, e, tpd_b m.1, ii_of _, rfl, fun q => ⟨_, rfl, m.1, Or.inl ⟨q, rfl, rfl⟩⟩, fun q υ i f => ⟨_, rfl, ⟨i.1, J_fr m.1.2 i.2⟩, Or.inr ⟨q, rfl, i.2, f⟩⟩⟩
theorem pair0_feed {σ τ υ : am_S} {a b c d e x y : Int32} (h : okR0 σ) (m0 : MF 0 1 1 fcM a b c d e σ x τ) (m1 : MF 51 2 52 frM a b c d e τ y υ) : okR0 υ ∧ x = y := by
  have eT := MF_T m0
  have eq : (σ.1 0 1).toInt = (τ.1 51 2).toInt := by rw [eT, h.2.1.1]
  have tb := tpd_b m0.1
  obtain ⟨k0, m0⟩ := m0
  obtain ⟨k1, m1⟩ := m1
  rcases m0 with ⟨q, rfl, rfl⟩ | ⟨q, rfl, f, y0⟩ <;> rcases m1 with ⟨q', rfl, rfl⟩ | ⟨q', rfl, f', y1⟩
  · exact ⟨⟨k1, h.2⟩, rfl⟩
  · omega
  · omega
  · rw [eq] at y0 ⊢
    refine ⟨⟨k1, ?_⟩, rfl⟩
    obtain ⟨T, eTT⟩ : ∃ T, T = (τ.1 51 2).toInt := ⟨_, rfl⟩
    rw [← eTT] at y0 y1 tb q'
    obtain ⟨a1, a2, a3⟩ := y0
    obtain ⟨b1, b2, b3⟩ := y1
    have c1 : υ.1 0 1 = Int32.ofInt (T + 20) := by rw [(f' 0 1 (by decide)).1]; exact a2
    have c2 : υ.1 51 2 = Int32.ofInt (T + 20) := b2
    refine ⟨⟨c1.trans c2.symm, fun i hi hl => ?_⟩, fun k hk => ?_, ⟨fun k hk => ?_, ?_⟩⟩
    · rw [c2, ii_t (by omega) (by omega)] at hl
      have e1 : υ.1 1 i = τ.1 1 i := (f' 1 i (fun m hm hh => (by decide : ∀ m ∈ frM, m.1 ≠ 1) m hm hh.1)).1
      have e2 : τ.1 52 i = σ.1 52 i := (f 52 i (fun m hm hh => (by decide : ∀ m ∈ fcM, m.1 ≠ 52) m hm hh.1)).1
      by_cases z : (i : Int) < T
      · rw [e1, a1 1 i (fun w => absurd w.1 (by decide)) (fun w => by omega), b1 52 i (fun w => absurd w.1 (by decide)) (fun w => by omega), e2]
        exact h.2.1.2 i hi (by rw [← h.2.1.1, eq, ← eTT]; exact z)
      · have u0 := a3 (i - T.toNat) (by omega)
        have u1 := b3 (i - T.toNat) (by omega)
        rw [show T.toNat + (i - T.toNat) = i by omega] at u0 u1
        rw [e1, u0, u1]
    · exact ((f' 58 k (fun m hm hh => (by decide : ∀ m ∈ frM, m.1 ≠ 58) m hm hh.1)).2.trans (f 58 k (fun m hm hh => (by decide : ∀ m ∈ fcM, m.1 ≠ 58) m hm hh.1)).2).trans (h.2.2.1 k hk)
    · exact ((f' 15 k (fun m hm hh => (by decide : ∀ m ∈ frM, m.1 ≠ 15) m hm hh.1)).2.trans (f 15 k (fun m hm hh => (by decide : ∀ m ∈ fcM, m.1 ≠ 15) m hm hh.1)).2).trans (RL0_C h.2 k hk)
    · rw [(f' 0 2 (by decide)).1, (f 0 2 (by decide)).1, (f' 51 17 (by decide)).1, (f 51 17 (by decide)).1]
      exact h.2.2.2.2
/-- back -/
def MB (o ct : Nat) (z : Int32) (σ : am_S) (x : Int32) (τ : am_S) : Prop := okS τ ∧ ((0 ≤ z.toInt ∧ z.toInt ≤ (σ.1 o ct).toInt ∧ x = Int32.ofInt ((σ.1 o ct).toInt - z.toInt) ∧ τ = am_pi σ o ct (Int32.ofInt ((σ.1 o ct).toInt - z.toInt))) ∨ (¬ (0 ≤ z.toInt ∧ z.toInt ≤ (σ.1 o ct).toInt) ∧ x = Int32.ofInt (-1) ∧ τ = σ))
theorem okS_pi {σ : am_S} {o ct ci : Nat} {v : Int} (h : okS σ) (ho : SH o = .inl ci) (hv : -2147483648 ≤ v ∧ v < 2147483648) (hb : (BB.2 o ct).1 ≤ v ∧ v ≤ (BB.2 o ct).2) (hf : Jfree [([], [], [(o, ct, ct + 1)])] = true) : okS (am_pi σ o ct (Int32.ofInt v)) := by
  have i1 : sI BB SH [(o, ct, ct + 1)] σ (am_pi σ o ct (Int32.ofInt v)) := sI_fld (ci := ci) ⟨h.1, sb_fr_r _ _⟩ ho (by rw [ii_t hv.1 hv.2]; exact hb) ⟨_, List.mem_cons_self, rfl, Nat.le_refl _, Nat.lt_succ_self _⟩
  exact ⟨i1.1, JJ_fr hf _ (List.mem_singleton.mpr rfl) σ _ h.2 i1.2⟩
theorem useC0_back {σ : am_S} {z : Int32} (h : okR0 σ) : yX11_backw [.ref 0, .int z] 92 σ (fun v τ => ∃ x : Int32, v = some (.int x) ∧ MB 0 1 z σ x τ) := by
  have tb := tpd_c h
  have z1 := ii_lo z
  have z2 := ii_hi z
  refine ⟨z.toInt, (σ.1 0 1).toInt, ⟨z1, z2⟩, tb, rfl, by rw [← ii_of], ii_of _, fun q1 q2 => ⟨_, rfl, ?_, Or.inl ⟨q1, q2, rfl, rfl⟩⟩, fun q => ⟨_, rfl, h.1, Or.inr ⟨q, rfl, rfl⟩⟩⟩
  exact okS_pi (ci := 11) h.1 rfl (by omega) ⟨by show (-2147483648 : Int) ≤ _; omega, by show _ ≤ (2147483647 : Int); omega⟩ (by decide +kernel)
theorem MB_T {σ τ : am_S} {z x : Int32} (m : MB 0 1 z σ x τ) : τ.1 51 2 = σ.1 51 2 := by
  rcases m.2 with ⟨_, _, _, rfl⟩ | ⟨_, _, rfl⟩
  · exact pi_n _ _ _ _ (by decide)
  · rfl
theorem useR0_back {σ τ : am_S} {z z' x : Int32} (h : okR0 σ) (m : MB 0 1 z' σ x τ) : yX12_backw [.ref 51, .int z] 92 τ (fun v υ => ∃ y : Int32, v = some (.int y) ∧ MB 51 2 z τ y υ) := by
  have tb := tpd_b m.1
  have z1 := ii_lo z
  have z2 := ii_hi z
  refine ⟨z.toInt, (τ.1 51 2).toInt, ⟨z1, z2⟩, tb, rfl, by rw [← ii_of], ii_of _, fun q1 q2 => ⟨_, rfl, ?_, Or.inl ⟨q1, q2, rfl, rfl⟩⟩, fun q => ⟨_, rfl, m.1, Or.inr ⟨q, rfl, rfl⟩⟩⟩
  exact okS_pi (ci := 12) m.1 rfl (by omega) ⟨by show (0 : Int) ≤ _; omega, by show _ ≤ (2000 : Int); omega⟩ (by decide +kernel)
theorem pair0_back {σ τ υ : am_S} {z x y : Int32} (h : okR0 σ) (m0 : MB 0 1 z σ x τ) (m1 : MB 51 2 z τ y υ) : okR0 υ ∧ x = y := by
  have eT := MB_T m0
  have eq : (σ.1 0 1).toInt = (τ.1 51 2).toInt := by rw [eT, h.2.1.1]
  have tb := tpd_b m0.1
  obtain ⟨k0, m0⟩ := m0
  obtain ⟨k1, m1⟩ := m1
  rcases m0 with ⟨q1, q2, rfl, rfl⟩ | ⟨q, rfl, rfl⟩ <;> rcases m1 with ⟨p1, p2, rfl, rfl⟩ | ⟨p, rfl, rfl⟩
  · rw [eT] at p2 k1 tb eq ⊢
    refine ⟨⟨k1, ?_⟩, by rw [eq]⟩
    have c1 : ∀ o i, ¬ (o = 0 ∧ i = 1) → ¬ (o = 51 ∧ i = 2) → (am_pi (am_pi σ 0 1 (Int32.ofInt ((σ.1 0 1).toInt - z.toInt))) 51 2 (Int32.ofInt ((σ.1 51 2).toInt - z.toInt))).1 o i = σ.1 o i := fun o i a b => by rw [pi_n _ _ _ _ b, pi_n _ _ _ _ a]
    refine ⟨⟨?_, fun i hi hl => ?_⟩, h.2.2.1, ⟨fun k hk => RL0_C h.2 k hk, ?_⟩⟩
    · rw [pi_n _ _ _ _ (by decide), pi_s, pi_s, h.2.1.1]
    · rw [pi_s, ii_t (by omega) (by omega)] at hl
      rw [c1 _ _ (fun w => absurd w.1 (by decide)) (fun w => absurd w.1 (by decide)), c1 _ _ (fun w => absurd w.1 (by decide)) (fun w => absurd w.1 (by decide))]
      exact h.2.1.2 i hi (by omega)
    · rw [c1 _ _ (by decide) (by decide), c1 _ _ (by decide) (by decide)]
      exact h.2.2.2.2
  · exact absurd ⟨q1, by rw [← eq]; exact q2⟩ p
  · exact absurd ⟨p1, by rw [eq]; exact p2⟩ q
  · exact ⟨⟨k1, h.2⟩, rfl⟩
/-- read -/
def rcA : sa_M := rcN ++ bfM
/-- what a read without a fault leaves in the class -/
def rcX (d : DR) (τ : am_S) : Prop := (τ.1 20 0 = Int32.ofInt d.1 ∧ (1 ≤ d.1 ∧ d.1 ≤ 12)) ∧ τ.1 47 3 = Int32.ofInt 0 ∧ τ.1 35 4 = Int32.ofInt 0
theorem rcX_of {d : DR} {σ : am_S} (h : cD σ d) : rcX d (rcF σ) := by
  refine ⟨⟨?_, h.1.2⟩, ?_, ?_⟩
  · refine Eq.trans ?_ h.1.1
    unfold rcF
    rw [pi_n _ _ _ _ (fun z => absurd z.1 (by decide)), pi_n _ _ _ _ (fun z => absurd z.1 (by decide)), pi_n _ _ _ _ (fun z => absurd z.1 (by decide))]
    have e : (bgK 5 (beT σ)).1 20 0 = (beT σ).1 20 0 := rfl
    rw [e]
    rfl
  · unfold rcF
    rw [pi_s]
  · unfold rcF
    rw [pi_n _ _ _ _ (fun z => absurd z.1 (by decide)), pi_s]
def MRc (σ : am_S) (x : Int32) (τ : am_S) : Prop := okS τ ∧ sb_fr rcA σ τ ∧ τ.1 0 1 = Int32.ofInt 0 ∧ τ.1 0 2 = Int32.ofInt (spR (bC σ) (σ.1 0 1).toInt.toNat).2.1 ∧ x = Int32.ofInt (spR (bC σ) (σ.1 0 1).toInt.toNat).1 ∧ ((spR (bC σ) (σ.1 0 1).toInt.toNat).1 ≠ 0 → sb_fr rcN σ τ) ∧ ((spR (bC σ) (σ.1 0 1).toInt.toNat).1 = 0 → rcX (spR (bC σ) (σ.1 0 1).toInt.toNat).2.2 τ)
def MRr (b : Nat → Int) (Z : Nat) (τ : am_S) (y : Int32) (υ : am_S) : Prop := okS υ ∧ cI' τ υ ∧ kT τ υ ∧ rdX b Z τ υ ∧ y = Int32.ofInt (spR b Z).1
theorem rcA_J {σ τ : am_S} (h : JJ σ) (g : sb_fr rcA σ τ) : JJ τ := JJ_fr (sm := [([], [], rcA)]) (by decide +kernel) _ (List.mem_singleton.mpr rfl) σ τ h g
theorem useC0_read {σ : am_S} (h : okR0 σ) : sX11_readT [.ref 0] 92 σ (fun v τ => ∃ x : Int32, v = some (.int x) ∧ MRc σ x τ) := by
  have tb := tpd_c h
  refine ⟨rfl, h.1.1, h.1.2, RL0_C h.2, (σ.1 0 1).toInt.toNat, by omega, ?_, rfl, fun τ g1 g2 g3 => ⟨fun z => ?_, fun z hc => ?_⟩⟩
  · rw [show (((σ.1 0 1).toInt.toNat : Nat) : Int) = (σ.1 0 1).toInt by omega]
    exact ii_of _
  · have f : sb_fr rcA σ τ := (sI_m g1 (by decide)).2
    exact ⟨_, rfl, ⟨g1.1, rcA_J h.1.2 f⟩, f, g2, g3, rfl, fun _ => g1.2, fun w => absurd w z⟩
  · have g := rcF_I g1.1
    have f : sb_fr rcA σ (rcF τ) := sb_fr_t (sI_m g1 (by decide)).2 (sI_m g (by decide)).2
    have z : (spR (bC σ) (σ.1 0 1).toInt.toNat).1 = 0 := z
    exact ⟨_, rfl, ⟨g.1, rcA_J h.1.2 f⟩, f, (g.2 0 1 (by decide)).1.trans g2, (g.2 0 2 (by decide)).1.trans g3, by rw [z], fun w => absurd z w, fun _ => rcX_of hc⟩
theorem useR0_read {σ τ : am_S} {x : Int32} (h : okR0 σ) (m : MRc σ x τ) : sX12_readE [.ref 51] 92 τ (fun v υ => ∃ y : Int32, v = some (.int y) ∧ MRr (bC σ) (σ.1 0 1).toInt.toNat τ y υ) := by
  have tb := tpd_c h
  have eT : τ.1 51 2 = σ.1 51 2 := (m.2.1 51 2 (by decide)).1
  refine ⟨rfl, m.1.1, m.1.2, fun k hk => ?_, rfl, bC σ, (σ.1 0 1).toInt.toNat, by omega, ?_, fun i hi => ?_, fun υ g1 g2 g3 g4 g5 => ⟨_, rfl, ⟨g1, g2⟩, g3, g4, g5, rfl⟩⟩
  · exact (m.2.1 58 k (fun m hm hh => (by decide : ∀ m ∈ rcA, m.1 ≠ 58) m hm hh.1)).2.trans (h.2.2.1 k hk)
  · rw [show (((σ.1 0 1).toInt.toNat : Nat) : Int) = (σ.1 0 1).toInt by omega, eT, h.2.1.1]
    exact ii_of _
  · unfold bC bR
    rw [(m.2.1 52 i (fun m hm hh => (by decide : ∀ m ∈ rcA, m.1 ≠ 52) m hm hh.1)).1, h.2.1.2 i (by omega) (by rw [← h.2.1.1]; omega)]
theorem pair0_read {σ τ υ : am_S} {x y : Int32} (h : okR0 σ) (m0 : MRc σ x τ) (m1 : MRr (bC σ) (σ.1 0 1).toInt.toNat τ y υ) : okR0 υ ∧ x = y := by
  obtain ⟨k0, f0, a1, a2, rfl, _, _⟩ := m0
  obtain ⟨k1, c1, t1, r1, rfl⟩ := m1
  have z : (0 : Int32).toInt = 0 := rfl
  refine ⟨⟨k1, ⟨?_, fun i hi hl => ?_⟩, fun k hk => ?_, ⟨fun k hk => ?_, ?_⟩⟩, rfl⟩
  · rw [(c1 0 1 (by decide)).1, a1, t1.2.2]
    rfl
  · rw [t1.2.2, z] at hl
    omega
  · exact ((t1.1 k).trans (f0 58 k (fun m hm hh => (by decide : ∀ m ∈ rcA, m.1 ≠ 58) m hm hh.1)).2).trans (h.2.2.1 k hk)
  · exact ((c1 15 k (by decide)).2.trans (f0 15 k (fun m hm hh => (by decide : ∀ m ∈ rcA, m.1 ≠ 15) m hm hh.1)).2).trans (RL0_C h.2 k hk)
  · rw [(c1 0 2 (by decide)).1, a2, r1.1]
/-- place -/
def MP (o cp : Nat) (σ : am_S) (x : Int32) (τ : am_S) : Prop := τ = σ ∧ okS τ ∧ x = σ.1 o cp
theorem useC0_place {σ : am_S} (h : okR0 σ) : sX11_placeE [.ref 0] 92 σ (fun v τ => ∃ x : Int32, v = some (.int x) ∧ MP 0 2 σ x τ) := ⟨rfl, rfl, _, rfl, _, rfl, rfl, h.1, rfl⟩
theorem useR0_place {σ τ : am_S} {x : Int32} (_ : okR0 σ) (m : MP 0 2 σ x τ) : sX12_placeE [.ref 51] 92 τ (fun v υ => ∃ y : Int32, v = some (.int y) ∧ MP 51 17 τ y υ) := ⟨rfl, rfl, _, rfl, _, rfl, rfl, m.2.1, rfl⟩
theorem pair0_place {σ τ υ : am_S} {x y : Int32} (h : okR0 σ) (m0 : MP 0 2 σ x τ) (m1 : MP 51 17 τ y υ) : okR0 υ ∧ x = y := by
  obtain ⟨rfl, k0, rfl⟩ := m0
  obtain ⟨rfl, k1, rfl⟩ := m1
  exact ⟨h, h.2.2.2.2⟩
/-- both newly made -/
def iniRel (τ : am_S) : Prop := sb_ok B0 SH τ ∧ KR τ ∧ (∃ τ1 : am_S, T51 τ1 ∧ ∀ o k, o < 51 → τ.1 o k = τ1.1 o k ∧ τ.2 o k = τ1.2 o k) ∧ (∀ k, k < 63 → k ≠ 47 → k ≠ 48 → τ.1 51 k = (am_find iniV k).getD 0) ∧ NM τ
theorem ini_RL0 {τ : am_S} (h : iniRel τ) : RL0 τ := by
  obtain ⟨h1, h2, ⟨τ1, ⟨t1, t2, t3⟩, h3⟩, h4, _⟩ := h
  have e0 : τ.1 51 2 = 0 := (h4 2 (by decide) (by decide) (by decide)).trans (by decide +kernel)
  have z : (0 : Int32).toInt = 0 := rfl
  refine ⟨⟨ini_TP h1, fun i hi hl => ?_⟩, h2, ⟨fun k hk => (h3 15 k (by decide)).2.trans (t3 k hk), ?_⟩⟩
  · rw [e0, z] at hl
    omega
  · rw [(h3 0 2 (by decide)).1, t1 0 2 (by decide) (by decide), h4 17 (by decide) (by decide) (by decide)]
    decide +kernel
/-! the town, the moment, what is remembered, held, told -/
def RW (σ : am_S) : Prop := ∃ (d : DR) (S nx un : Nat), RWd σ d S nx un
def lwx_fr (M : sa_M) : Bool := M.all (fun m => RWo.all (fun o => decide (m.1 ≠ o)) && RWf.all (fun q => !(decide (m.1 = q.1 ∧ m.2.1 ≤ q.2 ∧ q.2 < m.2.2))))
theorem RWq_fr {M : sa_M} {σ τ : am_S} (h : sb_fr M σ τ) (e : lwx_fr M = true) {o i : Nat} (q : RWq o i) : τ.1 o i = σ.1 o i := (h o i (fun m hm hh => by
  have w := List.all_eq_true.mp e m hm
  rw [Bool.and_eq_true] at w
  rcases q with q | q
  · exact of_decide_eq_true (List.all_eq_true.mp w.1 o q) hh.1
  · have z := List.all_eq_true.mp w.2 (o, i) q
    simp only [Bool.not_eq_true', decide_eq_false_iff_not] at z
    exact z hh)).1
theorem RW_fr {M : sa_M} {σ τ : am_S} (g : RW σ) (h : sb_fr M σ τ) (e : lwx_fr M = true) : RW τ := by
  obtain ⟨d, S, nx, un, g⟩ := g
  exact ⟨d, S, nx, un, RWd_cg g (fun o i q => RWq_fr h e q)⟩
def RLt (σ : am_S) : Prop := RL0 σ ∧ RW σ
def okR (σ : am_S) : Prop := okS σ ∧ RLt σ
theorem okR.o {σ : am_S} (h : okR σ) : okR0 σ := ⟨h.1, h.2.1⟩
def lw_fr (M : sa_M) : Bool := lw0_fr M && lwx_fr M
theorem RLt_fr {M0 M1 : sa_M} {σ τ υ : am_S} (g : RLt σ) (f0 : sb_fr M0 σ τ) (f1 : sb_fr M1 τ υ) (e0 : lw_fr M0 = true) (e1 : lw_fr M1 = true) : RLt υ := by
  unfold lw_fr at e0 e1
  simp only [Bool.and_eq_true] at e0 e1
  exact ⟨RL0_fr g.1 f0 f1 e0.1 e1.1, RW_fr (RW_fr g.2 f0 e0.2) f1 e1.2⟩
theorem useC_feed {σ : am_S} {a b c d e : Int32} (h : okR σ) : sX11_feedE [.ref 0, .int a, .int b, .int c, .int d, .int e] 92 σ (fun v τ => ∃ x : Int32, v = some (.int x) ∧ MF 0 1 1 fcM a b c d e σ x τ) := useC0_feed h.o
theorem useR_feed {σ τ : am_S} {a b c d e a' b' c' d' e' x : Int32} (h : okR σ) (m : MF 0 1 1 fcM a' b' c' d' e' σ x τ) : sX12_feedE [.ref 51, .int a, .int b, .int c, .int d, .int e] 92 τ (fun v υ => ∃ y : Int32, v = some (.int y) ∧ MF 51 2 52 frM a b c d e τ y υ) := useR0_feed h.o m
theorem useC_back {σ : am_S} {z : Int32} (h : okR σ) : yX11_backw [.ref 0, .int z] 92 σ (fun v τ => ∃ x : Int32, v = some (.int x) ∧ MB 0 1 z σ x τ) := useC0_back h.o
theorem useR_back {σ τ : am_S} {z z' x : Int32} (h : okR σ) (m : MB 0 1 z' σ x τ) : yX12_backw [.ref 51, .int z] 92 τ (fun v υ => ∃ y : Int32, v = some (.int y) ∧ MB 51 2 z τ y υ) := useR0_back h.o m
theorem useC_place {σ : am_S} (h : okR σ) : sX11_placeE [.ref 0] 92 σ (fun v τ => ∃ x : Int32, v = some (.int x) ∧ MP 0 2 σ x τ) := useC0_place h.o
theorem useR_place {σ τ : am_S} {x : Int32} (h : okR σ) (m : MP 0 2 σ x τ) : sX12_placeE [.ref 51] 92 τ (fun v υ => ∃ y : Int32, v = some (.int y) ∧ MP 51 17 τ y υ) := useR0_place h.o m
theorem pair_feed {σ τ υ : am_S} {a b c d e x y : Int32} (h : okR σ) (m0 : MF 0 1 1 fcM a b c d e σ x τ) (m1 : MF 51 2 52 frM a b c d e τ y υ) : okR υ ∧ x = y := by
  have p := pair0_feed h.o m0 m1
  have x0 : RW τ := by
    rcases m0.2 with ⟨_, _, rfl⟩ | ⟨_, _, f, _⟩
    · exact h.2.2
    · exact RW_fr h.2.2 f (by decide +kernel)
  have x1 : RW υ := by
    rcases m1.2 with ⟨_, _, rfl⟩ | ⟨_, _, f, _⟩
    · exact x0
    · exact RW_fr x0 f (by decide +kernel)
  exact ⟨⟨p.1.1, p.1.2, x1⟩, p.2⟩
theorem RW_pi {σ : am_S} {o k : Nat} {v : Int32} (g : RW σ) (e : (RWo.all (fun p => decide (o ≠ p)) && RWf.all (fun q => !(decide (o = q.1 ∧ k = q.2)))) = true) : RW (am_pi σ o k v) := by
  refine RW_fr (M := [(o, k, k + 1)]) g (fun o' i hn => ⟨pi_n _ _ _ _ (fun z => hn _ List.mem_cons_self ⟨z.1.symm, by show k ≤ i; omega, by show i < k + 1; omega⟩), rfl⟩) ?_
  rw [Bool.and_eq_true] at e
  unfold lwx_fr
  rw [List.all_cons, List.all_nil, Bool.and_true, Bool.and_eq_true]
  refine ⟨e.1, List.all_eq_true.mpr fun q hq => ?_⟩
  have z := List.all_eq_true.mp e.2 q hq
  simp only [Bool.not_eq_true', decide_eq_false_iff_not] at z ⊢
  exact fun w => z ⟨w.1, by omega⟩
theorem pair_back {σ τ υ : am_S} {z x y : Int32} (h : okR σ) (m0 : MB 0 1 z σ x τ) (m1 : MB 51 2 z τ y υ) : okR υ ∧ x = y := by
  have p := pair0_back h.o m0 m1
  have x0 : RW τ := by
    rcases m0.2 with ⟨_, _, _, rfl⟩ | ⟨_, _, rfl⟩
    · exact RW_pi h.2.2 (by decide +kernel)
    · exact h.2.2
  have x1 : RW υ := by
    rcases m1.2 with ⟨_, _, _, rfl⟩ | ⟨_, _, rfl⟩
    · exact RW_pi x0 (by decide +kernel)
    · exact x0
  exact ⟨⟨p.1.1, p.1.2, x1⟩, p.2⟩
theorem pair_place {σ τ υ : am_S} {x y : Int32} (h : okR σ) (m0 : MP 0 2 σ x τ) (m1 : MP 51 17 τ y υ) : okR υ ∧ x = y := by
  have p := pair0_place h.o m0 m1
  obtain ⟨rfl, _, _⟩ := m0
  obtain ⟨rfl, _, _⟩ := m1
  exact ⟨h, p.2⟩
theorem okS_of {M : sa_M} {σ τ : am_S} (h : okS σ) (i : sI BB SH M σ τ) (e : Jfree [([], [], M)] = true) : okS τ := ⟨i.1, JJ_fr e _ (List.mem_singleton.mpr rfl) σ τ h.2 i.2⟩
/-- read -/
def MRk (σ : am_S) (x : Int32) (τ : am_S) : Prop := MRc σ x τ ∧ ((spR (bC σ) (σ.1 0 1).toInt.toNat).1 = 0 → (∃ τ0, cD8 τ0 (spR (bC σ) (σ.1 0 1).toInt.toNat).2.2 ∧ τ = rcF τ0) ∧ ∀ q : Int × Int, (spA (bC σ) (σ.1 0 1).toInt.toNat 402 (.inl 0) (0, -1) dr0).1 = .inr q → q.1 ≠ 0)
theorem useC_read {σ : am_S} (h : okR σ) : sX11_readK [.ref 0] 92 σ (fun v τ => ∃ x : Int32, v = some (.int x) ∧ MRk σ x τ) := by
  have tb := tpd_c h.o
  refine ⟨rfl, h.1.1, h.1.2, RL0_C h.2.1, (σ.1 0 1).toInt.toNat, by omega, ?_, rfl, fun τ g1 g2 g3 => ⟨fun z => ?_, fun z hc hk => ?_⟩⟩
  · rw [show (((σ.1 0 1).toInt.toNat : Nat) : Int) = (σ.1 0 1).toInt by omega]
    exact ii_of _
  · have f : sb_fr rcA σ τ := (sI_m g1 (by decide)).2
    exact ⟨_, rfl, ⟨⟨g1.1, rcA_J h.1.2 f⟩, f, g2, g3, rfl, fun _ => g1.2, fun w => absurd w z⟩, fun w => absurd w z⟩
  · have g := rcF_I g1.1
    have f : sb_fr rcA σ (rcF τ) := sb_fr_t (sI_m g1 (by decide)).2 (sI_m g (by decide)).2
    have z : (spR (bC σ) (σ.1 0 1).toInt.toNat).1 = 0 := z
    exact ⟨_, rfl, ⟨⟨g.1, rcA_J h.1.2 f⟩, f, (g.2 0 1 (by decide)).1.trans g2, (g.2 0 2 (by decide)).1.trans g3, by rw [z], fun w => absurd z w, fun _ => rcX_of hc.1⟩, fun _ => ⟨⟨τ, hc, rfl⟩, hk⟩⟩
theorem rdX_k {b : Nat → Int} {Z : Nat} {σ τ : am_S} (h : rdXk b Z σ τ) : rdX b Z σ τ := ⟨h.1, fun q => ⟨(h.2.1 q).1, (h.2.1 q).2.1, (h.2.1 q).2.2.1⟩, h.2.2⟩
def MRs (b : Nat → Int) (Z : Nat) (τ : am_S) (y : Int32) (υ : am_S) : Prop := MRr b Z τ y υ ∧ ((spR b Z).1 = 0 → bg9k υ (spR b Z).2.2)
theorem useR_read {σ τ : am_S} {x : Int32} (h : okR σ) (m : MRk σ x τ) : sX12_readK [.ref 51] 92 τ (fun v υ => ∃ y : Int32, v = some (.int y) ∧ MRs (bC σ) (σ.1 0 1).toInt.toNat τ y υ) := by
  have tb := tpd_c h.o
  have m := m.1
  have eT : τ.1 51 2 = σ.1 51 2 := (m.2.1 51 2 (by decide)).1
  refine ⟨rfl, m.1.1, m.1.2, fun k hk => ?_, rfl, bC σ, (σ.1 0 1).toInt.toNat, by omega, ?_, fun i hi => ?_, fun υ g1 g2 g3 g4 g5 => ⟨_, rfl, ⟨⟨g1, g2⟩, g3, g4, rdX_k g5, rfl⟩, fun q => (g5.2.1 q).2.2.2⟩⟩
  · exact (m.2.1 58 k (fun m hm hh => (by decide : ∀ m ∈ rcA, m.1 ≠ 58) m hm hh.1)).2.trans (h.2.1.2.1 k hk)
  · rw [show (((σ.1 0 1).toInt.toNat : Nat) : Int) = (σ.1 0 1).toInt by omega, eT, h.2.1.1.1]
    exact ii_of _
  · unfold bC bR
    rw [(m.2.1 52 i (fun m hm hh => (by decide : ∀ m ∈ rcA, m.1 ≠ 52) m hm hh.1)).1, h.2.1.1.2 i (by omega) (by rw [← h.2.1.1.1]; omega)]
theorem pair_read {σ τ υ : am_S} {x y : Int32} (h : okR σ) (m0 : MRk σ x τ) (m1 : MRs (bC σ) (σ.1 0 1).toInt.toNat τ y υ) : okR υ ∧ x = y := by
  have p := pair0_read h.o m0.1 m1.1
  refine ⟨⟨p.1.1, p.1.2, ?_⟩, p.2⟩
  obtain ⟨⟨k0, f0, a1, a2, a3, n1, n2⟩, s0⟩ := m0
  obtain ⟨⟨k1, c1, t1, r1, _⟩, s1⟩ := m1
  obtain ⟨_, r2, r3⟩ := r1
  obtain ⟨d, S, nx, un, g⟩ := h.2.2
  by_cases q : (spR (bC σ) (σ.1 0 1).toInt.toNat).1 = 0
  · obtain ⟨⟨g1, g2, g3⟩, g4, g5⟩ := r2 q
    obtain ⟨⟨τ0, hc, e⟩, hk⟩ := s0 q
    obtain ⟨tc, hd⟩ := tC_new hc
    have mc := mC_new hc
    rw [← e] at tc mc
    have c35 : τ.1 35 2 = σ.1 35 2 := (f0 35 2 (by decide)).1
    have fl : τ.1 35 3 = Int32.ofInt 0 ∧ τ.1 35 4 = Int32.ofInt 0 ∧ τ.1 47 3 = Int32.ofInt 0 := by
      rw [e]
      unfold rcF
      refine ⟨?_, ?_, ?_⟩
      · rw [pi_n _ _ _ _ (by decide), pi_n _ _ _ _ (by decide), pi_s]
      · rw [pi_n _ _ _ _ (by decide), pi_s]
      · rw [pi_s]
    refine ⟨_, (pS υ).toNat, nx, 0, RW_new (tC_q tc (fun o i w => (c1 o i (by omega)).1)) (tR_rD g5 k1.1 k1.2 g4) hd (dO_in q hc.2.2.1 hk) ?_ (bg0_9 (s1 q)) g.2.2.1.1 ?_ ?_ ?_ ?_ g2 g1 g3⟩
    · rw [← mc, ← aC_0, ← aC_0]
      exact aC_cg (fun i _ => (c1 32 _ (by decide)).1)
    · rw [(c1 35 2 (by decide)).1, c35]
      exact g.2.2.1.2.2.1
    · rw [(c1 35 3 (by decide)).1]; exact fl.1
    · rw [(c1 35 4 (by decide)).1]; exact fl.2.1
    · rw [(c1 47 3 (by decide)).1]; exact fl.2.2
  · have g0 : RWd τ d S nx un := RWd_cg g (fun o i w => RWq_fr (n1 q) (by decide +kernel) w)
    obtain ⟨h1, h2⟩ := r3 q
    have el : (τ.1 51 18).toInt = (S : Int) := by
      have hS := g0.1.2.1.1.1
      rw [g0.1.2.1.1.2]
      exact ii_t (by omega) (by omega)
    rw [el] at h1 h2
    refine ⟨d, S, nx, un, RWd_c2 g0 (tC_q g0.1.1 (fun o i w => (c1 o i (by omega)).1)) (tR_keep g0.1.2.1 g0.1.2.2.2.1 h1.2 h2) (fun o i w => ?_) (RWt_cg g0.2.2.2.2.2 (fun o i w => ?_))⟩
    · by_cases z : o < 51
      · exact (c1 o i z).1
      · exact (h1.1 o i (by unfold RWr at w; unfold rfo; omega)).1
    · by_cases z : o < 51
      · exact (c1 o i z).1
      · exact (h1.1 o i (by unfold rfo; omega)).1
theorem RL0_o {σ τ : am_S} (g : RL0 σ) (h : ∀ o i, (o = 0 ∨ o = 1 ∨ o = 15 ∨ o = 52 ∨ o = 58 ∨ (o = 51 ∧ (i = 2 ∨ i = 17))) → τ.1 o i = σ.1 o i ∧ τ.2 o i = σ.2 o i) : RL0 τ := by
  refine RL0_cg (fun s hs k h1 h2 => ?_) g
  simp only [RL0s, List.mem_cons, List.not_mem_nil, or_false] at hs
  rcases hs with rfl | rfl | rfl | rfl | rfl | rfl | rfl | rfl <;> simp only at h1 h2 ⊢ <;> exact h _ _ (by omega)
/-- what both did: the class's τ, the reference's row ρ, put by -/
theorem okR_both {σ τ ρ : am_S} {d : DR} {S nx un : Nat} (h : okR σ) (k0 : okS τ) (g : RWd σ d S nx un) (h1 : ∀ o i, ¬ o = 25 → ¬ o = 26 → ¬ o = 32 → τ.1 o i = (rmC nx un σ).1 o i) (t2 : τ.2 = σ.2) (h2 : ∀ o i, ¬ o = 77 → ¬ o = 78 → ¬ o = 80 → ¬ o = 82 → ¬ (o = 51 ∧ (i = 44 ∨ i = 47 ∨ i = 48)) → ρ.1 o i = τ.1 o i) (r2 : ρ.2 = τ.2) (hs : sb_ok BB SH ρ) (hm : mC d τ 31 = mR ρ 80) (hk : mOK d (mR ρ 80)) : okR (rcR un ρ) := by
  refine ⟨⟨(rcR_I hs g.2.2.1.2.1).1, JJ_o k0.2 (fun o i q => ?_)⟩, RL0_o h.2.1 (fun o i q => ⟨?_, ?_⟩), d, S, _, _, RW_both g h1 h2 rfl hm hk⟩
  · rw [rcR_n (by omega) (by omega) (by omega), h2 o i (by omega) (by omega) (by omega) (by omega) (by omega)]
  · rw [rcR_n (by omega) (by omega) (by omega), h2 o i (by omega) (by omega) (by omega) (by omega) (by omega), h1 o i (by omega) (by omega) (by omega), rmC_r (by omega) (by omega)]
  · rw [rcR_2, r2, t2]
/-- send -/
def MSd (z w : Int32) (σ : am_S) (x : Int32) (τ : am_S) : Prop := okS τ ∧ ∃ (d : DR) (S nx un : Nat), RWd σ d S nx un ∧ ((¬ oS d (mR σ 79) z.toInt w.toInt ∧ x = Int32.ofInt 0 ∧ τ = σ) ∨ (oS d (mR σ 79) z.toInt w.toInt ∧ x = Int32.ofInt 1 ∧ τ = seC nx un z.toInt.toNat (gS (mR σ 79) z.toInt.toNat w.toInt) σ))
theorem useC_send {σ : am_S} {z w : Int32} (h : okR σ) : sX11_sendM [.ref 0, .int z, .int w] 92 σ (fun v τ => ∃ x : Int32, v = some (.int x) ∧ MSd z w σ x τ) := by
  obtain ⟨d, S, nx, un, g⟩ := h.2.2
  refine ⟨rfl, d, nx, un, z.toInt, w.toInt, kC_of g, ⟨ii_lo _, ii_hi _⟩, ⟨ii_lo _, ii_hi _⟩, by rw [← ii_of, ← ii_of], fun q => ⟨_, rfl, h.1, d, S, nx, un, g, Or.inl ⟨by rw [← g.2.1.1]; exact q, rfl, rfl⟩⟩, fun q => ?_⟩
  rw [g.2.1.1] at q ⊢
  have ok := seM_ok (p := z.toInt.toNat) (c := w.toInt) g.2.1.2 g.1.2.2 (by have := q.1; omega) q.2.1
  refine ⟨_, rfl, ⟨seC_sb h.1.1 g.2.2.1.1 g.2.2.1.2.1 g.1.2.2 (by have := q.1; omega) (by rw [g.2.1.1]; exact ok), JJ_o h.1.2 (fun o i q => ?_)⟩, d, S, nx, un, g, Or.inr ⟨q, rfl, rfl⟩⟩
  rw [seC_r (by omega), rmC_r (by omega) (by omega)]
def MSe (z w z' w' x y : Int32) (υ : am_S) : Prop := z = z' → w = w' → okR υ ∧ x = y
theorem useR_send {σ τ : am_S} {z w z' w' x : Int32} (h : okR σ) (m : MSd z' w' σ x τ) : sX12_sendM [.ref 51, .int z, .int w] 92 τ (fun v υ => ∃ y : Int32, v = some (.int y) ∧ MSe z w z' w' x y υ) := by
  obtain ⟨k0, d, S, nx, un, g, m⟩ := m
  have c : ∀ o i, 51 ≤ o → τ.1 o i = σ.1 o i := by
    rcases m with ⟨_, _, rfl⟩ | ⟨_, _, rfl⟩
    · exact fun _ _ _ => rfl
    · exact fun o i q => by rw [seC_r (by omega), rmC_r (by omega) (by omega)]
  obtain ⟨kr, e⟩ := kR_of g c
  refine ⟨rfl, d, S, un, z.toInt, w.toInt, kr, ⟨ii_lo _, ii_hi _⟩, ⟨ii_lo _, ii_hi _⟩, by rw [← ii_of, ← ii_of], fun q => ⟨_, rfl, fun e1 e2 => ?_⟩, fun q => ⟨_, rfl, fun e1 e2 => ?_⟩⟩
  · subst e1
    subst e2
    rw [e] at q
    rcases m with ⟨_, rfl, rfl⟩ | ⟨p, _, _⟩
    · exact ⟨h, rfl⟩
    · exact absurd p q
  · subst e1
    subst e2
    rw [e] at q ⊢
    rcases m with ⟨p, _, _⟩ | ⟨_, rfl, et⟩
    · exact absurd q p
    · have hp : z.toInt.toNat < dP d := by have := q.1; omega
      have hP := g.1.2.2.2.1
      have ok := seM_ok (p := z.toInt.toNat) (c := w.toInt) g.2.1.2 g.1.2.2 hp q.2.1
      refine ⟨okR_both h k0 g (fun o i _ _ c => by rw [et, seC_r c]) (by rw [et, seC_2]) (fun o i _ _ c _ f => sgR_n c (by omega)) sgR_2 (sgR_sb k0.1) ?_ ?_, rfl⟩
      · rw [sgR_m (by omega), e, et, seC_m hP hp, g.2.1.1]
      · rw [sgR_m (by omega), e]
        exact ok
theorem pair_send {σ τ υ : am_S} {z w x y : Int32} (_ : okR σ) (_ : MSd z w σ x τ) (m1 : MSe z w z w x y υ) : okR υ ∧ x = y := m1 rfl rfl
/-- mend -/
def MMd (z : Int32) (σ : am_S) (x : Int32) (τ : am_S) : Prop := okS τ ∧ ∃ (d : DR) (S nx un : Nat), RWd σ d S nx un ∧ ((¬ ((0 ≤ z.toInt ∧ z.toInt < d.1) ∧ whB (mR σ 79) z.toInt = false) ∧ x = Int32.ofInt 0 ∧ τ = σ) ∨ (((0 ≤ z.toInt ∧ z.toInt < d.1) ∧ whB (mR σ 79) z.toInt = false) ∧ x = Int32.ofInt 1 ∧ τ = meC nx un z.toInt.toNat σ))
theorem meC_sb {d : DR} {nx un r : Nat} {σ : am_S} (h : sb_ok BB SH σ) (hn : nx < 40) (hu : un ≤ 40) (hd : dOK d) (hr : r < 12) (hM : mOK d (mC d σ 31)) : sb_ok BB SH (meC nx un r σ) :=
  sb_cfm (rmC_I h hn hu).1 (cfm_pi (o := 31) (by omega)) hd (show mOK d (mC d (meC nx un r σ) 31) by rw [meC_m hd.2.1 hr]; exact mOK_b hM hd hr (Or.inl rfl))
theorem useC_mend {σ : am_S} {z : Int32} (h : okR σ) : sX11_mendM [.ref 0, .int z] 92 σ (fun v τ => ∃ x : Int32, v = some (.int x) ∧ MMd z σ x τ) := by
  obtain ⟨d, S, nx, un, g⟩ := h.2.2
  have hR := g.1.2.2.1
  refine ⟨rfl, d, nx, un, z.toInt, kC_of g, ⟨ii_lo _, ii_hi _⟩, by rw [← ii_of], fun q => ⟨_, rfl, h.1, d, S, nx, un, g, Or.inl ⟨by rw [← g.2.1.1]; exact q, rfl, rfl⟩⟩, fun q q2 => ?_⟩
  rw [g.2.1.1] at q2
  refine ⟨_, rfl, ⟨meC_sb h.1.1 g.2.2.1.1 g.2.2.1.2.1 g.1.2.2 (by omega) (by rw [g.2.1.1]; exact g.2.1.2), JJ_o h.1.2 (fun o i q => ?_)⟩, d, S, nx, un, g, Or.inr ⟨⟨q, q2⟩, rfl, rfl⟩⟩
  rw [meC_r (by omega), rmC_r (by omega) (by omega)]
def MMe (z z' x y : Int32) (υ : am_S) : Prop := z = z' → okR υ ∧ x = y
theorem useR_mend {σ τ : am_S} {z z' x : Int32} (h : okR σ) (m : MMd z' σ x τ) : sX12_mendM [.ref 51, .int z] 92 τ (fun v υ => ∃ y : Int32, v = some (.int y) ∧ MMe z z' x y υ) := by
  obtain ⟨k0, d, S, nx, un, g, m⟩ := m
  have c : ∀ o i, 51 ≤ o → τ.1 o i = σ.1 o i := by
    rcases m with ⟨_, _, rfl⟩ | ⟨_, _, rfl⟩
    · exact fun _ _ _ => rfl
    · exact fun o i q => by rw [meC_r (by omega), rmC_r (by omega) (by omega)]
  obtain ⟨kr, e⟩ := kR_of g c
  have hR := g.1.2.2.1
  refine ⟨rfl, d, S, un, z.toInt, kr, ⟨ii_lo _, ii_hi _⟩, by rw [← ii_of], fun q => ⟨_, rfl, fun e1 => ?_⟩, fun q q2 => ⟨_, rfl, fun e1 => ?_⟩⟩
  · subst e1
    rw [e] at q
    rcases m with ⟨_, rfl, rfl⟩ | ⟨p, _, _⟩
    · exact ⟨h, rfl⟩
    · exact absurd p q
  · subst e1
    rw [e] at q2
    rcases m with ⟨p, _, _⟩ | ⟨_, rfl, et⟩
    · exact absurd ⟨q, q2⟩ p
    · have hr : z.toInt.toNat < 12 := by omega
      refine ⟨okR_both (ρ := mgR S z.toInt.toNat τ) h k0 g (fun o i _ _ c => by rw [et, meC_r c]) (by rw [et]; rfl) (fun o i _ _ c _ f => mgR_n c (by omega)) rfl (sb_rfb (cpyR_I (S := S) k0.1).1 (rfb_m rfm_pi)) ?_ ?_, rfl⟩
      · rw [mgR_m hr, e, et, meC_m g.1.2.2.2.1 hr, g.2.1.1]
      · rw [mgR_m hr, e]
        exact mOK_b g.2.1.2 g.1.2.2 hr (Or.inl rfl)
theorem pair_mend {σ τ υ : am_S} {z x y : Int32} (_ : okR σ) (_ : MMd z σ x τ) (m1 : MMe z z x y υ) : okR υ ∧ x = y := m1 rfl
/-- bucket -/
def MBd (z : Int32) (σ : am_S) (x : Int32) (τ : am_S) : Prop := okS τ ∧ ∃ (d : DR) (S nx un : Nat), RWd σ d S nx un ∧ ((¬ (0 ≤ z.toInt ∧ z.toInt ≤ 99) ∧ x = Int32.ofInt (-1) ∧ τ = σ) ∨ ((0 ≤ z.toInt ∧ z.toInt ≤ 99) ∧ x = (ldn d d.1.toNat (z, mR σ 79)).1 ∧ cfm d 31 (rmC nx un σ) τ ∧ mC d τ 31 = (ldn d d.1.toNat (z, mR σ 79)).2))
theorem useC_bucket {σ : am_S} {z : Int32} (h : okR σ) : sX11_bucketM [.ref 0, .int z] 92 σ (fun v τ => ∃ x : Int32, v = some (.int x) ∧ MBd z σ x τ) := by
  obtain ⟨d, S, nx, un, g⟩ := h.2.2
  refine ⟨rfl, d, nx, un, z.toInt, kC_of g, ⟨ii_lo _, ii_hi _⟩, by rw [← ii_of], fun q => ⟨_, rfl, h.1, d, S, nx, un, g, Or.inl ⟨q, rfl, rfl⟩⟩, fun q τ ht em => ?_⟩
  rw [← ii_of, g.2.1.1] at em ⊢
  refine ⟨_, rfl, ⟨sb_cfm (rmC_I h.1.1 g.2.2.1.1 g.2.2.1.2.1).1 ht g.1.2.2 (by rw [em]; exact ldn_ok g.1.2.2 g.2.1.2), JJ_o h.1.2 (fun o i q => ?_)⟩, d, S, nx, un, g, Or.inr ⟨q, rfl, ht, em⟩⟩
  rw [ht.1.1 o i (by omega) (by omega) (by omega), rmC_r (by omega) (by omega)]
def MBe (z z' x y : Int32) (υ : am_S) : Prop := z = z' → okR υ ∧ x = y
theorem useR_bucket {σ τ : am_S} {z z' x : Int32} (h : okR σ) (m : MBd z' σ x τ) : sX12_bucketM [.ref 51, .int z] 92 τ (fun v υ => ∃ y : Int32, v = some (.int y) ∧ MBe z z' x y υ) := by
  obtain ⟨k0, d, S, nx, un, g, m⟩ := m
  have c : ∀ o i, 51 ≤ o → τ.1 o i = σ.1 o i := by
    rcases m with ⟨_, _, rfl⟩ | ⟨_, _, ht, _⟩
    · exact fun _ _ _ => rfl
    · exact fun o i q => by rw [ht.1.1 o i (by omega) (by omega) (by omega), rmC_r (by omega) (by omega)]
  obtain ⟨kr, e⟩ := kR_of g c
  refine ⟨rfl, d, S, un, z.toInt, kr, ⟨ii_lo _, ii_hi _⟩, by rw [← ii_of], fun q => ⟨_, rfl, fun e1 => ?_⟩, fun q ρ hr em => ⟨_, rfl, fun e1 => ?_⟩⟩
  · subst e1
    rcases m with ⟨_, rfl, rfl⟩ | ⟨p, _⟩
    · exact ⟨h, rfl⟩
    · exact absurd p q
  · subst e1
    rcases m with ⟨p, _, _⟩ | ⟨_, rfl, ht, et⟩
    · exact absurd q p
    · rw [e, ← ii_of] at em
      rw [e, ← ii_of]
      obtain ⟨l1, l2⟩ := ld_pou (w := z) (t0 := tk τ) g.1.2.2 g.2.1.2
      rw [← l2] at em
      refine ⟨okR_both h k0 g (fun o i a b c => ht.1.1 o i a b c) ht.1.2 (fun o i a b c f w => ?_) (hr.1.2.trans rfl) (sb_rfb (cpyR_I (S := S) k0.1).1 hr) (by rw [et, em]) (by rw [em]; exact ldn_ok g.1.2.2 g.2.1.2), l1⟩
      rw [hr.1.1 o i a b c f (by omega), cpyR_n (fun z => c z.1) (by omega) (by omega)]
theorem pair_bucket {σ τ υ : am_S} {z x y : Int32} (_ : okR σ) (_ : MBd z σ x τ) (m1 : MBe z z x y υ) : okR υ ∧ x = y := m1 rfl
/-- minutes -/
def MId (z : Int32) (σ : am_S) (x : Int32) (τ : am_S) : Prop := okS τ ∧ ∃ (d : DR) (S nx un : Nat), RWd σ d S nx un ∧ ((¬ (0 ≤ z.toInt ∧ z.toInt ≤ 60) ∧ x = Int32.ofInt (-1) ∧ τ = σ) ∨ (z.toInt = 0 ∧ x = mR σ 79 49 ∧ τ = σ) ∨ ((0 < z.toInt ∧ z.toInt ≤ 60) ∧ x = minsM d (Int32.ofInt d.2.1) true z.toInt.toNat (mR σ 79) 49 ∧ cfm d 31 (rmC nx un σ) τ ∧ mC d τ 31 = minsM d (Int32.ofInt d.2.1) true z.toInt.toNat (mR σ 79)))
theorem useC_minutes {σ : am_S} {z : Int32} (h : okR σ) : sX11_minutesM [.ref 0, .int z] 92 σ (fun v τ => ∃ x : Int32, v = some (.int x) ∧ MId z σ x τ) := by
  obtain ⟨d, S, nx, un, g⟩ := h.2.2
  refine ⟨rfl, d, nx, un, z.toInt, kC_of g, ⟨ii_lo _, ii_hi _⟩, by rw [← ii_of], fun q => ⟨_, rfl, h.1, d, S, nx, un, g, Or.inl ⟨q, rfl, rfl⟩⟩, fun q => ⟨_, rfl, h.1, d, S, nx, un, g, Or.inr (Or.inl ⟨q, by rw [g.2.1.1], rfl⟩)⟩, fun q τ ht em => ?_⟩
  rw [g.2.1.1] at em ⊢
  refine ⟨_, rfl, ⟨sb_cfm (rmC_I h.1.1 g.2.2.1.1 g.2.2.1.2.1).1 ht g.1.2.2 (by rw [em]; exact minsM_ok g.2.1.2 g.1.2.2 _), JJ_o h.1.2 (fun o i q => ?_)⟩, d, S, nx, un, g, Or.inr (Or.inr ⟨q, rfl, ht, em⟩)⟩
  rw [ht.1.1 o i (by omega) (by omega) (by omega), rmC_r (by omega) (by omega)]
def MIe (z z' x y : Int32) (υ : am_S) : Prop := z = z' → okR υ ∧ x = y
theorem useR_minutes {σ τ : am_S} {z z' x : Int32} (h : okR σ) (m : MId z' σ x τ) : sX12_minutesM [.ref 51, .int z] 92 τ (fun v υ => ∃ y : Int32, v = some (.int y) ∧ MIe z z' x y υ) := by
  obtain ⟨k0, d, S, nx, un, g, m⟩ := m
  have c : ∀ o i, 51 ≤ o → τ.1 o i = σ.1 o i := by
    rcases m with ⟨_, _, rfl⟩ | ⟨_, _, rfl⟩ | ⟨_, _, ht, _⟩
    · exact fun _ _ _ => rfl
    · exact fun _ _ _ => rfl
    · exact fun o i q => by rw [ht.1.1 o i (by omega) (by omega) (by omega), rmC_r (by omega) (by omega)]
  obtain ⟨kr, e⟩ := kR_of g c
  refine ⟨rfl, d, S, un, z.toInt, kr, ⟨ii_lo _, ii_hi _⟩, by rw [← ii_of], fun q => ⟨_, rfl, fun e1 => ?_⟩, fun q => ⟨_, rfl, fun e1 => ?_⟩, fun q ρ hr em => ⟨_, rfl, fun e1 => ?_⟩⟩
  · subst e1
    rcases m with ⟨_, rfl, rfl⟩ | ⟨p, _, _⟩ | ⟨p, _⟩
    · exact ⟨h, rfl⟩
    · exact absurd ⟨by omega, by omega⟩ q
    · exact absurd ⟨by omega, p.2⟩ q
  · subst e1
    rcases m with ⟨p, _, _⟩ | ⟨_, rfl, rfl⟩ | ⟨p, _⟩
    · exact absurd ⟨by omega, by omega⟩ p
    · exact ⟨h, rfl⟩
    · exact absurd q (by omega)
  · subst e1
    rcases m with ⟨p, _, _⟩ | ⟨p, _, _⟩ | ⟨_, rfl, ht, et⟩
    · exact absurd ⟨by omega, q.2⟩ p
    · exact absurd p (by omega)
    · rw [e] at em ⊢
      refine ⟨okR_both h k0 g (fun o i a b c => ht.1.1 o i a b c) ht.1.2 (fun o i a b c f w => ?_) (hr.1.2.trans rfl) (sb_rfb (cpyR_I (S := S) k0.1).1 (rfb_m hr)) (by rw [et, em]) (by rw [em]; exact minsM_ok g.2.1.2 g.1.2.2 _), rfl⟩
      rw [hr.1.1 o i a b c (by omega), cpyR_n (fun z => c z.1) (by omega) (by omega)]
theorem pair_minutes {σ τ υ : am_S} {z x y : Int32} (_ : okR σ) (_ : MId z σ x τ) (m1 : MIe z z x y υ) : okR υ ∧ x = y := m1 rfl
/-- undo -/
def MUd (σ : am_S) (x : Int32) (τ : am_S) : Prop := okS τ ∧ ∃ (d : DR) (S nx un : Nat), RWd σ d S nx un ∧ ((un = 0 ∧ x = Int32.ofInt 0 ∧ τ = σ) ∨ (0 < un ∧ x = Int32.ofInt 1 ∧ τ = bbC nx un σ))
theorem useC_undo {σ : am_S} (h : okR σ) : sX11_undoM [.ref 0] 92 σ (fun v τ => ∃ x : Int32, v = some (.int x) ∧ MUd σ x τ) := by
  obtain ⟨d, S, nx, un, g⟩ := h.2.2
  obtain ⟨c1, c2, c3, c4, c5⟩ := g.2.2.1
  refine ⟨rfl, nx, un, c1, c2, c3, c4, rfl, fun q => ⟨_, rfl, h.1, d, S, nx, un, g, Or.inl ⟨q, rfl, rfl⟩⟩, fun q => ⟨_, rfl, ⟨(bbC_I h.1.1 c1 c2).1, JJ_o h.1.2 (fun o i q => bbC_r (by omega) (by omega))⟩, d, S, nx, un, g, Or.inr ⟨q, rfl, rfl⟩⟩⟩
def MUe (x y : Int32) (υ : am_S) : Prop := okR υ ∧ x = y
theorem useR_undo {σ τ : am_S} {x : Int32} (h : okR σ) (m : MUd σ x τ) : sX12_undoM [.ref 51] 92 τ (fun v υ => ∃ y : Int32, v = some (.int y) ∧ MUe x y υ) := by
  obtain ⟨k0, d, S, nx, un, g, m⟩ := m
  have c : ∀ o i, 51 ≤ o → τ.1 o i = σ.1 o i := by
    rcases m with ⟨_, _, rfl⟩ | ⟨_, _, rfl⟩
    · exact fun _ _ _ => rfl
    · exact fun o i q => bbC_r (by omega) (by omega)
  obtain ⟨kr, e⟩ := kR_of g c
  refine ⟨rfl, un, g.2.2.1.2.1, kr.2.2.2.2, rfl, fun q => ⟨_, rfl, ?_⟩, fun q => ⟨_, rfl, ?_⟩⟩
  · rcases m with ⟨_, rfl, rfl⟩ | ⟨p, _, _⟩
    · exact ⟨h, rfl⟩
    · exact absurd p (by omega)
  · rcases m with ⟨p, _, _⟩ | ⟨_, rfl, et⟩
    · exact absurd p (by omega)
    · have all : ∀ o i, ¬ o = 32 → ¬ (o = 35 ∧ (i = 2 ∨ i = 3)) → ¬ o = 79 → ¬ (o = 51 ∧ i = 49) → (udR un τ).1 o i = σ.1 o i := fun o i a b c d => by
        rw [udR_r c d, et, bbC_r a b]
      refine ⟨⟨⟨(udR_I k0.1 q g.2.2.1.2.1).1, JJ_o k0.2 (fun o i q => udR_r (by omega) (by omega))⟩, RL0_o h.2.1 (fun o i q => ⟨all o i (by omega) (by omega) (by omega) (by omega), by rw [et]; rfl⟩), d, S, _, _, RW_un g q (fun o i w => all o i (by omega) (by omega) (by omega) (by omega)) (fun o i w => all o i (by omega) (by omega) (by omega) (by omega)) (fun o i w => all o i (by omega) (by omega) (by omega) (by omega)) (fun o i w => ?_) (fun o i w => ?_)⟩, rfl⟩
      · rw [udR_r (by omega) (by omega), et]
      · unfold udR
        rcases w with rfl | ⟨rfl, rfl⟩
        · by_cases z : i < 51
          · have a := cpX_d (σ := am_pi τ 51 49 (Int32.ofInt ((un : Int) - 1))) (c := 81) (d := 79) (sp := 51 * (un - 1)) (dp := 0) (m := 51) (k := i) z
            have b := cpX_d (σ := am_pi σ 51 49 (Int32.ofInt ((un : Int) - 1))) (c := 81) (d := 79) (sp := 51 * (un - 1)) (dp := 0) (m := 51) (k := i) z
            rw [Nat.zero_add] at a b
            rw [a, b, pi_n _ _ _ _ (fun z => absurd z.1 (by decide)), pi_n _ _ _ _ (fun z => absurd z.1 (by decide)), c 81 _ (by decide)]
          · rw [cpX_n (fun y => by omega), cpX_n (fun y => by omega), pi_n _ _ _ _ (fun z => absurd z.1 (by decide)), pi_n _ _ _ _ (fun z => absurd z.1 (by decide)), c 79 _ (by decide)]
        · rw [cpX_n (fun z => absurd z.1 (by decide)), cpX_n (fun z => absurd z.1 (by decide)), pi_s, pi_s]
theorem pair_undo {σ τ υ : am_S} {x y : Int32} (_ : okR σ) (_ : MUd σ x τ) (m1 : MUe x y υ) : okR υ ∧ x = y := m1
/-- a boolean out of a word of the script -/
def bz (z : Int32) : Int32 := if z = 0 then Int32.ofInt 0 else Int32.ofInt 1
theorem bz_0 {z : Int32} (h : z = 0) : Int32.ofInt 0 = bz z := (if_pos h).symm
theorem bz_1 {z : Int32} (h : ¬ z = 0) : Int32.ofInt 1 = bz z := (if_neg h).symm
def MTd (c a : Int32) (σ : am_S) (x : Int32) (τ : am_S) : Prop := okS τ ∧ ∃ (d : DR) (S nx un s : Nat), RWd σ d S nx un ∧ (s ≤ 20 ∧ σ.1 47 3 = Int32.ofInt (s : Int) ∧ σ.1 51 58 = Int32.ofInt (s : Int) ∧ ∀ i, i < s → σ.1 88 i = σ.1 48 i ∧ σ.1 89 i = σ.1 49 i) ∧ ((¬ ((0 ≤ c.toInt ∧ c.toInt < d.1) ∧ s < 20) ∧ x = Int32.ofInt (-1) ∧ τ = σ) ∨ (((0 ≤ c.toInt ∧ c.toInt < d.1) ∧ s < 20) ∧ x = Int32.ofInt (s : Int) ∧ τ = tdC s c a σ))
theorem useC_tell {σ : am_S} {c a : Int32} (h : okR σ) (ha : 0 ≤ a.toInt ∧ a.toInt ≤ 1) : sX11_tellT [.ref 0, .int c, .int a] 92 σ (fun v τ => ∃ x : Int32, v = some (.int x) ∧ MTd c a σ x τ) := by
  obtain ⟨d, S, nx, un, g⟩ := h.2.2
  have hR := g.1.2.2.1
  obtain ⟨s, t1, t2, t3, t4, _⟩ := g.2.2.2.2.2
  refine ⟨rfl, s, c.toInt, d.1, a, t1, nar01 ha, ⟨ii_lo _, ii_hi _⟩, ⟨by omega, by omega⟩, g.1.1.1.1, t2, by rw [← ii_of], fun q => ⟨_, rfl, h.1, d, S, nx, un, s, g, ⟨t1, t2, t3, t4⟩, Or.inl ⟨q, rfl, rfl⟩⟩, fun q1 q2 => ?_⟩
  rw [← ii_of]
  exact ⟨_, rfl, ⟨(tdC_sb h.1.1 q2 ha).1, JJ_o h.1.2 (fun o i q => tdC_r (by omega) (by omega) (by omega))⟩, d, S, nx, un, s, g, ⟨t1, t2, t3, t4⟩, Or.inr ⟨⟨q1, q2⟩, rfl, rfl⟩⟩
def MTe (c c' a a' x y : Int32) (υ : am_S) : Prop := c = c' → a = a' → okR υ ∧ x = y
theorem useR_tell {σ τ : am_S} {c c' a a' x : Int32} (h : okR σ) (m : MTd c' a' σ x τ) (ha : 0 ≤ a.toInt ∧ a.toInt ≤ 1) : sX12_tellT [.ref 51, .int c, .int a] 92 τ (fun v υ => ∃ y : Int32, v = some (.int y) ∧ MTe c c' a a' x y υ) := by
  obtain ⟨k0, d, S, nx, un, s, g, ⟨t1, t2, t3, t4⟩, m⟩ := m
  obtain ⟨_, _, _, _, _, t5⟩ := g.2.2.2.2.2
  have hR := g.1.2.2.1
  have c0 : ∀ o i, 51 ≤ o → τ.1 o i = σ.1 o i := by
    rcases m with ⟨_, _, rfl⟩ | ⟨_, _, rfl⟩
    · exact fun _ _ _ => rfl
    · exact fun o i q => tdC_r (by omega) (by omega) (by omega)
  obtain ⟨⟨kt, _, _, _, _⟩, _⟩ := kR_of g c0
  refine ⟨rfl, s, S, c.toInt, d.1, a, t1, kt.1.1, nar01 ha, ⟨ii_lo _, ii_hi _⟩, ⟨by omega, by omega⟩, kt.1.2, kt.2.1.1, (c0 51 58 (by decide)).trans t3, by rw [← ii_of], fun q => ⟨_, rfl, fun e ea => ?_⟩, fun q1 q2 => ⟨_, rfl, fun e ea => ?_⟩⟩
  · subst e
    subst ea
    rcases m with ⟨_, rfl, rfl⟩ | ⟨p, _⟩
    · exact ⟨h, rfl⟩
    · exact absurd p q
  · subst e
    subst ea
    rcases m with ⟨p, _⟩ | ⟨_, rfl, et⟩
    · exact absurd ⟨q1, q2⟩ p
    · have all : ∀ o i, ¬ o = 48 → ¬ o = 49 → ¬ (o = 47 ∧ i = 3) → ¬ o = 88 → ¬ o = 89 → ¬ (o = 51 ∧ i = 58) → (tdR s (Int32.ofInt c.toInt) a τ).1 o i = σ.1 o i := fun o i a b e f g h => by
        rw [tdR_r f g h, et, tdC_r a b e]
      refine ⟨⟨⟨(tdR_sb k0.1 q2 ha).1, JJ_o k0.2 (fun o i q => tdR_r (by omega) (by omega) (by omega))⟩, RL0_o h.2.1 (fun o i q => ⟨all o i (by omega) (by omega) (by omega) (by omega) (by omega) (by omega), by rw [et]; rfl⟩), d, S, nx, un, RWd_c2 g (tC_q g.1.1 (fun o i q => all o i (by omega) (by omega) (by omega) (by omega) (by omega) (by omega))) (tR_fr g.1.2.1 (fun o i q => all o i (by omega) (by omega) (by omega) (by omega) (by omega) (by omega))) (fun o i q => all o i (by unfold RWr at q; omega) (by unfold RWr at q; omega) (by unfold RWr at q; omega) (by unfold RWr at q; omega) (by unfold RWr at q; omega) (by unfold RWr at q; omega)) ⟨s + 1, by omega, ?_, ?_, fun i hi => ?_, by rw [all 35 4 (by decide) (by decide) (by decide) (by decide) (by decide) (by decide)]; exact t5⟩⟩, rfl⟩
      · rw [tdR_r (by decide) (by decide) (by decide), et]
        unfold tdC
        rw [pi_s]
        rfl
      · unfold tdR
        rw [pi_s]
        rfl
      · have e48 : ∀ o i, ¬ o = 88 → ¬ o = 89 → ¬ o = 51 → (tdR s (Int32.ofInt c.toInt) a τ).1 o i = τ.1 o i := fun o i f g h => tdR_r f g (fun z => h z.1)
        have f88 : ∀ i, (tdR s (Int32.ofInt c.toInt) a τ).1 88 i = if i = s then Int32.ofInt c.toInt else τ.1 88 i := fun i => by
          unfold tdR
          rw [pi_n _ _ _ _ (fun z => absurd z.1 (by decide)), pi_n _ _ _ _ (fun z => absurd z.1 (by decide))]
          exact congrFun (pi_f _ _ _ _) i
        have f89 : ∀ i, (tdR s (Int32.ofInt c.toInt) a τ).1 89 i = if i = s then a else τ.1 89 i := fun i => by
          unfold tdR
          rw [pi_n _ _ _ _ (fun z => absurd z.1 (by decide)), congrFun (pi_f _ _ _ _) i, pi_n _ _ _ _ (fun z => absurd z.1 (by decide))]
        have g48 : ∀ i, τ.1 48 i = if i = s then c else σ.1 48 i := fun i => by
          rw [et]
          unfold tdC
          rw [pi_n _ _ _ _ (fun z => absurd z.1 (by decide)), pi_n _ _ _ _ (fun z => absurd z.1 (by decide))]
          exact congrFun (pi_f _ _ _ _) i
        have g49 : ∀ i, τ.1 49 i = if i = s then a else σ.1 49 i := fun i => by
          rw [et]
          unfold tdC
          rw [pi_n _ _ _ _ (fun z => absurd z.1 (by decide)), congrFun (pi_f _ _ _ _) i, pi_n _ _ _ _ (fun z => absurd z.1 (by decide))]
        rw [f88, f89, e48 48 i (by decide) (by decide) (by decide), e48 49 i (by decide) (by decide) (by decide), g48, g49, c0 88 i (by decide), c0 89 i (by decide)]
        by_cases w : i = s
        · rw [if_pos w, if_pos w, if_pos w, if_pos w, ← ii_of]
          exact ⟨rfl, rfl⟩
        · rw [if_neg w, if_neg w, if_neg w, if_neg w]
          exact t4 i (by omega)
theorem pair_tell {σ τ υ : am_S} {c a a' x y : Int32} (_ : okR σ) (_ : MTd c a' σ x τ) (m1 : MTe c c a a' x y υ) (e : a = a') : okR υ ∧ x = y := m1 rfl e
/-- forget -/
def MGd (σ : am_S) (x : Int32) (τ : am_S) : Prop := okS τ ∧ τ = am_pi σ 47 3 (Int32.ofInt 0) ∧ x = σ.1 47 3
theorem useC_forget {σ : am_S} (h : okR σ) : sX11_forgetT [.ref 0] 92 σ (fun v τ => ∃ x : Int32, v = some (.int x) ∧ MGd σ x τ) := by
  have i : sI BB SH [(47, 3, 4)] σ (am_pi σ 47 3 (Int32.ofInt 0)) := sI_fld (ci := 6) ⟨h.1.1, sb_fr_r _ _⟩ rfl ⟨by decide, by decide⟩ ⟨_, List.mem_cons_self, rfl, Nat.le_refl _, by decide⟩
  exact ⟨rfl, rfl, _, rfl, ⟨i.1, JJ_o h.1.2 (fun o i q => pi_n _ _ _ _ (by omega))⟩, rfl, rfl⟩
def MGe (x y : Int32) (υ : am_S) : Prop := okR υ ∧ x = y
theorem useR_forget {σ τ : am_S} {x : Int32} (h : okR σ) (m : MGd σ x τ) : sX12_forgetT [.ref 51] 92 τ (fun v υ => ∃ y : Int32, v = some (.int y) ∧ MGe x y υ) := by
  obtain ⟨k0, et, rfl⟩ := m
  obtain ⟨d, S, nx, un, g⟩ := h.2.2
  obtain ⟨s, t1, t2, t3, _, t5⟩ := g.2.2.2.2.2
  have i : sI BB SH [(51, 58, 59)] τ (am_pi τ 51 58 (Int32.ofInt 0)) := sI_fld (ci := 12) ⟨k0.1, sb_fr_r _ _⟩ rfl ⟨by decide, by decide⟩ ⟨_, List.mem_cons_self, rfl, Nat.le_refl _, by decide⟩
  have all : ∀ o i, ¬ (o = 47 ∧ i = 3) → ¬ (o = 51 ∧ i = 58) → (am_pi τ 51 58 (Int32.ofInt 0)).1 o i = σ.1 o i := fun o i a b => by
    rw [pi_n _ _ _ _ b, et, pi_n _ _ _ _ a]
  refine ⟨rfl, rfl, _, rfl, ⟨⟨i.1, JJ_o k0.2 (fun o i q => pi_n _ _ _ _ (by omega))⟩, RL0_o h.2.1 (fun o i q => ⟨all o i (by omega) (by omega), by rw [et]; rfl⟩), d, S, nx, un, RWd_c2 g (tC_q g.1.1 (fun o i q => all o i (by omega) (by omega))) (tR_fr g.1.2.1 (fun o i q => all o i (by omega) (by omega))) (fun o i q => all o i (by unfold RWr at q; omega) (by unfold RWr at q; omega)) ⟨0, by decide, ?_, ?_, fun i hi => absurd hi (Nat.not_lt_zero _), by rw [all 35 4 (by decide) (by decide)]; exact t5⟩⟩, ?_⟩
  · rw [pi_n _ _ _ _ (by decide), et, pi_s]
    rfl
  · rw [pi_s]
    rfl
  · rw [et, pi_n _ _ _ _ (by decide), t2, t3]
theorem pair_forget {σ τ υ : am_S} {x y : Int32} (_ : okR σ) (_ : MGd σ x τ) (m1 : MGe x y υ) : okR υ ∧ x = y := m1
/-- hold -/
def MHd (z : Int32) (σ : am_S) (x : Int32) (τ : am_S) : Prop := okS τ ∧ ((¬ (0 ≤ z.toInt ∧ z.toInt < 3) ∧ x = Int32.ofInt 0 ∧ τ = σ) ∨ ((0 ≤ z.toInt ∧ z.toInt < 3) ∧ x = Int32.ofInt 1 ∧ τ = hoC z.toInt.toNat σ))
theorem useC_hold {σ : am_S} {z : Int32} (h : okR σ) : sX11_holdT [.ref 0, .int z] 92 σ (fun v τ => ∃ x : Int32, v = some (.int x) ∧ MHd z σ x τ) :=
  ⟨rfl, z.toInt, ⟨ii_lo _, ii_hi _⟩, by rw [← ii_of], fun q => ⟨_, rfl, h.1, Or.inl ⟨q, rfl, rfl⟩⟩, fun q => ⟨_, rfl, ⟨(hoC_sb h.1.1 (by omega)).1, JJ_o h.1.2 (fun o i q => hoC_r (by omega) (by omega))⟩, Or.inr ⟨q, rfl, rfl⟩⟩⟩
def MHe (z z' x y : Int32) (υ : am_S) : Prop := z = z' → okR υ ∧ x = y
theorem useR_hold {σ τ : am_S} {z z' x : Int32} (h : okR σ) (m : MHd z' σ x τ) : sX12_holdT [.ref 51, .int z] 92 τ (fun v υ => ∃ y : Int32, v = some (.int y) ∧ MHe z z' x y υ) := by
  obtain ⟨k0, m⟩ := m
  obtain ⟨d, S, nx, un, g⟩ := h.2.2
  refine ⟨rfl, z.toInt, ⟨ii_lo _, ii_hi _⟩, by rw [← ii_of], fun q => ⟨_, rfl, fun e => ?_⟩, fun q => ⟨_, rfl, fun e => ?_⟩⟩
  · subst e
    rcases m with ⟨_, rfl, rfl⟩ | ⟨p, _⟩
    · exact ⟨h, rfl⟩
    · exact absurd p q
  · subst e
    rcases m with ⟨p, _⟩ | ⟨_, rfl, et⟩
    · exact absurd q p
    · have hs : z.toInt.toNat < 3 := by omega
      have all : ∀ o i, ¬ o = 37 → ¬ (o = 35 ∧ i = 4) → ¬ o = 91 → ¬ o = 90 → (hoR z.toInt.toNat τ).1 o i = σ.1 o i := fun o i a b c e => by
        rw [hoR_r c e, et, hoC_r a b]
      refine ⟨⟨⟨(hoR_sb k0.1 hs).1, JJ_o k0.2 (fun o i q => hoR_r (by omega) (by omega))⟩, RL0_o h.2.1 (fun o i q => ⟨all o i (by omega) (by omega) (by omega) (by omega), by rw [et]; rfl⟩), d, S, nx, un, RW_ho g hs (fun o i q => all o i (by omega) (by omega) (by omega) (by omega)) (fun o i q => all o i (by omega) (by omega) (by omega) (by omega)) (fun o i q => all o i (by omega) (by omega) (by omega) (by omega)) (fun i => ?_) (fun i => ?_) ?_ (fun i => ?_)⟩, rfl⟩
      · rw [hoR_r (by decide) (by decide), et]
        unfold hoC
        rw [pi_n _ _ _ _ (fun z => absurd z.1 (by decide))]
      · unfold hoR
        refine cpX_e (fun i => ?_) (fun i => ?_)
        · rw [pi_n _ _ _ _ (fun z => absurd z.1 (by decide)), et, hoC_r (by decide) (fun z => absurd z.1 (by decide))]
        · rw [pi_n _ _ _ _ (fun z => absurd z.1 (by decide)), et, hoC_r (by decide) (fun z => absurd z.1 (by decide))]
      · rw [hoR_r (by decide) (by decide), et]
        unfold hoC
        rw [pi_s]
      · unfold hoR
        rw [cpX_n (fun w => absurd w.1 (by decide))]
        by_cases w : i = z.toInt.toNat
        · rw [if_pos w, w, pi_s]
        · rw [if_neg w, pi_n _ _ _ _ (fun w2 => w w2.2), et, hoC_r (by decide) (fun z => absurd z.1 (by decide))]
theorem pair_hold {σ τ υ : am_S} {z x y : Int32} (_ : okR σ) (_ : MHd z σ x τ) (m1 : MHe z z x y υ) : okR υ ∧ x = y := m1 rfl
/-- restore -/
def MSr (z : Int32) (σ : am_S) (x : Int32) (τ : am_S) : Prop := okS τ ∧ ((¬ ((0 ≤ z.toInt ∧ z.toInt < 3) ∧ bitAt (σ.1 35 4) z.toInt.toNat = true) ∧ x = Int32.ofInt 0 ∧ τ = σ) ∨ (((0 ≤ z.toInt ∧ z.toInt < 3) ∧ bitAt (σ.1 35 4) z.toInt.toNat = true) ∧ x = Int32.ofInt 1 ∧ τ = reC z.toInt.toNat σ))
theorem useC_restore {σ : am_S} {z : Int32} (h : okR σ) : sX11_restoreT [.ref 0, .int z] 92 σ (fun v τ => ∃ x : Int32, v = some (.int x) ∧ MSr z σ x τ) :=
  ⟨rfl, z.toInt, ⟨ii_lo _, ii_hi _⟩, by rw [← ii_of], fun q => ⟨_, rfl, h.1, Or.inl ⟨q, rfl, rfl⟩⟩, fun q q2 => ⟨_, rfl, ⟨(reC_sb h.1.1 (by omega)).1, JJ_o h.1.2 (fun o i q => reC_r (by omega) (by omega))⟩, Or.inr ⟨⟨q, q2⟩, rfl, rfl⟩⟩⟩
def MSs (z z' x y : Int32) (υ : am_S) : Prop := z = z' → okR υ ∧ x = y
theorem useR_restore {σ τ : am_S} {z z' x : Int32} (h : okR σ) (m : MSr z' σ x τ) : sX12_restoreT [.ref 51, .int z] 92 τ (fun v υ => ∃ y : Int32, v = some (.int y) ∧ MSs z z' x y υ) := by
  obtain ⟨k0, m⟩ := m
  obtain ⟨d, S, nx, un, g⟩ := h.2.2
  have l := g.2.2.2.2.1
  have e90 : ∀ i, τ.1 90 i = σ.1 90 i := by
    rcases m with ⟨_, _, rfl⟩ | ⟨_, _, rfl⟩
    · exact fun _ => rfl
    · exact fun i => reC_r (by decide) (fun z => absurd z.1 (by decide))
  refine ⟨rfl, z.toInt, ⟨ii_lo _, ii_hi _⟩, fun i hi => ?_, by rw [← ii_of], fun q => ⟨_, rfl, fun e => ?_⟩, fun q q2 => ⟨_, rfl, fun e => ?_⟩⟩
  · rw [e90]
    rcases l i hi with w | w
    · exact Or.inl w.1
    · exact Or.inr w.1
  · subst e
    rcases m with ⟨_, rfl, rfl⟩ | ⟨p, _⟩
    · exact ⟨h, rfl⟩
    · exfalso
      rcases l z.toInt.toNat (by omega) with w | w
      · have := p.2
        rw [w.2] at this
        cases this
      · exact q ⟨p.1, (e90 _).trans w.1⟩
  · subst e
    rcases m with ⟨p, _⟩ | ⟨p, rfl, et⟩
    · exfalso
      rcases l z.toInt.toNat (by omega) with w | w
      · rw [e90, w.1] at q2
        exact absurd q2 (by decide)
      · exact p ⟨q, w.2.1⟩
    · have hs : z.toInt.toNat < 3 := by omega
      have all : ∀ o i, ¬ o = 32 → ¬ (o = 35 ∧ i = 3) → ¬ o = 79 → ¬ (o = 51 ∧ i = 49) → (reR z.toInt.toNat τ).1 o i = σ.1 o i := fun o i a b c e => by
        rw [reR_r c e, et, reC_r a b]
      refine ⟨⟨⟨(reR_sb k0.1 hs).1, JJ_o k0.2 (fun o i q => reR_r (by omega) (by omega))⟩, RL0_o h.2.1 (fun o i q => ⟨all o i (by omega) (by omega) (by omega) (by omega), by rw [et]; rfl⟩), d, S, nx, 0, RW_re g hs p.2 (fun o i q => all o i (by omega) (by omega) (by omega) (by omega)) (fun o i q => all o i (by omega) (by omega) (by omega) (by omega)) (fun o i q => all o i (by omega) (by omega) (by omega) (by omega)) (fun i => ?_) (fun i => ?_) ?_ ?_⟩, rfl⟩
      · rw [reR_r (by decide) (fun z => absurd z.1 (by decide)), et]
        unfold reC
        rw [pi_n _ _ _ _ (fun z => absurd z.1 (by decide))]
      · unfold reR
        rw [pi_n _ _ _ _ (fun z => absurd z.1 (by decide))]
        refine cpX_e (fun i => ?_) (fun i => ?_)
        · rw [et, reC_r (by decide) (fun z => absurd z.1 (by decide))]
        · rw [et, reC_r (by decide) (fun z => absurd z.1 (by decide))]
      · rw [reR_r (by decide) (fun z => absurd z.1 (by decide)), et]
        unfold reC
        rw [pi_s]
      · unfold reR
        rw [pi_s]
theorem pair_restore {σ τ υ : am_S} {z x y : Int32} (_ : okR σ) (_ : MSr z σ x τ) (m1 : MSs z z x y υ) : okR υ ∧ x = y := m1 rfl
theorem ini_RLt {τ : am_S} (h : iniRel τ) : RLt τ := by
  have a := ini_RL0 h
  obtain ⟨h1, h2, ⟨τ1, t, h3⟩, h4, n⟩ := h
  exact ⟨a, dr0, 0, 0, 0, RW_ini t h3 n (by rw [h4 18 (by decide) (by decide) (by decide)]; decide +kernel) (by rw [h4 49 (by decide) (by decide) (by decide)]; decide +kernel) (by rw [h4 58 (by decide) (by decide) (by decide)]; decide +kernel)⟩
theorem okR_cfq {σ τ : am_S} (h : okR σ) (f : cfq σ τ) : okR τ := by
  obtain ⟨d, S, nx, un, g⟩ := h.2.2
  exact ⟨⟨f.2 h.1.1, JJ_o h.1.2 (fun o i q => f.1.1 o i (by unfold cfqB; omega))⟩, RL0_o h.2.1 (fun o i q => ⟨f.1.1 o i (by unfold cfqB; omega), by rw [f.1.2]⟩), d, S, nx, un, RWd_q g f⟩
theorem okR_rfq {σ τ : am_S} (h : okR σ) (f : rfq σ τ) : okR τ := by
  obtain ⟨d, S, nx, un, g⟩ := h.2.2
  exact ⟨⟨f.2 h.1.1, JJ_o h.1.2 (fun o i q => f.1.1 o i (by unfold rfqB; omega))⟩, RL0_o h.2.1 (fun o i q => ⟨f.1.1 o i (by unfold rfqB; omega), by rw [f.1.2]⟩), d, S, nx, un, RWd_f g f⟩
/-- ask -/
def MQask (z0 : Int32) (σ : am_S) (x : Int32) (τ : am_S) : Prop := okR τ ∧ τ = σ ∧ ∃ (d : DR) (S nx un s : Nat), RWd σ d S nx un ∧ (s ≤ 20 ∧ σ.1 47 3 = Int32.ofInt (s : Int) ∧ σ.1 51 58 = Int32.ofInt (s : Int) ∧ ∀ i, i < s → σ.1 88 i = σ.1 48 i ∧ σ.1 89 i = σ.1 49 i) ∧ x = asQ d (mR σ 79) (σ.1 88) (σ.1 89) s z0.toInt
theorem useC_ask {σ : am_S} {z0 : Int32} (h : okR σ) : sX11_askM [.ref 0, .int z0] 92 σ (fun v τ => ∃ x : Int32, v = some (.int x) ∧ MQask z0 σ x τ) := by
  obtain ⟨d, S, nx, un, g⟩ := h.2.2
  obtain ⟨s, t1, t2, t3, t4, _⟩ := g.2.2.2.2.2
  refine ⟨rfl, d, s, z0.toInt, g.1.1, g.1.2.2, by rw [g.2.1.1]; exact g.2.1.2, t1, t2, ⟨ii_lo _, ii_hi _⟩, by rw [← ii_of], _, rfl, h, rfl, d, S, nx, un, s, g, ⟨t1, t2, t3, t4⟩, ?_⟩
  rw [g.2.1.1]
  exact asQ_cg g.1.2.2.2.1 (fun i hi => ⟨(t4 i hi).1.symm, (t4 i hi).2.symm⟩)
def MRask (z0 w0 x y : Int32) (υ : am_S) : Prop := z0 = w0 → okR υ ∧ x = y
theorem useR_ask {σ τ : am_S} {z0 w0 x : Int32} (_ : okR σ) (m : MQask w0 σ x τ) : sX12_askM [.ref 51, .int z0] 92 τ (fun v υ => ∃ y : Int32, v = some (.int y) ∧ MRask z0 w0 x y υ) := by
  obtain ⟨k0, rfl, d, S, nx, un, s, g, ⟨t1, t2, t3, t4⟩, rfl⟩ := m
  refine ⟨rfl, d, S, s, z0.toInt, g.1.2.1, g.1.2.2, g.2.1.2, t1, t3, ⟨ii_lo _, ii_hi _⟩, by rw [← ii_of], _, rfl, fun e0 => ?_⟩
  subst e0
  exact ⟨k0, rfl⟩
theorem pair_ask {σ τ υ : am_S} {z0 x y : Int32} (_ : okR σ) (_ : MQask z0 σ x τ) (m1 : MRask z0 z0 x y υ) : okR υ ∧ x = y := m1 rfl
set_option maxRecDepth 100000 in
theorem lw_c0 {p : Program} {l : Launch} {e : Env} {s : State} {m : MethodId} {below : List Frame} {meth : Method} {c : Code} {D : va_G} {aC : Nat → ClassId} {b L : Nat} {xs : Nat → Int32} (C : lw_K p s m c D aC b L xs) {i : Int} (hi : 0 ≤ i ∧ i + 6 ≤ (L : Int) ∧ L ≤ 3072) {σ : am_S} {H : Heap} {locs : List Loc} {lc : Array Slot} (hokR : okR σ) (hP : va_P D vwCl (am_ws SH KF s.heap.size aC 92 σ) H) (hS : va_S (fun q => s.heap.size ≤ q) s.heap H locs) (hl : lv_has lc 4 [(3, .int (Int32.ofInt i)), (2, .ref (s.heap.size + 51)), (1, .ref (s.heap.size + 0)), (0, .ref b)])
    (back : ∀ (τ : am_S) (H : Heap) (locs : List Loc), okR τ → va_P D vwCl (am_ws SH KF s.heap.size aC 92 τ) H → va_S (fun q => s.heap.size ≤ q) s.heap H locs → W p l e room_1 s m #[Value.ref b] below meth c H locs (92 - 0) (am_sz SH KF 92 - am_sz SH KF 0) (lw_Z below #[Value.ref b] s) (F0 m 1371 lc [])) : W p l e room_1 s m #[Value.ref b] below meth c H locs (92 - 0) (am_sz SH KF 92 - am_sz SH KF 0) (lw_Z below #[Value.ref b] s) (F0 m 212 lc []) := by
  have hok : okS σ := hokR.1
  refine lv_aload_n C.1 C.2.1 dL_law_212 rfl (lv_at hl 2 rfl) ?_
  refine lw_arg C hS hl (k := 1) dL_law_213 dL_law_214 dL_law_215 dL_law_216 dL_law_217 rfl hi (by decide) ?_
  refine lw_arg C hS hl (k := 2) dL_law_218 dL_law_219 dL_law_220 dL_law_221 dL_law_222 rfl hi (by decide) ?_
  refine lw_arg C hS hl (k := 3) dL_law_223 dL_law_224 dL_law_225 dL_law_226 dL_law_227 rfl hi (by decide) ?_
  refine lw_arg C hS hl (k := 4) dL_law_228 dL_law_229 dL_law_230 dL_law_231 dL_law_232 rfl hi (by decide) ?_
  refine lw_arg C hS hl (k := 5) dL_law_233 dL_law_234 dL_law_235 dL_law_236 dL_law_237 rfl hi (by decide) ?_
  refine lw_call C (ix := 13) (o := 0) (As := [.int (xs (i.toNat + 1)), .int (xs (i.toNat + 2)), .int (xs (i.toNat + 3)), .int (xs (i.toNat + 4)), .int (xs (i.toNat + 5))]) (rest := []) (ci := 11) (na := 5) (pc := 238) (mX11_feedE l) (by decide) (by decide) (tk_520) (tk_103) ⟨by decide +kernel, by decide +kernel, by decide +kernel⟩ (tk_517) (tk_518) rfl (tk_519) (by decide) rfl (am_ni _ _ (by intro v hv; simp at hv; first | exact ⟨_, hv⟩ | (rcases hv with hv | hv <;> exact ⟨_, hv⟩) | (rcases hv with hv | hv | hv <;> exact ⟨_, hv⟩) | (rcases hv with hv | hv | hv | hv <;> exact ⟨_, hv⟩) | (rcases hv with hv | hv | hv | hv | hv <;> exact ⟨_, hv⟩))) rfl (Nat.le_of_ble_eq_true rfl) dL_law_238 hP hS hl (useC_feed hokR) (fun v τ1 H1 locs1 hv hP1 hS1 => ?_)
  obtain ⟨x0, rfl, hm0⟩ := hv
  refine lv_pop C.1 C.2.1 dL_law_241 rfl ?_
  refine lv_aload_n C.1 C.2.1 dL_law_242 rfl (lv_at hl 1 rfl) ?_
  refine lw_arg C hS1 hl (k := 1) dL_law_243 dL_law_244 dL_law_245 dL_law_246 dL_law_247 rfl hi (by decide) ?_
  refine lw_arg C hS1 hl (k := 2) dL_law_248 dL_law_249 dL_law_250 dL_law_251 dL_law_252 rfl hi (by decide) ?_
  refine lw_arg C hS1 hl (k := 3) dL_law_253 dL_law_254 dL_law_255 dL_law_256 dL_law_257 rfl hi (by decide) ?_
  refine lw_arg C hS1 hl (k := 4) dL_law_258 dL_law_259 dL_law_260 dL_law_261 dL_law_262 rfl hi (by decide) ?_
  refine lw_arg C hS1 hl (k := 5) dL_law_263 dL_law_264 dL_law_265 dL_law_266 dL_law_267 rfl hi (by decide) ?_
  refine lw_call C (ix := 17) (o := 51) (As := [.int (xs (i.toNat + 1)), .int (xs (i.toNat + 2)), .int (xs (i.toNat + 3)), .int (xs (i.toNat + 4)), .int (xs (i.toNat + 5))]) (rest := []) (ci := 12) (na := 5) (pc := 268) (mX12_feedE l) (by decide) (by decide) (tk_1508) (tk_120) ⟨by decide +kernel, by decide +kernel, by decide +kernel⟩ (tk_1505) (tk_1506) rfl (tk_1507) (by decide) rfl (am_ni _ _ (by intro v hv; simp at hv; first | exact ⟨_, hv⟩ | (rcases hv with hv | hv <;> exact ⟨_, hv⟩) | (rcases hv with hv | hv | hv <;> exact ⟨_, hv⟩) | (rcases hv with hv | hv | hv | hv <;> exact ⟨_, hv⟩) | (rcases hv with hv | hv | hv | hv | hv <;> exact ⟨_, hv⟩))) rfl (Nat.le_of_ble_eq_true rfl) dL_law_268 hP1 hS1 hl (useR_feed hokR hm0) (fun v τ11 H11 locs11 hv hP11 hS11 => ?_)
  obtain ⟨x1, rfl, hm1⟩ := hv
  refine lv_pop C.1 C.2.1 dL_law_271 rfl ?_
  refine lv_goto (tgt := 1371) C.1 C.2.1 dL_law_272 rfl ?_
  exact back _ _ _ (pair_feed hokR hm0 hm1).1 hP11 hS11
set_option maxRecDepth 100000 in
theorem lw_c1 {p : Program} {l : Launch} {e : Env} {s : State} {m : MethodId} {below : List Frame} {meth : Method} {c : Code} {D : va_G} {aC : Nat → ClassId} {b L : Nat} {xs : Nat → Int32} (C : lw_K p s m c D aC b L xs) {i : Int} (hi : 0 ≤ i ∧ i + 6 ≤ (L : Int) ∧ L ≤ 3072) {σ : am_S} {H : Heap} {locs : List Loc} {lc : Array Slot} (hokR : okR σ) (hP : va_P D vwCl (am_ws SH KF s.heap.size aC 92 σ) H) (hS : va_S (fun q => s.heap.size ≤ q) s.heap H locs) (hl : lv_has lc 4 [(3, .int (Int32.ofInt i)), (2, .ref (s.heap.size + 51)), (1, .ref (s.heap.size + 0)), (0, .ref b)])
    (back : ∀ (τ : am_S) (H : Heap) (locs : List Loc), okR τ → va_P D vwCl (am_ws SH KF s.heap.size aC 92 τ) H → va_S (fun q => s.heap.size ≤ q) s.heap H locs → W p l e room_1 s m #[Value.ref b] below meth c H locs (92 - 0) (am_sz SH KF 92 - am_sz SH KF 0) (lw_Z below #[Value.ref b] s) (F0 m 1371 lc [])) : W p l e room_1 s m #[Value.ref b] below meth c H locs (92 - 0) (am_sz SH KF 92 - am_sz SH KF 0) (lw_Z below #[Value.ref b] s) (F0 m 275 lc []) := by
  have hok : okS σ := hokR.1
  refine lv_aload_n C.1 C.2.1 dL_law_275 rfl (lv_at hl 2 rfl) ?_
  refine lw_arg C hS hl (k := 1) dL_law_276 dL_law_277 dL_law_278 dL_law_279 dL_law_280 rfl hi (by decide) ?_
  refine lw_call C (ix := 18) (o := 0) (As := [.int (xs (i.toNat + 1))]) (rest := []) (ci := 11) (na := 1) (pc := 281) (mX11_backw l) (by decide) (by decide) (tk_528) (tk_103) ⟨by decide +kernel, by decide +kernel, by decide +kernel⟩ (tk_525) (tk_526) rfl (tk_527) (by decide) rfl (am_ni _ _ (by intro v hv; simp at hv; first | exact ⟨_, hv⟩ | (rcases hv with hv | hv <;> exact ⟨_, hv⟩) | (rcases hv with hv | hv | hv <;> exact ⟨_, hv⟩) | (rcases hv with hv | hv | hv | hv <;> exact ⟨_, hv⟩) | (rcases hv with hv | hv | hv | hv | hv <;> exact ⟨_, hv⟩))) rfl (Nat.le_of_ble_eq_true rfl) dL_law_281 hP hS hl (useC_back hokR) (fun v τ1 H1 locs1 hv hP1 hS1 => ?_)
  obtain ⟨x0, rfl, hm0⟩ := hv
  refine lv_pop C.1 C.2.1 dL_law_284 rfl ?_
  refine lv_aload_n C.1 C.2.1 dL_law_285 rfl (lv_at hl 1 rfl) ?_
  refine lw_arg C hS1 hl (k := 1) dL_law_286 dL_law_287 dL_law_288 dL_law_289 dL_law_290 rfl hi (by decide) ?_
  refine lw_call C (ix := 22) (o := 51) (As := [.int (xs (i.toNat + 1))]) (rest := []) (ci := 12) (na := 1) (pc := 291) (mX12_backw l) (by decide) (by decide) (tk_1516) (tk_120) ⟨by decide +kernel, by decide +kernel, by decide +kernel⟩ (tk_1513) (tk_1514) rfl (tk_1515) (by decide) rfl (am_ni _ _ (by intro v hv; simp at hv; first | exact ⟨_, hv⟩ | (rcases hv with hv | hv <;> exact ⟨_, hv⟩) | (rcases hv with hv | hv | hv <;> exact ⟨_, hv⟩) | (rcases hv with hv | hv | hv | hv <;> exact ⟨_, hv⟩) | (rcases hv with hv | hv | hv | hv | hv <;> exact ⟨_, hv⟩))) rfl (Nat.le_of_ble_eq_true rfl) dL_law_291 hP1 hS1 hl (useR_back hokR hm0) (fun v τ11 H11 locs11 hv hP11 hS11 => ?_)
  obtain ⟨x1, rfl, hm1⟩ := hv
  refine lv_pop C.1 C.2.1 dL_law_294 rfl ?_
  refine lv_goto (tgt := 1371) C.1 C.2.1 dL_law_295 rfl ?_
  exact back _ _ _ (pair_back hokR hm0 hm1).1 hP11 hS11
