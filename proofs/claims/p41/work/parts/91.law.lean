/-! THE LAW: what each of its rows asks, over the contracts of the class and of the reference. Printed by wip/am/gen90.py. -/
def lw_K (p : Program) (s : State) (m : MethodId) (c : Code) (D : va_G) (aC : Nat → ClassId) (b L : Nat) (xs : Nat → Int32) : Prop := p.tables.exec = Jvm.exec ∧ c.code = code ∧ c.maxLocals = 4 ∧ s.vm.findClass R_law = some m.cls ∧ (∀ w ∈ TB, w.before #[Value.ref b] s = true) ∧ va_X b L xs s s.heap ∧ b < s.heap.size ∧ va_K D vwCl (am_tys aC) s ∧ am_Nw NB s.heap.size s
/-- the k-th int behind i of the script is pushed -/
theorem lw_arg {p : Program} {l : Launch} {e : Env} {s : State} {m : MethodId} {below : List Frame} {meth : Method} {c : Code} {D : va_G} {aC : Nat → ClassId} {b L : Nat} {xs : Nat → Int32} (C : lw_K p s m c D aC b L xs) {H : Heap} {locs : List Loc} {cells slots : Nat} {Q : State → Prop} {lc : Array Slot} {i : Int} {rest : List Value} (hS : va_S (fun q => s.heap.size ≤ q) s.heap H locs) (hl : lv_has lc 4 [(3, .int (Int32.ofInt i)), (2, .ref (s.heap.size + 51)), (1, .ref (s.heap.size + 0)), (0, .ref b)]) {pc k : Nat} {kz : Int} (d0 : decode code pc = .ok (.aload_n 0, 1)) (d1 : decode code (pc + 1) = .ok (.iload_n 3, 1)) (d2 : decode code (pc + 2) = .ok (.iconst kz, 1)) (d3 : decode code (pc + 3) = .ok (.iadd, 1)) (d4 : decode code (pc + 4) = .ok (.iaload, 1)) (hkz : kz = (k : Int)) (hi : 0 ≤ i ∧ i + 6 ≤ (L : Int) ∧ L ≤ 3072) (hk : k < 6)
    (kk : W p l e room_1 s m #[Value.ref b] below meth c H locs cells slots Q (F0 m (pc + 5) lc (.int (xs (i.toNat + k)) :: rest))) : W p l e room_1 s m #[Value.ref b] below meth c H locs cells slots Q (F0 m pc lc rest) := by
  obtain ⟨hx, hb, hml, hown, hts, hX, hbl, hK, hN⟩ := C
  have hbA : ¬ (fun q : Nat => s.heap.size ≤ q) b := Nat.not_le.mpr hbl
  subst hkz
  have q0 : Int32.ofInt i + Int32.ofInt (k : Int) = Int32.ofInt (i + (k : Int)) := ii_add _ _
  have q1 : (Int32.ofInt i + Int32.ofInt (k : Int)).toNatClampNeg = i.toNat + k := by
    rw [q0, ii_c (by omega) (by omega)]
    omega
  have q2 : ¬ (Int32.ofInt i + Int32.ofInt (k : Int) < 0) := by
    rw [q0, ii_0, ii_lt (by omega) (by omega) (by omega) (by omega)]
    omega
  refine lv_aload_n hx hb d0 rfl (lv_at hl 3 rfl) ?_
  refine lv_iload_n hx hb d1 rfl (lv_at hl 0 rfl) ?_
  refine lv_iconst hx hb d2 rfl ?_
  refine lv_iadd hx hb d3 ?_
  refine va_sld hx hb hX hbl hbA hS (fun z => z.elim q2 (fun z2 => by rw [q1] at z2; omega)) d4 ?_
  rw [q1]
  exact kk
/-- a method of one of the two objects is called -/
theorem lw_call {p : Program} {l : Launch} {e : Env} {s : State} {m : MethodId} {below : List Frame} {meth : Method} {c : Code} {D : va_G} {aC : Nat → ClassId} {b L : Nat} {xs : Nat → Int32} (C : lw_K p s m c D aC b L xs) {y : MethodName} {cc : ByteArray} {maxL d na ix ci o pc : Nat} {rt : Option FieldType} {sp : am_Sp} {r : vw_C} {As rest : List Value} {lc : Array Slot} {i : Int} {σ : am_S} {H : Heap} {locs : List Loc} {post : Option Value → am_S → Prop} (hM : am_M l TB NB vwCl SH KF y cc maxL rt d 0 0 sp) (hd : d + 1 ≤ 1200) (hmx : maxL ≤ 40) (hcode : Cond.code y cc maxL rt ∈ TB) (hini : Cond.initialized y.cls ∈ TB) (hd3 : y.cls ≠ "java/lang/invoke/MethodHandle" ∧ y.cls ≠ "java/lang/invoke/VarHandle" ∧ (parseMethodDescriptor y.desc).map (fun d => d.parameters.length) = some na) (hlink : Cond.methodLink R_law ix y ∈ TB) (hinst : Cond.instanceMethod y ∈ TB) (hr : vwCl[ci]? = some r) (hsel : Cond.selects r.1 y y ∈ TB) (ho : o < 92) (hso : SH o = .inl ci) (hAs : As.map (am_c s.heap.size) = As) (hna : As.length = na) (hcat : (rest.map fun v => v.category).sum ≤ 8) (hdg : decode code pc = .ok (.invokevirtual ix, 3))
    (hP : va_P D vwCl (am_ws SH KF s.heap.size aC 92 σ) H) (hS : va_S (fun q => s.heap.size ≤ q) s.heap H locs) (hl : lv_has lc 4 [(3, .int (Int32.ofInt i)), (2, .ref (s.heap.size + 51)), (1, .ref (s.heap.size + 0)), (0, .ref b)]) (hsp : sp (.ref o :: As) 92 σ post)
    (kk : ∀ (v : Option Value) (τ : am_S) (H1 : Heap) (locs1 : List Loc), post v τ → va_P D vwCl (am_ws SH KF s.heap.size aC 92 τ) H1 → va_S (fun q => s.heap.size ≤ q) s.heap H1 locs1 → W p l e room_1 s m #[Value.ref b] below meth c H1 locs1 (92 - 0) (am_sz SH KF 92 - am_sz SH KF 0) (lw_Z below #[Value.ref b] s) (F0 m (pc + 3) lc ((v.map (am_c s.heap.size)).toList ++ rest))) : W p l e room_1 s m #[Value.ref b] below meth c H locs (92 - 0) (am_sz SH KF 92 - am_sz SH KF 0) (lw_Z below #[Value.ref b] s) (F0 m pc lc (As.reverse ++ .ref (s.heap.size + o) :: rest)) := by
  obtain ⟨hx, hb, hml, hown, hts, hX, hbl, hK, hN⟩ := C
  refine am_size (n0 := 0) hP hS rfl (Nat.zero_le _) rfl fun hzH => ?_
  have hMet := hM D aC s.heap.size 92 _ σ _ hsp rfl
  have fx : CallFix p m c code 4 s #[Value.ref b] TB R_law := ⟨hx, hb, hml, hown, hts⟩
  have hm2 : (Value.ref o :: As).map (am_c s.heap.size) = .ref (s.heap.size + o) :: As := by
    show Value.ref (s.heap.size + o) :: As.map (am_c s.heap.size) = _
    rw [hAs]
  have pre := am_pre (as := .ref o :: As) hzH hP hK hN hS
  rw [hm2] at pre
  have blind := am_blind (cl := vwCl) (NB := NB) (D := D) (aC := aC) (b := s.heap.size) (SH := SH) (KF := KF) (n := 92) (as := .ref o :: As) (σ := σ)
  have room : 92 - 0 + 0 ≤ room_1.cells ∧ am_sz SH KF 92 - am_sz SH KF 0 + 0 ≤ room_1.slots := by decide +kernel
  exact am_call (va_runV (As := As) (rest := rest) (C := r.1) (n := na) fx hMet ⟨⟨rfl, rfl, by show d + 1 ≤ 2048; omega, by show 8 + (maxL + 11) + 64 * d ≤ 84000; omega, am_words hts hcode, am_code_in, hts _ hcode, hts _ hini, ⟨hd3.1, hd3.2.1⟩, am_sig hd3.2.2, hts _ hlink⟩, hts _ hinst, hts _ hsel⟩
    ⟨blind, va_recv hK hP hr (am_ws_obj ho hso), pre⟩ rfl hna hl.1 rfl (lv_room hcat) hdg room) hS kk
theorem am_ni (a : Nat) : ∀ l : List Value, (∀ v ∈ l, ∃ x, v = .int x) → l.map (am_c a) = l := by
  intro l h
  induction l with
  | nil => rfl
  | cons v t ih =>
    obtain ⟨x, rfl⟩ := h v List.mem_cons_self
    rw [List.map_cons, ih (fun w hw => h w (List.mem_cons_of_mem _ hw))]
    rfl
/-- memory in its bounds, the reference's laws fit to be reckoned -/
def okS (σ : am_S) : Prop := sb_ok BB SH σ ∧ JJ σ
theorem sp_f (x : Int32) : sp_in (.inl (-2147483648, 2147483647)) (.int x) := ⟨x, rfl, ii_lo x, by have := ii_hi x; show x.toInt ≤ 2147483647; omega⟩
/-- a public method by its word -/
theorem lw_use {sm : List sa_A} {a : sa_A} {t : List sa_A} {As : List Value} {σ : am_S} (hs : sm = a :: t) (hi : a.2.1.all (fun r => match r.1 with
  | some (.inl _) => true
  | _ => false) = true) (hp : sp_all a.1 As) (h : okS σ) : sp_w JJ BB SH 92 sm As 92 σ (fun v τ => (∃ x : Int32, v = some (.int x) ∧ sp_ret a.2.1 As (some (.int x))) ∧ okS τ ∧ sb_fr a.2.2 σ τ) := by
  subst hs
  refine ⟨rfl, h.1, h.2, a, List.mem_cons_self, hp, fun v τ h1 h2 h3 h4 => ⟨?_, ⟨h1, h2⟩, h3⟩⟩
  obtain ⟨r, r1, r2, r3⟩ := h4
  have q := List.all_eq_true.mp hi r r1
  cases hr : r.1 with
  | none => rw [hr] at q; cases q
  | some p =>
    rw [hr] at q r2
    cases v with
    | none => exact r2.elim
    | some w =>
      cases p with
      | inr _ => cases q
      | inl b =>
        obtain ⟨x, hx, hb⟩ := r2
        subst hx
        exact ⟨x, rfl, r, r1, by rw [hr]; exact ⟨x, rfl, hb⟩, r3⟩
/-- the reference's read -/
theorem lw_useR {σ : am_S} (h : okS σ) : sX12_read [.ref 51] 92 σ (fun v τ => (∃ x : Int32, v = some (.int x) ∧ True) ∧ okS τ ∧ (∀ o i, o < 51 → τ.1 o i = σ.1 o i ∧ τ.2 o i = σ.2 o i) ∧ τ.1 51 2 = 0) := ⟨rfl, h.1, h.2, rfl, fun x τ h1 h2 h3 h4 => ⟨⟨x, rfl, trivial⟩, ⟨h1, h2⟩, h3, h4⟩⟩
/-! the relation that the law keeps. Printed by wip/am/rel.py. -/
/-- the tapes are alike, the words as they are told, the place the same -/
def RL0 (σ : am_S) : Prop := (σ.1 0 1 = σ.1 51 2 ∧ ∀ i : Nat, i < 2000 → (i : Int) < (σ.1 51 2).toInt → σ.1 1 i = σ.1 52 i) ∧ KR σ ∧ KC σ ∧ σ.1 0 2 = σ.1 51 17
def okR0 (σ : am_S) : Prop := okS σ ∧ RL0 σ
def RL0s : List (Nat × Nat × Nat) := [(0, 1, 2), (51, 2, 3), (1, 0, 2000), (52, 0, 2000), (58, 0, 19), (15, 0, 19), (0, 2, 3), (51, 17, 18)]
def lw0_fr (M : sa_M) : Bool := M.all (fun m => RL0s.all (fun s => !(decide (m.1 = s.1 ∧ m.2.1 < s.2.2 ∧ s.2.1 < m.2.2))))
theorem RL0s_fr {M : sa_M} {σ τ : am_S} (h : sb_fr M σ τ) (e : lw0_fr M = true) : ∀ s ∈ RL0s, ∀ k, s.2.1 ≤ k → k < s.2.2 → τ.1 s.1 k = σ.1 s.1 k ∧ τ.2 s.1 k = σ.2 s.1 k := fun s hs k h1 h2 => h s.1 k (fun m hm hh => by
  have q := List.all_eq_true.mp (List.all_eq_true.mp e m hm) s hs
  simp only [Bool.not_eq_true', decide_eq_false_iff_not] at q
  exact q ⟨hh.1, by omega, by omega⟩)
theorem RL0_cg {σ τ : am_S} (h : ∀ s ∈ RL0s, ∀ k, s.2.1 ≤ k → k < s.2.2 → τ.1 s.1 k = σ.1 s.1 k ∧ τ.2 s.1 k = σ.2 s.1 k) (g : RL0 σ) : RL0 τ := by
  have e1 := (h (0, 1, 2) (by decide) 1 (by decide) (by decide)).1
  have e2 := (h (51, 2, 3) (by decide) 2 (by decide) (by decide)).1
  have e3 : ∀ k, k < 2000 → τ.1 1 k = σ.1 1 k := fun k hk => (h (1, 0, 2000) (by decide) k (Nat.zero_le _) hk).1
  have e4 : ∀ k, k < 2000 → τ.1 52 k = σ.1 52 k := fun k hk => (h (52, 0, 2000) (by decide) k (Nat.zero_le _) hk).1
  have e5 : ∀ k, k < 19 → τ.2 58 k = σ.2 58 k := fun k hk => (h (58, 0, 19) (by decide) k (Nat.zero_le _) hk).2
  have e6 : ∀ k, k < 19 → τ.2 15 k = σ.2 15 k := fun k hk => (h (15, 0, 19) (by decide) k (Nat.zero_le _) hk).2
  have e7 := (h (0, 2, 3) (by decide) 2 (by decide) (by decide)).1
  have e8 := (h (51, 17, 18) (by decide) 17 (by decide) (by decide)).1
  simp only at e1 e2 e3 e4 e5 e6 e7 e8
  refine ⟨⟨by rw [e1, e2]; exact g.1.1, fun i hi h2 => ?_⟩, fun k hk => (e5 k hk).trans (g.2.1 k hk), ⟨fun k hk => (e6 k hk).trans (g.2.2.1 k hk), by rw [e7, e8]; exact g.2.2.2⟩⟩
  rw [e2] at h2
  rw [e3 i hi, e4 i hi]
  exact g.1.2 i hi h2
theorem RL0_fr {M0 M1 : sa_M} {σ τ υ : am_S} (g : RL0 σ) (f0 : sb_fr M0 σ τ) (f1 : sb_fr M1 τ υ) (e0 : lw0_fr M0 = true) (e1 : lw0_fr M1 = true) : RL0 υ := RL0_cg (RL0s_fr f1 e1) (RL0_cg (RL0s_fr f0 e0) g)
theorem RL0_C {σ : am_S} (g : RL0 σ) : KC σ := g.2.2.1
theorem tpd_b {σ : am_S} (h : okS σ) : 0 ≤ (σ.1 51 2).toInt ∧ (σ.1 51 2).toInt ≤ 2000 := h.1.2 51 12 2 rfl
theorem tpd_c {σ : am_S} (h : okR0 σ) : 0 ≤ (σ.1 0 1).toInt ∧ (σ.1 0 1).toInt ≤ 2000 := by
  rw [h.2.1.1]
  exact tpd_b h.1
/-- feed -/
def MF (o ct tp : Nat) (M : sa_M) (a b c d e : Int32) (σ : am_S) (x : Int32) (τ : am_S) : Prop := okS τ ∧ ((1980 < (σ.1 o ct).toInt ∧ x = Int32.ofInt (-1) ∧ τ = σ) ∨ ((σ.1 o ct).toInt ≤ 1980 ∧ x = Int32.ofInt ((σ.1 o ct).toInt + 20) ∧ sb_fr M σ τ ∧ fyR o ct tp (σ.1 o ct).toInt (fdB a b c d e) 20 σ τ))
theorem J_fc {σ τ : am_S} (h : JJ σ) (g : sb_fr fcM σ τ) : JJ τ := JJ_fr (sm := [([], [], fcM)]) (by decide +kernel) _ (List.mem_singleton.mpr rfl) σ τ h g
theorem J_fr {σ τ : am_S} (h : JJ σ) (g : sb_fr frM σ τ) : JJ τ := JJ_fr (sm := [([], [], frM)]) (by decide +kernel) _ (List.mem_singleton.mpr rfl) σ τ h g
theorem useC0_feed {σ : am_S} {a b c d e : Int32} (h : okR0 σ) : sX11_feedE [.ref 0, .int a, .int b, .int c, .int d, .int e] 92 σ (fun v τ => ∃ x : Int32, v = some (.int x) ∧ MF 0 1 1 fcM a b c d e σ x τ) :=
  ⟨rfl, h.1.1, (σ.1 0 1).toInt, a, b, c, d, e, tpd_c h, ii_of _, rfl, fun q => ⟨_, rfl, h.1, Or.inl ⟨q, rfl, rfl⟩⟩, fun q τ i f => ⟨_, rfl, ⟨i.1, J_fc h.1.2 i.2⟩, Or.inr ⟨q, rfl, i.2, f⟩⟩⟩
theorem MF_T {σ τ : am_S} {a b c d e x : Int32} (m : MF 0 1 1 fcM a b c d e σ x τ) : τ.1 51 2 = σ.1 51 2 := by
  rcases m.2 with ⟨_, _, rfl⟩ | ⟨_, _, f, _⟩
  · rfl
  · exact (f 51 2 (by decide)).1
theorem useR0_feed {σ τ : am_S} {a b c d e a' b' c' d' e' x : Int32} (h : okR0 σ) (m : MF 0 1 1 fcM a' b' c' d' e' σ x τ) : sX12_feedE [.ref 51, .int a, .int b, .int c, .int d, .int e] 92 τ (fun v υ => ∃ y : Int32, v = some (.int y) ∧ MF 51 2 52 frM a b c d e τ y υ) :=
  ⟨rfl, m.1.1, (τ.1 51 2).toInt, a, b, c, d, e, tpd_b m.1, ii_of _, rfl, fun q => ⟨_, rfl, m.1, Or.inl ⟨q, rfl, rfl⟩⟩, fun q υ i f => ⟨_, rfl, ⟨i.1, J_fr m.1.2 i.2⟩, Or.inr ⟨q, rfl, i.2, f⟩⟩⟩
theorem pair0_feed {σ τ υ : am_S} {a b c d e x y : Int32} (h : okR0 σ) (m0 : MF 0 1 1 fcM a b c d e σ x τ) (m1 : MF 51 2 52 frM a b c d e τ y υ) : okR0 υ ∧ x = y := by
  have eT := MF_T m0
  have eq : (σ.1 0 1).toInt = (τ.1 51 2).toInt := by rw [eT, h.2.1.1]
  have tb := tpd_b m0.1
  obtain ⟨k0, m0⟩ := m0
  obtain ⟨k1, m1⟩ := m1
  rcases m0 with ⟨q, rfl, rfl⟩ | ⟨q, rfl, f, y0⟩ <;> rcases m1 with ⟨q', rfl, rfl⟩ | ⟨q', rfl, f', y1⟩
  · exact ⟨⟨k1, h.2⟩, rfl⟩
  · omega
  · omega
  · rw [eq] at y0 ⊢
    refine ⟨⟨k1, ?_⟩, rfl⟩
    obtain ⟨T, eTT⟩ : ∃ T, T = (τ.1 51 2).toInt := ⟨_, rfl⟩
    rw [← eTT] at y0 y1 tb q'
    obtain ⟨a1, a2, a3⟩ := y0
    obtain ⟨b1, b2, b3⟩ := y1
    have c1 : υ.1 0 1 = Int32.ofInt (T + 20) := by rw [(f' 0 1 (by decide)).1]; exact a2
    have c2 : υ.1 51 2 = Int32.ofInt (T + 20) := b2
    refine ⟨⟨c1.trans c2.symm, fun i hi hl => ?_⟩, fun k hk => ?_, ⟨fun k hk => ?_, ?_⟩⟩
    · rw [c2, ii_t (by omega) (by omega)] at hl
      have e1 : υ.1 1 i = τ.1 1 i := (f' 1 i (fun m hm hh => (by decide : ∀ m ∈ frM, m.1 ≠ 1) m hm hh.1)).1
      have e2 : τ.1 52 i = σ.1 52 i := (f 52 i (fun m hm hh => (by decide : ∀ m ∈ fcM, m.1 ≠ 52) m hm hh.1)).1
      by_cases z : (i : Int) < T
      · rw [e1, a1 1 i (fun w => absurd w.1 (by decide)) (fun w => by omega), b1 52 i (fun w => absurd w.1 (by decide)) (fun w => by omega), e2]
        exact h.2.1.2 i hi (by rw [← h.2.1.1, eq, ← eTT]; exact z)
      · have u0 := a3 (i - T.toNat) (by omega)
        have u1 := b3 (i - T.toNat) (by omega)
        rw [show T.toNat + (i - T.toNat) = i by omega] at u0 u1
        rw [e1, u0, u1]
    · exact ((f' 58 k (fun m hm hh => (by decide : ∀ m ∈ frM, m.1 ≠ 58) m hm hh.1)).2.trans (f 58 k (fun m hm hh => (by decide : ∀ m ∈ fcM, m.1 ≠ 58) m hm hh.1)).2).trans (h.2.2.1 k hk)
    · exact ((f' 15 k (fun m hm hh => (by decide : ∀ m ∈ frM, m.1 ≠ 15) m hm hh.1)).2.trans (f 15 k (fun m hm hh => (by decide : ∀ m ∈ fcM, m.1 ≠ 15) m hm hh.1)).2).trans (RL0_C h.2 k hk)
    · rw [(f' 0 2 (by decide)).1, (f 0 2 (by decide)).1, (f' 51 17 (by decide)).1, (f 51 17 (by decide)).1]
      exact h.2.2.2.2
/-- back -/
def MB (o ct : Nat) (z : Int32) (σ : am_S) (x : Int32) (τ : am_S) : Prop := okS τ ∧ ((0 ≤ z.toInt ∧ z.toInt ≤ (σ.1 o ct).toInt ∧ x = Int32.ofInt ((σ.1 o ct).toInt - z.toInt) ∧ τ = am_pi σ o ct (Int32.ofInt ((σ.1 o ct).toInt - z.toInt))) ∨ (¬ (0 ≤ z.toInt ∧ z.toInt ≤ (σ.1 o ct).toInt) ∧ x = Int32.ofInt (-1) ∧ τ = σ))
theorem okS_pi {σ : am_S} {o ct ci : Nat} {v : Int} (h : okS σ) (ho : SH o = .inl ci) (hv : -2147483648 ≤ v ∧ v < 2147483648) (hb : (BB.2 o ct).1 ≤ v ∧ v ≤ (BB.2 o ct).2) (hf : Jfree [([], [], [(o, ct, ct + 1)])] = true) : okS (am_pi σ o ct (Int32.ofInt v)) := by
  have i1 : sI BB SH [(o, ct, ct + 1)] σ (am_pi σ o ct (Int32.ofInt v)) := sI_fld (ci := ci) ⟨h.1, sb_fr_r _ _⟩ ho (by rw [ii_t hv.1 hv.2]; exact hb) ⟨_, List.mem_cons_self, rfl, Nat.le_refl _, Nat.lt_succ_self _⟩
  exact ⟨i1.1, JJ_fr hf _ (List.mem_singleton.mpr rfl) σ _ h.2 i1.2⟩
theorem useC0_back {σ : am_S} {z : Int32} (h : okR0 σ) : yX11_backw [.ref 0, .int z] 92 σ (fun v τ => ∃ x : Int32, v = some (.int x) ∧ MB 0 1 z σ x τ) := by
  have tb := tpd_c h
  have z1 := ii_lo z
  have z2 := ii_hi z
  refine ⟨z.toInt, (σ.1 0 1).toInt, ⟨z1, z2⟩, tb, rfl, by rw [← ii_of], ii_of _, fun q1 q2 => ⟨_, rfl, ?_, Or.inl ⟨q1, q2, rfl, rfl⟩⟩, fun q => ⟨_, rfl, h.1, Or.inr ⟨q, rfl, rfl⟩⟩⟩
  exact okS_pi (ci := 11) h.1 rfl (by omega) ⟨by show (-2147483648 : Int) ≤ _; omega, by show _ ≤ (2147483647 : Int); omega⟩ (by decide +kernel)
theorem MB_T {σ τ : am_S} {z x : Int32} (m : MB 0 1 z σ x τ) : τ.1 51 2 = σ.1 51 2 := by
  rcases m.2 with ⟨_, _, _, rfl⟩ | ⟨_, _, rfl⟩
  · exact pi_n _ _ _ _ (by decide)
  · rfl
theorem useR0_back {σ τ : am_S} {z z' x : Int32} (h : okR0 σ) (m : MB 0 1 z' σ x τ) : yX12_backw [.ref 51, .int z] 92 τ (fun v υ => ∃ y : Int32, v = some (.int y) ∧ MB 51 2 z τ y υ) := by
  have tb := tpd_b m.1
  have z1 := ii_lo z
  have z2 := ii_hi z
  refine ⟨z.toInt, (τ.1 51 2).toInt, ⟨z1, z2⟩, tb, rfl, by rw [← ii_of], ii_of _, fun q1 q2 => ⟨_, rfl, ?_, Or.inl ⟨q1, q2, rfl, rfl⟩⟩, fun q => ⟨_, rfl, m.1, Or.inr ⟨q, rfl, rfl⟩⟩⟩
  exact okS_pi (ci := 12) m.1 rfl (by omega) ⟨by show (0 : Int) ≤ _; omega, by show _ ≤ (2000 : Int); omega⟩ (by decide +kernel)
theorem pair0_back {σ τ υ : am_S} {z x y : Int32} (h : okR0 σ) (m0 : MB 0 1 z σ x τ) (m1 : MB 51 2 z τ y υ) : okR0 υ ∧ x = y := by
  have eT := MB_T m0
  have eq : (σ.1 0 1).toInt = (τ.1 51 2).toInt := by rw [eT, h.2.1.1]
  have tb := tpd_b m0.1
  obtain ⟨k0, m0⟩ := m0
  obtain ⟨k1, m1⟩ := m1
  rcases m0 with ⟨q1, q2, rfl, rfl⟩ | ⟨q, rfl, rfl⟩ <;> rcases m1 with ⟨p1, p2, rfl, rfl⟩ | ⟨p, rfl, rfl⟩
  · rw [eT] at p2 k1 tb eq ⊢
    refine ⟨⟨k1, ?_⟩, by rw [eq]⟩
    have c1 : ∀ o i, ¬ (o = 0 ∧ i = 1) → ¬ (o = 51 ∧ i = 2) → (am_pi (am_pi σ 0 1 (Int32.ofInt ((σ.1 0 1).toInt - z.toInt))) 51 2 (Int32.ofInt ((σ.1 51 2).toInt - z.toInt))).1 o i = σ.1 o i := fun o i a b => by rw [pi_n _ _ _ _ b, pi_n _ _ _ _ a]
    refine ⟨⟨?_, fun i hi hl => ?_⟩, h.2.2.1, ⟨fun k hk => RL0_C h.2 k hk, ?_⟩⟩
    · rw [pi_n _ _ _ _ (by decide), pi_s, pi_s, h.2.1.1]
    · rw [pi_s, ii_t (by omega) (by omega)] at hl
      rw [c1 _ _ (fun w => absurd w.1 (by decide)) (fun w => absurd w.1 (by decide)), c1 _ _ (fun w => absurd w.1 (by decide)) (fun w => absurd w.1 (by decide))]
      exact h.2.1.2 i hi (by omega)
    · rw [c1 _ _ (by decide) (by decide), c1 _ _ (by decide) (by decide)]
      exact h.2.2.2.2
  · exact absurd ⟨q1, by rw [← eq]; exact q2⟩ p
  · exact absurd ⟨p1, by rw [eq]; exact p2⟩ q
  · exact ⟨⟨k1, h.2⟩, rfl⟩
/-- read -/
def rcA : sa_M := rcN ++ bfM
/-- what a read without a fault leaves in the class -/
def rcX (d : DR) (τ : am_S) : Prop := (τ.1 20 0 = Int32.ofInt d.1 ∧ (1 ≤ d.1 ∧ d.1 ≤ 12)) ∧ τ.1 47 3 = Int32.ofInt 0 ∧ τ.1 35 4 = Int32.ofInt 0
theorem rcX_of {d : DR} {σ : am_S} (h : cD σ d) : rcX d (rcF σ) := by
  refine ⟨⟨?_, h.1.2⟩, ?_, ?_⟩
  · refine Eq.trans ?_ h.1.1
    unfold rcF
    rw [pi_n _ _ _ _ (fun z => absurd z.1 (by decide)), pi_n _ _ _ _ (fun z => absurd z.1 (by decide)), pi_n _ _ _ _ (fun z => absurd z.1 (by decide))]
    have e : (bgK 5 (beT σ)).1 20 0 = (beT σ).1 20 0 := rfl
    rw [e]
    rfl
  · unfold rcF
    rw [pi_s]
  · unfold rcF
    rw [pi_n _ _ _ _ (fun z => absurd z.1 (by decide)), pi_s]
def MRc (σ : am_S) (x : Int32) (τ : am_S) : Prop := okS τ ∧ sb_fr rcA σ τ ∧ τ.1 0 1 = Int32.ofInt 0 ∧ τ.1 0 2 = Int32.ofInt (spR (bC σ) (σ.1 0 1).toInt.toNat).2.1 ∧ x = Int32.ofInt (spR (bC σ) (σ.1 0 1).toInt.toNat).1 ∧ ((spR (bC σ) (σ.1 0 1).toInt.toNat).1 ≠ 0 → sb_fr rcN σ τ) ∧ ((spR (bC σ) (σ.1 0 1).toInt.toNat).1 = 0 → rcX (spR (bC σ) (σ.1 0 1).toInt.toNat).2.2 τ)
def MRr (b : Nat → Int) (Z : Nat) (τ : am_S) (y : Int32) (υ : am_S) : Prop := okS υ ∧ cI' τ υ ∧ kT τ υ ∧ rdX b Z τ υ ∧ y = Int32.ofInt (spR b Z).1
theorem rcA_J {σ τ : am_S} (h : JJ σ) (g : sb_fr rcA σ τ) : JJ τ := JJ_fr (sm := [([], [], rcA)]) (by decide +kernel) _ (List.mem_singleton.mpr rfl) σ τ h g
theorem useC0_read {σ : am_S} (h : okR0 σ) : sX11_readT [.ref 0] 92 σ (fun v τ => ∃ x : Int32, v = some (.int x) ∧ MRc σ x τ) := by
  have tb := tpd_c h
  refine ⟨rfl, h.1.1, h.1.2, RL0_C h.2, (σ.1 0 1).toInt.toNat, by omega, ?_, rfl, fun τ g1 g2 g3 => ⟨fun z => ?_, fun z hc => ?_⟩⟩
  · rw [show (((σ.1 0 1).toInt.toNat : Nat) : Int) = (σ.1 0 1).toInt by omega]
    exact ii_of _
  · have f : sb_fr rcA σ τ := (sI_m g1 (by decide)).2
    exact ⟨_, rfl, ⟨g1.1, rcA_J h.1.2 f⟩, f, g2, g3, rfl, fun _ => g1.2, fun w => absurd w z⟩
  · have g := rcF_I g1.1
    have f : sb_fr rcA σ (rcF τ) := sb_fr_t (sI_m g1 (by decide)).2 (sI_m g (by decide)).2
    have z : (spR (bC σ) (σ.1 0 1).toInt.toNat).1 = 0 := z
    exact ⟨_, rfl, ⟨g.1, rcA_J h.1.2 f⟩, f, (g.2 0 1 (by decide)).1.trans g2, (g.2 0 2 (by decide)).1.trans g3, by rw [z], fun w => absurd z w, fun _ => rcX_of hc⟩
theorem useR0_read {σ τ : am_S} {x : Int32} (h : okR0 σ) (m : MRc σ x τ) : sX12_readE [.ref 51] 92 τ (fun v υ => ∃ y : Int32, v = some (.int y) ∧ MRr (bC σ) (σ.1 0 1).toInt.toNat τ y υ) := by
  have tb := tpd_c h
  have eT : τ.1 51 2 = σ.1 51 2 := (m.2.1 51 2 (by decide)).1
  refine ⟨rfl, m.1.1, m.1.2, fun k hk => ?_, rfl, bC σ, (σ.1 0 1).toInt.toNat, by omega, ?_, fun i hi => ?_, fun υ g1 g2 g3 g4 g5 => ⟨_, rfl, ⟨g1, g2⟩, g3, g4, g5, rfl⟩⟩
  · exact (m.2.1 58 k (fun m hm hh => (by decide : ∀ m ∈ rcA, m.1 ≠ 58) m hm hh.1)).2.trans (h.2.2.1 k hk)
  · rw [show (((σ.1 0 1).toInt.toNat : Nat) : Int) = (σ.1 0 1).toInt by omega, eT, h.2.1.1]
    exact ii_of _
  · unfold bC bR
    rw [(m.2.1 52 i (fun m hm hh => (by decide : ∀ m ∈ rcA, m.1 ≠ 52) m hm hh.1)).1, h.2.1.2 i (by omega) (by rw [← h.2.1.1]; omega)]
theorem pair0_read {σ τ υ : am_S} {x y : Int32} (h : okR0 σ) (m0 : MRc σ x τ) (m1 : MRr (bC σ) (σ.1 0 1).toInt.toNat τ y υ) : okR0 υ ∧ x = y := by
  obtain ⟨k0, f0, a1, a2, rfl, _, _⟩ := m0
  obtain ⟨k1, c1, t1, r1, rfl⟩ := m1
  have z : (0 : Int32).toInt = 0 := rfl
  refine ⟨⟨k1, ⟨?_, fun i hi hl => ?_⟩, fun k hk => ?_, ⟨fun k hk => ?_, ?_⟩⟩, rfl⟩
  · rw [(c1 0 1 (by decide)).1, a1, t1.2.2]
    rfl
  · rw [t1.2.2, z] at hl
    omega
  · exact ((t1.1 k).trans (f0 58 k (fun m hm hh => (by decide : ∀ m ∈ rcA, m.1 ≠ 58) m hm hh.1)).2).trans (h.2.2.1 k hk)
  · exact ((c1 15 k (by decide)).2.trans (f0 15 k (fun m hm hh => (by decide : ∀ m ∈ rcA, m.1 ≠ 15) m hm hh.1)).2).trans (RL0_C h.2 k hk)
  · rw [(c1 0 2 (by decide)).1, a2, r1.1]
/-- place -/
def MP (o cp : Nat) (σ : am_S) (x : Int32) (τ : am_S) : Prop := τ = σ ∧ okS τ ∧ x = σ.1 o cp
theorem useC0_place {σ : am_S} (h : okR0 σ) : sX11_placeE [.ref 0] 92 σ (fun v τ => ∃ x : Int32, v = some (.int x) ∧ MP 0 2 σ x τ) := ⟨rfl, rfl, _, rfl, _, rfl, rfl, h.1, rfl⟩
theorem useR0_place {σ τ : am_S} {x : Int32} (_ : okR0 σ) (m : MP 0 2 σ x τ) : sX12_placeE [.ref 51] 92 τ (fun v υ => ∃ y : Int32, v = some (.int y) ∧ MP 51 17 τ y υ) := ⟨rfl, rfl, _, rfl, _, rfl, rfl, m.2.1, rfl⟩
theorem pair0_place {σ τ υ : am_S} {x y : Int32} (h : okR0 σ) (m0 : MP 0 2 σ x τ) (m1 : MP 51 17 τ y υ) : okR0 υ ∧ x = y := by
  obtain ⟨rfl, k0, rfl⟩ := m0
  obtain ⟨rfl, k1, rfl⟩ := m1
  exact ⟨h, h.2.2.2.2⟩
/-- both newly made -/
def iniRel (τ : am_S) : Prop := sb_ok B0 SH τ ∧ KR τ ∧ (∃ τ1 : am_S, T51 τ1 ∧ ∀ o k, o < 51 → τ.1 o k = τ1.1 o k ∧ τ.2 o k = τ1.2 o k) ∧ (∀ k, k < 63 → k ≠ 47 → k ≠ 48 → τ.1 51 k = (am_find iniV k).getD 0) ∧ NM τ
theorem ini_RL0 {τ : am_S} (h : iniRel τ) : RL0 τ := by
  obtain ⟨h1, h2, ⟨τ1, ⟨t1, t2, t3⟩, h3⟩, h4, _⟩ := h
  have e0 : τ.1 51 2 = 0 := (h4 2 (by decide) (by decide) (by decide)).trans (by decide +kernel)
  have z : (0 : Int32).toInt = 0 := rfl
  refine ⟨⟨ini_TP h1, fun i hi hl => ?_⟩, h2, ⟨fun k hk => (h3 15 k (by decide)).2.trans (t3 k hk), ?_⟩⟩
  · rw [e0, z] at hl
    omega
  · rw [(h3 0 2 (by decide)).1, t1 0 2 (by decide) (by decide), h4 17 (by decide) (by decide) (by decide)]
    decide +kernel
/-! rungs, what is told, what is held -/
def RX (σ : am_S) : Prop := (∃ (R : Int) (L : Nat), (L < 2 ∧ 1 ≤ R ∧ R ≤ 12) ∧ σ.1 20 0 = Int32.ofInt R ∧ σ.1 51 18 = Int32.ofInt (L : Int) ∧ σ.1 60 L = Int32.ofInt R) ∧ (∃ s : Nat, s ≤ 20 ∧ σ.1 47 3 = Int32.ofInt (s : Int) ∧ σ.1 51 58 = Int32.ofInt (s : Int)) ∧ ∀ i, i < 3 → (σ.1 90 i = Int32.ofInt 0 ∧ bitAt (σ.1 35 4) i = false) ∨ (σ.1 90 i = Int32.ofInt 1 ∧ bitAt (σ.1 35 4) i = true)
def RXs : List (Nat × Nat × Nat) := [(20, 0, 1), (47, 3, 4), (35, 4, 5), (51, 18, 19), (51, 58, 59), (60, 0, 2), (90, 0, 3)]
def lwx_fr (M : sa_M) : Bool := M.all (fun m => RXs.all (fun s => !(decide (m.1 = s.1 ∧ m.2.1 < s.2.2 ∧ s.2.1 < m.2.2))))
theorem RXs_fr {M : sa_M} {σ τ : am_S} (h : sb_fr M σ τ) (e : lwx_fr M = true) : ∀ s ∈ RXs, ∀ k, s.2.1 ≤ k → k < s.2.2 → τ.1 s.1 k = σ.1 s.1 k := fun s hs k h1 h2 => (h s.1 k (fun m hm hh => by
  have q := List.all_eq_true.mp (List.all_eq_true.mp e m hm) s hs
  simp only [Bool.not_eq_true', decide_eq_false_iff_not] at q
  exact q ⟨hh.1, by omega, by omega⟩)).1
theorem RX_cg {σ τ : am_S} (h : ∀ s ∈ RXs, ∀ k, s.2.1 ≤ k → k < s.2.2 → τ.1 s.1 k = σ.1 s.1 k) (g : RX σ) : RX τ := by
  obtain ⟨⟨R, L, hb, e1, e2, e3⟩, ⟨s, hs, e4, e5⟩, e6⟩ := g
  have c1 : τ.1 20 0 = σ.1 20 0 := h (20, 0, 1) (by decide) 0 (by decide) (by decide)
  have c2 : τ.1 47 3 = σ.1 47 3 := h (47, 3, 4) (by decide) 3 (by decide) (by decide)
  have c3 : τ.1 35 4 = σ.1 35 4 := h (35, 4, 5) (by decide) 4 (by decide) (by decide)
  have c4 : τ.1 51 18 = σ.1 51 18 := h (51, 18, 19) (by decide) 18 (by decide) (by decide)
  have c5 : τ.1 51 58 = σ.1 51 58 := h (51, 58, 59) (by decide) 58 (by decide) (by decide)
  have c6 : τ.1 60 L = σ.1 60 L := h (60, 0, 2) (by decide) L (Nat.zero_le _) hb.1
  have c7 : ∀ i, i < 3 → τ.1 90 i = σ.1 90 i := fun i hi => h (90, 0, 3) (by decide) i (Nat.zero_le _) hi
  refine ⟨⟨R, L, hb, c1.trans e1, c4.trans e2, c6.trans e3⟩, ⟨s, hs, c2.trans e4, c5.trans e5⟩, fun i hi => ?_⟩
  rw [c7 i hi, c3]
  exact e6 i hi
theorem RX_fr {M : sa_M} {σ τ : am_S} (g : RX σ) (h : sb_fr M σ τ) (e : lwx_fr M = true) : RX τ := RX_cg (RXs_fr h e) g
def RLt (σ : am_S) : Prop := RL0 σ ∧ RX σ
def okR (σ : am_S) : Prop := okS σ ∧ RLt σ
theorem okR.o {σ : am_S} (h : okR σ) : okR0 σ := ⟨h.1, h.2.1⟩
def lw_fr (M : sa_M) : Bool := lw0_fr M && lwx_fr M
theorem RLt_fr {M0 M1 : sa_M} {σ τ υ : am_S} (g : RLt σ) (f0 : sb_fr M0 σ τ) (f1 : sb_fr M1 τ υ) (e0 : lw_fr M0 = true) (e1 : lw_fr M1 = true) : RLt υ := by
  unfold lw_fr at e0 e1
  simp only [Bool.and_eq_true] at e0 e1
  exact ⟨RL0_fr g.1 f0 f1 e0.1 e1.1, RX_fr (RX_fr g.2 f0 e0.2) f1 e1.2⟩
theorem useC_feed {σ : am_S} {a b c d e : Int32} (h : okR σ) : sX11_feedE [.ref 0, .int a, .int b, .int c, .int d, .int e] 92 σ (fun v τ => ∃ x : Int32, v = some (.int x) ∧ MF 0 1 1 fcM a b c d e σ x τ) := useC0_feed h.o
theorem useR_feed {σ τ : am_S} {a b c d e a' b' c' d' e' x : Int32} (h : okR σ) (m : MF 0 1 1 fcM a' b' c' d' e' σ x τ) : sX12_feedE [.ref 51, .int a, .int b, .int c, .int d, .int e] 92 τ (fun v υ => ∃ y : Int32, v = some (.int y) ∧ MF 51 2 52 frM a b c d e τ y υ) := useR0_feed h.o m
theorem useC_back {σ : am_S} {z : Int32} (h : okR σ) : yX11_backw [.ref 0, .int z] 92 σ (fun v τ => ∃ x : Int32, v = some (.int x) ∧ MB 0 1 z σ x τ) := useC0_back h.o
theorem useR_back {σ τ : am_S} {z z' x : Int32} (h : okR σ) (m : MB 0 1 z' σ x τ) : yX12_backw [.ref 51, .int z] 92 τ (fun v υ => ∃ y : Int32, v = some (.int y) ∧ MB 51 2 z τ y υ) := useR0_back h.o m
theorem useC_read {σ : am_S} (h : okR σ) : sX11_readT [.ref 0] 92 σ (fun v τ => ∃ x : Int32, v = some (.int x) ∧ MRc σ x τ) := useC0_read h.o
theorem useR_read {σ τ : am_S} {x : Int32} (h : okR σ) (m : MRc σ x τ) : sX12_readE [.ref 51] 92 τ (fun v υ => ∃ y : Int32, v = some (.int y) ∧ MRr (bC σ) (σ.1 0 1).toInt.toNat τ y υ) := useR0_read h.o m
theorem useC_place {σ : am_S} (h : okR σ) : sX11_placeE [.ref 0] 92 σ (fun v τ => ∃ x : Int32, v = some (.int x) ∧ MP 0 2 σ x τ) := useC0_place h.o
theorem useR_place {σ τ : am_S} {x : Int32} (h : okR σ) (m : MP 0 2 σ x τ) : sX12_placeE [.ref 51] 92 τ (fun v υ => ∃ y : Int32, v = some (.int y) ∧ MP 51 17 τ y υ) := useR0_place h.o m
theorem pair_feed {σ τ υ : am_S} {a b c d e x y : Int32} (h : okR σ) (m0 : MF 0 1 1 fcM a b c d e σ x τ) (m1 : MF 51 2 52 frM a b c d e τ y υ) : okR υ ∧ x = y := by
  have p := pair0_feed h.o m0 m1
  have x0 : RX τ := by
    rcases m0.2 with ⟨_, _, rfl⟩ | ⟨_, _, f, _⟩
    · exact h.2.2
    · exact RX_fr h.2.2 f (by decide +kernel)
  have x1 : RX υ := by
    rcases m1.2 with ⟨_, _, rfl⟩ | ⟨_, _, f, _⟩
    · exact x0
    · exact RX_fr x0 f (by decide +kernel)
  exact ⟨⟨p.1.1, p.1.2, x1⟩, p.2⟩
theorem RX_pi {σ : am_S} {o k : Nat} {v : Int32} (g : RX σ) (e : RXs.all (fun s => !(decide (s.1 = o ∧ s.2.1 ≤ k ∧ k < s.2.2))) = true) : RX (am_pi σ o k v) := RX_cg (fun s hs j h1 h2 => pi_n _ _ _ _ (fun z => by
  have q := List.all_eq_true.mp e s hs
  simp only [Bool.not_eq_true', decide_eq_false_iff_not] at q
  exact q ⟨z.1, by omega, by omega⟩)) g
theorem pair_back {σ τ υ : am_S} {z x y : Int32} (h : okR σ) (m0 : MB 0 1 z σ x τ) (m1 : MB 51 2 z τ y υ) : okR υ ∧ x = y := by
  have p := pair0_back h.o m0 m1
  have x0 : RX τ := by
    rcases m0.2 with ⟨_, _, _, rfl⟩ | ⟨_, _, rfl⟩
    · exact RX_pi h.2.2 (by decide +kernel)
    · exact h.2.2
  have x1 : RX υ := by
    rcases m1.2 with ⟨_, _, _, rfl⟩ | ⟨_, _, rfl⟩
    · exact RX_pi x0 (by decide +kernel)
    · exact x0
  exact ⟨⟨p.1.1, p.1.2, x1⟩, p.2⟩
theorem pair_place {σ τ υ : am_S} {x y : Int32} (h : okR σ) (m0 : MP 0 2 σ x τ) (m1 : MP 51 17 τ y υ) : okR υ ∧ x = y := by
  have p := pair0_place h.o m0 m1
  obtain ⟨rfl, _, _⟩ := m0
  obtain ⟨rfl, _, _⟩ := m1
  exact ⟨h, p.2⟩
theorem pair_read {σ τ υ : am_S} {x y : Int32} (h : okR σ) (m0 : MRc σ x τ) (m1 : MRr (bC σ) (σ.1 0 1).toInt.toNat τ y υ) : okR υ ∧ x = y := by
  have p := pair0_read h.o m0 m1
  refine ⟨⟨p.1.1, p.1.2, ?_⟩, p.2⟩
  obtain ⟨k0, f0, a1, a2, a3, n1, n2⟩ := m0
  obtain ⟨k1, c1, t1, r1, _⟩ := m1
  obtain ⟨_, r2, r3⟩ := r1
  by_cases q : (spR (bC σ) (σ.1 0 1).toInt.toNat).1 = 0
  · obtain ⟨⟨d1, d2⟩, d3, d4⟩ := n2 q
    obtain ⟨⟨g1, g2, g3⟩, g4, g5⟩ := r2 q
    have lb : 0 ≤ (υ.1 51 18).toInt ∧ (υ.1 51 18).toInt ≤ 1 := k1.1.2 51 12 18 rfl
    have hs := (g5.2.1 rfl).1
    refine ⟨⟨_, (υ.1 51 18).toInt.toNat, ⟨by omega, d2⟩, ?_, ?_, ?_⟩, ⟨0, by decide, ?_, g1⟩, fun i hi => Or.inl ⟨g3 i hi, ?_⟩⟩
    · rw [(c1 20 0 (by decide)).1]; exact d1
    · rw [Int.toNat_of_nonneg lb.1]; exact ii_of _
    · rw [← g4]; exact hs
    · rw [(c1 47 3 (by decide)).1]; exact d3
    · rw [(c1 35 4 (by decide)).1, d4]
      exact bt_0 i
  · have x0 : RX τ := RX_fr h.2.2 (n1 q) (by decide +kernel)
    obtain ⟨g1, g2⟩ := r3 q
    obtain ⟨⟨R, L, hb, e1, e2, e3⟩, ⟨s, hs, e4, e5⟩, e6⟩ := x0
    have el : (τ.1 51 18).toInt = (L : Int) := by rw [e2]; exact ii_t (by omega) (by omega)
    refine ⟨⟨R, L, hb, ?_, ?_, ?_⟩, ⟨s, hs, ?_, ?_⟩, fun i hi => ?_⟩
    · rw [(c1 20 0 (by decide)).1]; exact e1
    · rw [(g1.1 51 18 (by unfold rfo; omega)).1]; exact e2
    · rw [(g2 60 L (Or.inr (Or.inr (Or.inl ⟨rfl, by omega⟩)))).1]; exact e3
    · rw [(c1 47 3 (by decide)).1]; exact e4
    · rw [(g1.1 51 58 (by unfold rfo; omega)).1]; exact e5
    · rw [(g1.1 90 i (by unfold rfo; omega)).1, (c1 35 4 (by decide)).1]
      exact e6 i hi
/-- tell -/
def Mtc : sa_M := [(48, 0, 20), (49, 0, 20), (47, 3, 4)]
def Mtr : sa_M := [(88, 0, 20), (89, 0, 20), (51, 58, 59)]
def MT (R s : Int) (oS kS : Nat) (M : sa_M) (c : Int32) (σ : am_S) (x : Int32) (τ : am_S) : Prop := okS τ ∧ sb_fr M σ τ ∧ ((((0 ≤ c.toInt ∧ c.toInt < R) ∧ s < 20) ∧ x = Int32.ofInt s ∧ τ.1 oS kS = Int32.ofInt (s + 1)) ∨ (¬ ((0 ≤ c.toInt ∧ c.toInt < R) ∧ s < 20) ∧ x = Int32.ofInt (-1) ∧ τ = σ))
theorem nar_01 {a : Int32} (h : 0 ≤ a.toInt ∧ a.toInt ≤ 1) : vp_nar .boolean a = a := by
  have e : a = Int32.ofInt a.toInt := ii_of _
  have q : a.toInt = 0 ∨ a.toInt = 1 := by omega
  rcases q with q | q
  · rw [e, q]; exact nb_0
  · rw [e, q]; exact nb_1
theorem okS_of {M : sa_M} {σ τ : am_S} (h : okS σ) (i : sI BB SH M σ τ) (e : Jfree [([], [], M)] = true) : okS τ := ⟨i.1, JJ_fr e _ (List.mem_singleton.mpr rfl) σ τ h.2 i.2⟩
theorem tdC_I {σ : am_S} {s : Nat} {c a : Int32} (h : okS σ) (hs : s < 20) (ha : 0 ≤ a.toInt ∧ a.toInt ≤ 1) : sI BB SH Mtc σ (tdC s c a σ) := by
  unfold tdC
  refine sI_fld (ci := 6) (sI_arr (q := (2, 20)) (sI_arr (q := (0, 20)) ⟨h.1, sb_fr_r _ _⟩ rfl ?_ ⟨_, List.mem_cons_self, rfl, Nat.zero_le _, hs⟩) rfl ?_ ⟨_, List.mem_cons_of_mem _ List.mem_cons_self, rfl, Nat.zero_le _, hs⟩) rfl ?_ ⟨_, List.mem_cons_of_mem _ (List.mem_cons_of_mem _ List.mem_cons_self), rfl, Nat.le_refl _, Nat.lt_succ_self _⟩
  · rw [sb_1 (q := (-2147483648, 2147483647)) rfl]; exact ⟨ii_lo _, by have := ii_hi c; show c.toInt ≤ 2147483647; omega⟩
  · rw [sb_1 (q := (0, 1)) rfl]; exact ha
  · rw [ii_t (by omega) (by omega)]; exact ⟨by show (-2147483648 : Int) ≤ _; omega, by show _ ≤ (2147483647 : Int); omega⟩
theorem tdR_I {σ : am_S} {s : Nat} {c a : Int32} (h : okS σ) (hs : s < 20) (ha : 0 ≤ a.toInt ∧ a.toInt ≤ 1) : sI BB SH Mtr σ (tdR s c a σ) := by
  unfold tdR
  refine sI_fld (ci := 12) (sI_arr (q := (2, 20)) (sI_arr (q := (0, 20)) ⟨h.1, sb_fr_r _ _⟩ rfl ?_ ⟨_, List.mem_cons_self, rfl, Nat.zero_le _, hs⟩) rfl ?_ ⟨_, List.mem_cons_of_mem _ List.mem_cons_self, rfl, Nat.zero_le _, hs⟩) rfl ?_ ⟨_, List.mem_cons_of_mem _ (List.mem_cons_of_mem _ List.mem_cons_self), rfl, Nat.le_refl _, Nat.lt_succ_self _⟩
  · rw [sb_1 (q := (-2147483648, 2147483647)) rfl]; exact ⟨ii_lo _, by have := ii_hi c; show c.toInt ≤ 2147483647; omega⟩
  · rw [sb_1 (q := (0, 1)) rfl]; exact ha
  · rw [ii_t (by omega) (by omega)]; exact ⟨by show (0 : Int) ≤ _; omega, by show _ ≤ (20 : Int); omega⟩
theorem useC_tell {σ : am_S} {c a : Int32} (h : okR σ) (ha : 0 ≤ a.toInt ∧ a.toInt ≤ 1) : sX11_tellT [.ref 0, .int c, .int a] 92 σ (fun v τ => ∃ x : Int32, v = some (.int x) ∧ MT (σ.1 20 0).toInt (σ.1 47 3).toInt 47 3 Mtc c σ x τ) := by
  obtain ⟨⟨R, L, hb, e1, e2, e3⟩, ⟨s, hs, e4, e5⟩, e6⟩ := h.2.2
  have c1 := ii_lo c
  have c2 := ii_hi c
  rw [e1, e4, ii_t (by omega) (by omega), ii_t (by omega) (by omega)]
  refine ⟨rfl, s, c.toInt, R, a, hs, nar_01 ha, ⟨c1, c2⟩, ⟨by omega, by omega⟩, e1, e4, by rw [← ii_of], fun q => ⟨_, rfl, h.1, sb_fr_r _ _, Or.inr ⟨fun w => q ⟨w.1, by omega⟩, rfl, rfl⟩⟩, fun q1 q2 => ?_⟩
  rw [← ii_of]
  have i := tdC_I (c := c) h.1 q2 ha
  exact ⟨_, rfl, okS_of h.1 i (by decide +kernel), i.2, Or.inl ⟨⟨q1, by omega⟩, rfl, by unfold tdC; rw [pi_s]⟩⟩
theorem useR_tell {σ τ : am_S} {c c' a x : Int32} (h : okR σ) (m : MT (σ.1 20 0).toInt (σ.1 47 3).toInt 47 3 Mtc c' σ x τ) (ha : 0 ≤ a.toInt ∧ a.toInt ≤ 1) : sX12_tellT [.ref 51, .int c, .int a] 92 τ (fun v υ => ∃ y : Int32, v = some (.int y) ∧ MT (σ.1 20 0).toInt (σ.1 47 3).toInt 51 58 Mtr c τ y υ) := by
  obtain ⟨⟨R, L, hb, e1, e2, e3⟩, ⟨s, hs, e4, e5⟩, e6⟩ := h.2.2
  have c1 := ii_lo c
  have c2 := ii_hi c
  have f2 : τ.1 51 18 = Int32.ofInt (L : Int) := (m.2.1 51 18 (by decide)).1.trans e2
  have f3 : τ.1 60 L = Int32.ofInt R := (m.2.1 60 L (fun z hz w => (by decide : ∀ z ∈ Mtc, z.1 ≠ 60) z hz w.1)).1.trans e3
  have f5 : τ.1 51 58 = Int32.ofInt (s : Int) := (m.2.1 51 58 (by decide)).1.trans e5
  rw [e1, e4, ii_t (by omega) (by omega), ii_t (by omega) (by omega)]
  refine ⟨rfl, s, L, c.toInt, R, a, hs, hb.1, nar_01 ha, ⟨c1, c2⟩, ⟨by omega, by omega⟩, f2, f3, f5, by rw [← ii_of], fun q => ⟨_, rfl, m.1, sb_fr_r _ _, Or.inr ⟨fun w => q ⟨w.1, by omega⟩, rfl, rfl⟩⟩, fun q1 q2 => ?_⟩
  rw [← ii_of]
  have i := tdR_I (c := c) m.1 q2 ha
  exact ⟨_, rfl, okS_of m.1 i (by decide +kernel), i.2, Or.inl ⟨⟨q1, by omega⟩, rfl, by unfold tdR; rw [pi_s]⟩⟩
theorem pair_tell {σ τ υ : am_S} {c x y : Int32} (h : okR σ) (m0 : MT (σ.1 20 0).toInt (σ.1 47 3).toInt 47 3 Mtc c σ x τ) (m1 : MT (σ.1 20 0).toInt (σ.1 47 3).toInt 51 58 Mtr c τ y υ) : okR υ ∧ x = y := by
  obtain ⟨k0, f0, m0⟩ := m0
  obtain ⟨k1, f1, m1⟩ := m1
  have L0 : RL0 υ := RL0_fr h.2.1 f0 f1 (by decide +kernel) (by decide +kernel)
  rcases m0 with ⟨q, rfl, a1⟩ | ⟨q, rfl, rfl⟩ <;> rcases m1 with ⟨p, rfl, b1⟩ | ⟨p, rfl, rfl⟩
  · refine ⟨⟨k1, L0, ?_⟩, rfl⟩
    obtain ⟨⟨R, L, hb, e1, e2, e3⟩, ⟨s, hs, e4, e5⟩, e6⟩ := h.2.2
    rw [e4, ii_t (by omega) (by omega)] at a1 b1 q
    refine ⟨⟨R, L, hb, ?_, ?_, ?_⟩, ⟨s + 1, by omega, ?_, b1⟩, fun i hi => ?_⟩
    · rw [(f1 20 0 (by decide)).1, (f0 20 0 (by decide)).1]; exact e1
    · rw [(f1 51 18 (by decide)).1, (f0 51 18 (by decide)).1]; exact e2
    · rw [(f1 60 L (fun z hz w => (by decide : ∀ z ∈ Mtr, z.1 ≠ 60) z hz w.1)).1, (f0 60 L (fun z hz w => (by decide : ∀ z ∈ Mtc, z.1 ≠ 60) z hz w.1)).1]; exact e3
    · rw [(f1 47 3 (by decide)).1]; exact a1
    · rw [(f1 90 i (fun z hz w => (by decide : ∀ z ∈ Mtr, z.1 ≠ 90) z hz w.1)).1, (f0 90 i (fun z hz w => (by decide : ∀ z ∈ Mtc, z.1 ≠ 90) z hz w.1)).1, (f1 35 4 (by decide)).1, (f0 35 4 (by decide)).1]
      exact e6 i hi
  · exact absurd q p
  · exact absurd p q
  · exact ⟨⟨k1, L0, h.2.2⟩, rfl⟩
/-- forget -/
def Mfc : sa_M := [(47, 3, 4)]
def Mfr : sa_M := [(51, 58, 59)]
def MG (oS kS : Nat) (M : sa_M) (σ : am_S) (x : Int32) (τ : am_S) : Prop := okS τ ∧ sb_fr M σ τ ∧ x = σ.1 oS kS ∧ τ.1 oS kS = Int32.ofInt 0
theorem useC_forget {σ : am_S} (h : okR σ) : sX11_forgetT [.ref 0] 92 σ (fun v τ => ∃ x : Int32, v = some (.int x) ∧ MG 47 3 Mfc σ x τ) := by
  have i : sI BB SH Mfc σ (am_pi σ 47 3 (Int32.ofInt 0)) := sI_fld (ci := 6) ⟨h.1.1, sb_fr_r _ _⟩ rfl ⟨by decide, by decide⟩ ⟨_, List.mem_cons_self, rfl, Nat.le_refl _, Nat.lt_succ_self _⟩
  exact ⟨rfl, rfl, _, rfl, okS_of h.1 i (by decide +kernel), i.2, rfl, pi_s _ _ _ _⟩
theorem useR_forget {σ τ : am_S} {x : Int32} (_ : okR σ) (m : MG 47 3 Mfc σ x τ) : sX12_forgetT [.ref 51] 92 τ (fun v υ => ∃ y : Int32, v = some (.int y) ∧ MG 51 58 Mfr τ y υ) := by
  have i : sI BB SH Mfr τ (am_pi τ 51 58 (Int32.ofInt 0)) := sI_fld (ci := 12) ⟨m.1.1, sb_fr_r _ _⟩ rfl ⟨by decide, by decide⟩ ⟨_, List.mem_cons_self, rfl, Nat.le_refl _, Nat.lt_succ_self _⟩
  exact ⟨rfl, rfl, _, rfl, okS_of m.1 i (by decide +kernel), i.2, rfl, pi_s _ _ _ _⟩
theorem pair_forget {σ τ υ : am_S} {x y : Int32} (h : okR σ) (m0 : MG 47 3 Mfc σ x τ) (m1 : MG 51 58 Mfr τ y υ) : okR υ ∧ x = y := by
  obtain ⟨k0, f0, rfl, a1⟩ := m0
  obtain ⟨k1, f1, rfl, b1⟩ := m1
  obtain ⟨⟨R, L, hb, e1, e2, e3⟩, ⟨s, hs, e4, e5⟩, e6⟩ := h.2.2
  refine ⟨⟨k1, RL0_fr h.2.1 f0 f1 (by decide +kernel) (by decide +kernel), ⟨R, L, hb, ?_, ?_, ?_⟩, ⟨0, by decide, ?_, b1⟩, fun i hi => ?_⟩, ?_⟩
  · rw [(f1 20 0 (by decide)).1, (f0 20 0 (by decide)).1]; exact e1
  · rw [(f1 51 18 (by decide)).1, (f0 51 18 (by decide)).1]; exact e2
  · rw [(f1 60 L (fun z hz w => (by decide : ∀ z ∈ Mfr, z.1 ≠ 60) z hz w.1)).1, (f0 60 L (fun z hz w => (by decide : ∀ z ∈ Mfc, z.1 ≠ 60) z hz w.1)).1]; exact e3
  · rw [(f1 47 3 (by decide)).1]; exact a1
  · rw [(f1 90 i (fun z hz w => (by decide : ∀ z ∈ Mfr, z.1 ≠ 90) z hz w.1)).1, (f0 90 i (fun z hz w => (by decide : ∀ z ∈ Mfc, z.1 ≠ 90) z hz w.1)).1, (f1 35 4 (by decide)).1, (f0 35 4 (by decide)).1]
    exact e6 i hi
  · rw [e4, (f0 51 58 (by decide)).1, e5]
/-- hold, restore: the slot's place -/
def Mhc : sa_M := [(37, 0, 120), (35, 4, 5)]
def Mhr : sa_M := [(91, 0, 153), (90, 0, 3)]
def Mrc : sa_M := [(32, 0, 40), (35, 3, 4)]
def Mrr : sa_M := [(79, 0, 51), (51, 49, 50)]
theorem s3 {z : Int} (h : 0 ≤ z ∧ z < 3) : z = 0 ∨ z = 1 ∨ z = 2 := by omega
def MHc (z : Int32) (σ : am_S) (x : Int32) (τ : am_S) : Prop := okS τ ∧ sb_fr Mhc σ τ ∧ (((0 ≤ z.toInt ∧ z.toInt < 3) ∧ x = Int32.ofInt 1 ∧ τ.1 35 4 = (σ.1 35 4 ||| (Int32.ofInt 1 <<< (Int32.ofInt (z.toInt.toNat : Int) &&& 31)))) ∨ (¬ (0 ≤ z.toInt ∧ z.toInt < 3) ∧ x = Int32.ofInt 0 ∧ τ = σ))
def MHr (z : Int32) (σ : am_S) (x : Int32) (τ : am_S) : Prop := okS τ ∧ sb_fr Mhr σ τ ∧ (((0 ≤ z.toInt ∧ z.toInt < 3) ∧ x = Int32.ofInt 1 ∧ ∀ i, τ.1 90 i = if i = z.toInt.toNat then Int32.ofInt 1 else σ.1 90 i) ∨ (¬ (0 ≤ z.toInt ∧ z.toInt < 3) ∧ x = Int32.ofInt 0 ∧ τ = σ))
theorem hoC_I {σ : am_S} {s : Nat} (h : okS σ) (hs : s < 3) : sI BB SH Mhc σ (hoC s σ) := by
  unfold hoC
  have i : sI BB SH Mhc σ (cpX 32 37 0 (40 * s) 40 σ) := by
    refine cpX_I (q := (0, 40)) (q2 := (0, 120)) ⟨h.1, sb_fr_r _ _⟩ rfl rfl (by decide) ?_ ⟨_, List.mem_cons_self, rfl, Nat.zero_le _, by show 40 * s + 40 ≤ 120; omega⟩
    have q : s = 0 ∨ s = 1 ∨ s = 2 := by omega
    rcases q with rfl | rfl | rfl <;> decide +kernel
  exact sI_fld (ci := 7) i rfl ⟨ii_lo _, by have := ii_hi (σ.1 35 4 ||| (Int32.ofInt 1 <<< (Int32.ofInt (s : Int) &&& 31))); show _ ≤ (2147483647 : Int); omega⟩ ⟨_, List.mem_cons_of_mem _ List.mem_cons_self, rfl, Nat.le_refl _, Nat.lt_succ_self _⟩
theorem hoR_I {σ : am_S} {s : Nat} (h : okS σ) (hs : s < 3) : sI BB SH Mhr σ (hoR s σ) := by
  unfold hoR
  have i : sI BB SH Mhr σ (am_pi σ 90 s (Int32.ofInt 1)) := sI_arr (q := (2, 3)) ⟨h.1, sb_fr_r _ _⟩ rfl (by rw [sb_1 (q := (0, 1)) rfl]; exact ⟨by decide, by decide⟩) ⟨_, List.mem_cons_of_mem _ List.mem_cons_self, rfl, Nat.zero_le _, hs⟩
  refine cpX_I (q := (0, 51)) (q2 := (0, 153)) i rfl rfl (by decide) ?_ ⟨_, List.mem_cons_self, rfl, Nat.zero_le _, by show 51 * s + 51 ≤ 153; omega⟩
  intro j hj
  have h1 : BB.1 79 = [(-2147483648, 2147483647)] := rfl
  have h2 : BB.1 91 = [(-2147483648, 2147483647)] := rfl
  rw [sb_1 h1, sb_1 h2]
  exact ⟨Int.le_refl _, Int.le_refl _⟩
theorem reC_I {σ : am_S} {s : Nat} (h : okS σ) (hs : s < 3) : sI BB SH Mrc σ (reC s σ) := by
  unfold reC
  have i : sI BB SH Mrc σ (cpX 37 32 (40 * s) 0 40 σ) := by
    refine cpX_I (q := (0, 120)) (q2 := (0, 40)) ⟨h.1, sb_fr_r _ _⟩ rfl rfl (by show 40 * s + 40 ≤ 120; omega) ?_ ⟨_, List.mem_cons_self, rfl, Nat.zero_le _, by decide⟩
    have q : s = 0 ∨ s = 1 ∨ s = 2 := by omega
    rcases q with rfl | rfl | rfl <;> decide +kernel
  exact sI_fld (ci := 7) i rfl ⟨by decide, by decide⟩ ⟨_, List.mem_cons_of_mem _ List.mem_cons_self, rfl, Nat.le_refl _, Nat.lt_succ_self _⟩
theorem reR_I {σ : am_S} {s : Nat} (h : okS σ) (hs : s < 3) : sI BB SH Mrr σ (reR s σ) := by
  unfold reR
  have i : sI BB SH Mrr σ (cpX 91 79 (51 * s) 0 51 σ) := by
    refine cpX_I (q := (0, 153)) (q2 := (0, 51)) ⟨h.1, sb_fr_r _ _⟩ rfl rfl (by show 51 * s + 51 ≤ 153; omega) ?_ ⟨_, List.mem_cons_self, rfl, Nat.zero_le _, by decide⟩
    intro j hj
    have h1 : BB.1 79 = [(-2147483648, 2147483647)] := rfl
    have h2 : BB.1 91 = [(-2147483648, 2147483647)] := rfl
    rw [sb_1 h1, sb_1 h2]
    exact ⟨Int.le_refl _, Int.le_refl _⟩
  exact sI_fld (ci := 12) i rfl ⟨by decide, by decide⟩ ⟨_, List.mem_cons_of_mem _ List.mem_cons_self, rfl, Nat.le_refl _, Nat.lt_succ_self _⟩
theorem useC_hold {σ : am_S} {z : Int32} (h : okR σ) : sX11_holdT [.ref 0, .int z] 92 σ (fun v τ => ∃ x : Int32, v = some (.int x) ∧ MHc z σ x τ) := by
  refine ⟨rfl, z.toInt, ⟨ii_lo _, ii_hi _⟩, by rw [← ii_of], fun q => ⟨_, rfl, h.1, sb_fr_r _ _, Or.inr ⟨q, rfl, rfl⟩⟩, fun q => ?_⟩
  have i := hoC_I (s := z.toInt.toNat) h.1 (by omega)
  exact ⟨_, rfl, okS_of h.1 i (by decide +kernel), i.2, Or.inl ⟨q, rfl, by unfold hoC; rw [pi_s]⟩⟩
theorem useR_hold {σ τ : am_S} {z z' x : Int32} (_ : okR σ) (m : MHc z' σ x τ) : sX12_holdT [.ref 51, .int z] 92 τ (fun v υ => ∃ y : Int32, v = some (.int y) ∧ MHr z τ y υ) := by
  refine ⟨rfl, z.toInt, ⟨ii_lo _, ii_hi _⟩, by rw [← ii_of], fun q => ⟨_, rfl, m.1, sb_fr_r _ _, Or.inr ⟨q, rfl, rfl⟩⟩, fun q => ?_⟩
  have i := hoR_I (s := z.toInt.toNat) m.1 (by omega)
  refine ⟨_, rfl, okS_of m.1 i (by decide +kernel), i.2, Or.inl ⟨q, rfl, fun j => ?_⟩⟩
  unfold hoR
  rw [cpX_n (fun w => absurd w.1 (by decide))]
  by_cases w : j = z.toInt.toNat
  · rw [if_pos w, w, pi_s]
  · rw [if_neg w, pi_n _ _ _ _ (fun w2 => w w2.2)]
theorem bit_or {x : Int32} {s i : Nat} (hs : s < 3) (hi : i < 3) : bitAt (x ||| (Int32.ofInt 1 <<< (Int32.ofInt (s : Int) &&& 31))) i = (bitAt x i || decide (i = s)) := by
  rw [bt_or, bt_l (by omega) i (by omega)]
theorem pair_hold {σ τ υ : am_S} {z x y : Int32} (h : okR σ) (m0 : MHc z σ x τ) (m1 : MHr z τ y υ) : okR υ ∧ x = y := by
  obtain ⟨k0, f0, m0⟩ := m0
  obtain ⟨k1, f1, m1⟩ := m1
  have L0 : RL0 υ := RL0_fr h.2.1 f0 f1 (by decide +kernel) (by decide +kernel)
  rcases m0 with ⟨q, rfl, a1⟩ | ⟨q, rfl, rfl⟩ <;> rcases m1 with ⟨p, rfl, b1⟩ | ⟨p, rfl, rfl⟩
  · refine ⟨⟨k1, L0, ?_⟩, rfl⟩
    obtain ⟨⟨R, L, hb, e1, e2, e3⟩, ⟨s, hs, e4, e5⟩, e6⟩ := h.2.2
    refine ⟨⟨R, L, hb, ?_, ?_, ?_⟩, ⟨s, hs, ?_, ?_⟩, fun i hi => ?_⟩
    · rw [(f1 20 0 (by decide)).1, (f0 20 0 (by decide)).1]; exact e1
    · rw [(f1 51 18 (by decide)).1, (f0 51 18 (by decide)).1]; exact e2
    · rw [(f1 60 L (fun z hz w => (by decide : ∀ z ∈ Mhr, z.1 ≠ 60) z hz w.1)).1, (f0 60 L (fun z hz w => (by decide : ∀ z ∈ Mhc, z.1 ≠ 60) z hz w.1)).1]; exact e3
    · rw [(f1 47 3 (by decide)).1, (f0 47 3 (by decide)).1]; exact e4
    · rw [(f1 51 58 (by decide)).1, (f0 51 58 (by decide)).1]; exact e5
    · rw [b1 i, (f1 35 4 (by decide)).1, a1, bit_or (by omega) hi]
      by_cases w : i = z.toInt.toNat
      · rw [if_pos w, decide_eq_true w, Bool.or_true]
        exact Or.inr ⟨rfl, rfl⟩
      · rw [if_neg w, decide_eq_false w, Bool.or_false, (f0 90 i (fun z hz w => (by decide : ∀ z ∈ Mhc, z.1 ≠ 90) z hz w.1)).1]
        exact e6 i hi
  · exact absurd q p
  · exact absurd p q
  · exact ⟨⟨k1, L0, h.2.2⟩, rfl⟩
def MSr (B : Prop) (M : sa_M) (σ : am_S) (x : Int32) (τ : am_S) : Prop := okS τ ∧ sb_fr M σ τ ∧ ((B ∧ x = Int32.ofInt 1) ∨ (¬ B ∧ x = Int32.ofInt 0))
theorem useC_restore {σ : am_S} {z : Int32} (h : okR σ) : sX11_restoreT [.ref 0, .int z] 92 σ (fun v τ => ∃ x : Int32, v = some (.int x) ∧ MSr ((0 ≤ z.toInt ∧ z.toInt < 3) ∧ bitAt (σ.1 35 4) z.toInt.toNat = true) Mrc σ x τ) := by
  refine ⟨rfl, z.toInt, ⟨ii_lo _, ii_hi _⟩, by rw [← ii_of], fun q => ⟨_, rfl, h.1, sb_fr_r _ _, Or.inr ⟨q, rfl⟩⟩, fun q qb => ?_⟩
  have i := reC_I (s := z.toInt.toNat) h.1 (by omega)
  exact ⟨_, rfl, okS_of h.1 i (by decide +kernel), i.2, Or.inl ⟨⟨q, qb⟩, rfl⟩⟩
theorem useR_restore {σ τ : am_S} {z z' x : Int32} (h : okR σ) (m : MSr ((0 ≤ z'.toInt ∧ z'.toInt < 3) ∧ bitAt (σ.1 35 4) z'.toInt.toNat = true) Mrc σ x τ) : sX12_restoreT [.ref 51, .int z] 92 τ (fun v υ => ∃ y : Int32, v = some (.int y) ∧ MSr ((0 ≤ z.toInt ∧ z.toInt < 3) ∧ σ.1 90 z.toInt.toNat = Int32.ofInt 1) Mrr τ y υ) := by
  have eh : ∀ i, τ.1 90 i = σ.1 90 i := fun i => (m.2.1 90 i (fun z hz w => (by decide : ∀ z ∈ Mrc, z.1 ≠ 90) z hz w.1)).1
  refine ⟨rfl, z.toInt, ⟨ii_lo _, ii_hi _⟩, fun i hi => ?_, by rw [← ii_of], fun q => ⟨_, rfl, m.1, sb_fr_r _ _, Or.inr ⟨fun w => q ⟨w.1, (eh _).trans w.2⟩, rfl⟩⟩, fun q qb => ?_⟩
  · rw [eh]
    rcases h.2.2.2.2 i hi with w | w
    · exact Or.inl w.1
    · exact Or.inr w.1
  · have i := reR_I (s := z.toInt.toNat) m.1 (by omega)
    exact ⟨_, rfl, okS_of m.1 i (by decide +kernel), i.2, Or.inl ⟨⟨q, (eh _).symm.trans qb⟩, rfl⟩⟩
theorem pair_restore {σ τ υ : am_S} {z x y : Int32} (h : okR σ) (m0 : MSr ((0 ≤ z.toInt ∧ z.toInt < 3) ∧ bitAt (σ.1 35 4) z.toInt.toNat = true) Mrc σ x τ) (m1 : MSr ((0 ≤ z.toInt ∧ z.toInt < 3) ∧ σ.1 90 z.toInt.toNat = Int32.ofInt 1) Mrr τ y υ) : okR υ ∧ x = y := by
  obtain ⟨k0, f0, m0⟩ := m0
  obtain ⟨k1, f1, m1⟩ := m1
  refine ⟨⟨k1, RL0_fr h.2.1 f0 f1 (by decide +kernel) (by decide +kernel), RX_fr (RX_fr h.2.2 f0 (by decide +kernel)) f1 (by decide +kernel)⟩, ?_⟩
  rcases m0 with ⟨⟨q, qb⟩, rfl⟩ | ⟨q, rfl⟩ <;> rcases m1 with ⟨⟨p, pb⟩, rfl⟩ | ⟨p, rfl⟩
  · rfl
  · exfalso
    rcases h.2.2.2.2 z.toInt.toNat (by omega) with w | w
    · rw [w.2] at qb; cases qb
    · exact p ⟨q, w.1⟩
  · exfalso
    rcases h.2.2.2.2 z.toInt.toNat (by omega) with w | w
    · rw [w.1] at pb
      exact absurd pb (by decide)
    · exact q ⟨p, w.2⟩
  · rfl
theorem ini_RX {τ : am_S} (h : iniRel τ) : RX τ := by
  obtain ⟨h1, h2, ⟨τ1, ⟨t1, t2, t3⟩, h3⟩, h4, n1, n2, n3, n4⟩ := h
  have c : ∀ o k, o < 51 → ¬ o = 32 → τ.1 o k = look Q11 o k := fun o k a b => (h3 o k a).1.trans (t1 o k a b)
  refine ⟨⟨8, 0, by decide, ?_, ?_, n2.1⟩, ⟨0, by decide, ?_, ?_⟩, fun i hi => Or.inl ⟨n4 i hi, ?_⟩⟩
  · rw [c 20 0 (by decide) (by decide)]; decide +kernel
  · rw [h4 18 (by decide) (by decide) (by decide)]; decide +kernel
  · rw [c 47 3 (by decide) (by decide)]; decide +kernel
  · rw [h4 58 (by decide) (by decide) (by decide)]; decide +kernel
  · rw [c 35 4 (by decide) (by decide), show look Q11 35 4 = Int32.ofInt 0 by decide +kernel]
    exact bt_0 i
theorem ini_RLt {τ : am_S} (h : iniRel τ) : RLt τ := ⟨ini_RL0 h, ini_RX h⟩
set_option maxRecDepth 100000 in
theorem lw_c0 {p : Program} {l : Launch} {e : Env} {s : State} {m : MethodId} {below : List Frame} {meth : Method} {c : Code} {D : va_G} {aC : Nat → ClassId} {b L : Nat} {xs : Nat → Int32} (C : lw_K p s m c D aC b L xs) {i : Int} (hi : 0 ≤ i ∧ i + 6 ≤ (L : Int) ∧ L ≤ 3072) {σ : am_S} {H : Heap} {locs : List Loc} {lc : Array Slot} (hokR : okR σ) (hP : va_P D vwCl (am_ws SH KF s.heap.size aC 92 σ) H) (hS : va_S (fun q => s.heap.size ≤ q) s.heap H locs) (hl : lv_has lc 4 [(3, .int (Int32.ofInt i)), (2, .ref (s.heap.size + 51)), (1, .ref (s.heap.size + 0)), (0, .ref b)])
    (back : ∀ (τ : am_S) (H : Heap) (locs : List Loc), okR τ → va_P D vwCl (am_ws SH KF s.heap.size aC 92 τ) H → va_S (fun q => s.heap.size ≤ q) s.heap H locs → W p l e room_1 s m #[Value.ref b] below meth c H locs (92 - 0) (am_sz SH KF 92 - am_sz SH KF 0) (lw_Z below #[Value.ref b] s) (F0 m 1371 lc [])) : W p l e room_1 s m #[Value.ref b] below meth c H locs (92 - 0) (am_sz SH KF 92 - am_sz SH KF 0) (lw_Z below #[Value.ref b] s) (F0 m 212 lc []) := by
  have hok : okS σ := hokR.1
  refine lv_aload_n C.1 C.2.1 dL_law_212 rfl (lv_at hl 2 rfl) ?_
  refine lw_arg C hS hl (k := 1) dL_law_213 dL_law_214 dL_law_215 dL_law_216 dL_law_217 rfl hi (by decide) ?_
  refine lw_arg C hS hl (k := 2) dL_law_218 dL_law_219 dL_law_220 dL_law_221 dL_law_222 rfl hi (by decide) ?_
  refine lw_arg C hS hl (k := 3) dL_law_223 dL_law_224 dL_law_225 dL_law_226 dL_law_227 rfl hi (by decide) ?_
  refine lw_arg C hS hl (k := 4) dL_law_228 dL_law_229 dL_law_230 dL_law_231 dL_law_232 rfl hi (by decide) ?_
  refine lw_arg C hS hl (k := 5) dL_law_233 dL_law_234 dL_law_235 dL_law_236 dL_law_237 rfl hi (by decide) ?_
  refine lw_call C (ix := 13) (o := 0) (As := [.int (xs (i.toNat + 1)), .int (xs (i.toNat + 2)), .int (xs (i.toNat + 3)), .int (xs (i.toNat + 4)), .int (xs (i.toNat + 5))]) (rest := []) (ci := 11) (na := 5) (pc := 238) (mX11_feedE l) (by decide) (by decide) (tk_520) (tk_103) ⟨by decide +kernel, by decide +kernel, by decide +kernel⟩ (tk_517) (tk_518) rfl (tk_519) (by decide) rfl (am_ni _ _ (by intro v hv; simp at hv; first | exact ⟨_, hv⟩ | (rcases hv with hv | hv <;> exact ⟨_, hv⟩) | (rcases hv with hv | hv | hv <;> exact ⟨_, hv⟩) | (rcases hv with hv | hv | hv | hv <;> exact ⟨_, hv⟩) | (rcases hv with hv | hv | hv | hv | hv <;> exact ⟨_, hv⟩))) rfl (Nat.le_of_ble_eq_true rfl) dL_law_238 hP hS hl (useC_feed hokR) (fun v τ1 H1 locs1 hv hP1 hS1 => ?_)
  obtain ⟨x0, rfl, hm0⟩ := hv
  refine lv_pop C.1 C.2.1 dL_law_241 rfl ?_
  refine lv_aload_n C.1 C.2.1 dL_law_242 rfl (lv_at hl 1 rfl) ?_
  refine lw_arg C hS1 hl (k := 1) dL_law_243 dL_law_244 dL_law_245 dL_law_246 dL_law_247 rfl hi (by decide) ?_
  refine lw_arg C hS1 hl (k := 2) dL_law_248 dL_law_249 dL_law_250 dL_law_251 dL_law_252 rfl hi (by decide) ?_
  refine lw_arg C hS1 hl (k := 3) dL_law_253 dL_law_254 dL_law_255 dL_law_256 dL_law_257 rfl hi (by decide) ?_
  refine lw_arg C hS1 hl (k := 4) dL_law_258 dL_law_259 dL_law_260 dL_law_261 dL_law_262 rfl hi (by decide) ?_
  refine lw_arg C hS1 hl (k := 5) dL_law_263 dL_law_264 dL_law_265 dL_law_266 dL_law_267 rfl hi (by decide) ?_
  refine lw_call C (ix := 17) (o := 51) (As := [.int (xs (i.toNat + 1)), .int (xs (i.toNat + 2)), .int (xs (i.toNat + 3)), .int (xs (i.toNat + 4)), .int (xs (i.toNat + 5))]) (rest := []) (ci := 12) (na := 5) (pc := 268) (mX12_feedE l) (by decide) (by decide) (tk_1508) (tk_120) ⟨by decide +kernel, by decide +kernel, by decide +kernel⟩ (tk_1505) (tk_1506) rfl (tk_1507) (by decide) rfl (am_ni _ _ (by intro v hv; simp at hv; first | exact ⟨_, hv⟩ | (rcases hv with hv | hv <;> exact ⟨_, hv⟩) | (rcases hv with hv | hv | hv <;> exact ⟨_, hv⟩) | (rcases hv with hv | hv | hv | hv <;> exact ⟨_, hv⟩) | (rcases hv with hv | hv | hv | hv | hv <;> exact ⟨_, hv⟩))) rfl (Nat.le_of_ble_eq_true rfl) dL_law_268 hP1 hS1 hl (useR_feed hokR hm0) (fun v τ11 H11 locs11 hv hP11 hS11 => ?_)
  obtain ⟨x1, rfl, hm1⟩ := hv
  refine lv_pop C.1 C.2.1 dL_law_271 rfl ?_
  refine lv_goto (tgt := 1371) C.1 C.2.1 dL_law_272 rfl ?_
  exact back _ _ _ (pair_feed hokR hm0 hm1).1 hP11 hS11
set_option maxRecDepth 100000 in
theorem lw_c1 {p : Program} {l : Launch} {e : Env} {s : State} {m : MethodId} {below : List Frame} {meth : Method} {c : Code} {D : va_G} {aC : Nat → ClassId} {b L : Nat} {xs : Nat → Int32} (C : lw_K p s m c D aC b L xs) {i : Int} (hi : 0 ≤ i ∧ i + 6 ≤ (L : Int) ∧ L ≤ 3072) {σ : am_S} {H : Heap} {locs : List Loc} {lc : Array Slot} (hokR : okR σ) (hP : va_P D vwCl (am_ws SH KF s.heap.size aC 92 σ) H) (hS : va_S (fun q => s.heap.size ≤ q) s.heap H locs) (hl : lv_has lc 4 [(3, .int (Int32.ofInt i)), (2, .ref (s.heap.size + 51)), (1, .ref (s.heap.size + 0)), (0, .ref b)])
    (back : ∀ (τ : am_S) (H : Heap) (locs : List Loc), okR τ → va_P D vwCl (am_ws SH KF s.heap.size aC 92 τ) H → va_S (fun q => s.heap.size ≤ q) s.heap H locs → W p l e room_1 s m #[Value.ref b] below meth c H locs (92 - 0) (am_sz SH KF 92 - am_sz SH KF 0) (lw_Z below #[Value.ref b] s) (F0 m 1371 lc [])) : W p l e room_1 s m #[Value.ref b] below meth c H locs (92 - 0) (am_sz SH KF 92 - am_sz SH KF 0) (lw_Z below #[Value.ref b] s) (F0 m 275 lc []) := by
  have hok : okS σ := hokR.1
  refine lv_aload_n C.1 C.2.1 dL_law_275 rfl (lv_at hl 2 rfl) ?_
  refine lw_arg C hS hl (k := 1) dL_law_276 dL_law_277 dL_law_278 dL_law_279 dL_law_280 rfl hi (by decide) ?_
  refine lw_call C (ix := 18) (o := 0) (As := [.int (xs (i.toNat + 1))]) (rest := []) (ci := 11) (na := 1) (pc := 281) (mX11_backw l) (by decide) (by decide) (tk_528) (tk_103) ⟨by decide +kernel, by decide +kernel, by decide +kernel⟩ (tk_525) (tk_526) rfl (tk_527) (by decide) rfl (am_ni _ _ (by intro v hv; simp at hv; first | exact ⟨_, hv⟩ | (rcases hv with hv | hv <;> exact ⟨_, hv⟩) | (rcases hv with hv | hv | hv <;> exact ⟨_, hv⟩) | (rcases hv with hv | hv | hv | hv <;> exact ⟨_, hv⟩) | (rcases hv with hv | hv | hv | hv | hv <;> exact ⟨_, hv⟩))) rfl (Nat.le_of_ble_eq_true rfl) dL_law_281 hP hS hl (useC_back hokR) (fun v τ1 H1 locs1 hv hP1 hS1 => ?_)
  obtain ⟨x0, rfl, hm0⟩ := hv
  refine lv_pop C.1 C.2.1 dL_law_284 rfl ?_
  refine lv_aload_n C.1 C.2.1 dL_law_285 rfl (lv_at hl 1 rfl) ?_
  refine lw_arg C hS1 hl (k := 1) dL_law_286 dL_law_287 dL_law_288 dL_law_289 dL_law_290 rfl hi (by decide) ?_
  refine lw_call C (ix := 22) (o := 51) (As := [.int (xs (i.toNat + 1))]) (rest := []) (ci := 12) (na := 1) (pc := 291) (mX12_backw l) (by decide) (by decide) (tk_1516) (tk_120) ⟨by decide +kernel, by decide +kernel, by decide +kernel⟩ (tk_1513) (tk_1514) rfl (tk_1515) (by decide) rfl (am_ni _ _ (by intro v hv; simp at hv; first | exact ⟨_, hv⟩ | (rcases hv with hv | hv <;> exact ⟨_, hv⟩) | (rcases hv with hv | hv | hv <;> exact ⟨_, hv⟩) | (rcases hv with hv | hv | hv | hv <;> exact ⟨_, hv⟩) | (rcases hv with hv | hv | hv | hv | hv <;> exact ⟨_, hv⟩))) rfl (Nat.le_of_ble_eq_true rfl) dL_law_291 hP1 hS1 hl (useR_back hokR hm0) (fun v τ11 H11 locs11 hv hP11 hS11 => ?_)
  obtain ⟨x1, rfl, hm1⟩ := hv
  refine lv_pop C.1 C.2.1 dL_law_294 rfl ?_
  refine lv_goto (tgt := 1371) C.1 C.2.1 dL_law_295 rfl ?_
  exact back _ _ _ (pair_back hokR hm0 hm1).1 hP11 hS11
